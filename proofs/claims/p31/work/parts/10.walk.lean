set_option maxHeartbeats 4000000 in
set_option maxRecDepth 100000 in
theorem c_X0_clear {l : Launch} {E : zEn} {S : zSk} {X : zMl} {Z : Nat → Prop} (hl : l.stackTraces = false) (F : Nat) (p0 : Nat) (hk_p0 : K_X0 S p0) (M : zMi) (r : zMi) (hf : f_X0_clear F p0 M = some r) : zM l E yX0_clear cX0_clear 1 (Option.none : Option Jvm.ClassFile.FieldType) { frames := 0, cells := 0, slots := 0, locals := 0 } 0 0 [.ref p0] S Z M X S Z none r X := by
  refine zM.intro (L0 := [(0, .ref p0)]) hl (by decide) (Nat.le_of_ble_eq_true rfl) rfl (fun Γ C0 _ => ?_)
  unfold f_X0_clear at hf
  refine r_aload_n C0 dX0_clear_0 rfl 0 rfl ?_
  refine r_iconst (v := 0) C0 dX0_clear_1 (by decide) ?_
  refine r_putI C0 (C := RX0) (T := TX0) cl_X0 (K_X0_o hk_p0) (k := 1) (by decide) qw_0 rfl rfl rfl rfl hf dX0_clear_2 (fun M1 hf => ?_)
  refine r_aload_n C0 dX0_clear_5 rfl 0 rfl ?_
  refine r_iconst (v := 0) C0 dX0_clear_6 (by decide) ?_
  refine r_putI C0 (C := RX0) (T := TX0) cl_X0 (K_X0_o hk_p0) (k := 2) (by decide) qw_1 rfl rfl rfl rfl hf dX0_clear_7 (fun M2 hf => ?_)
  obtain rfl := Option.some.inj hf
  exact r_vret C0 dX0_clear_10
set_option maxHeartbeats 4000000 in
set_option maxRecDepth 100000 in
theorem c_X0_placeOf {l : Launch} {E : zEn} {S : zSk} {X : zMl} {Z : Nat → Prop} (hl : l.stackTraces = false) (F : Nat) (p0 : Nat) (p1 : Int32) (hk_p0 : K_X0 S p0) (M : zMi) (r : Option Nat) (hf : f_X0_placeOf F p0 p1 M = some r) : zM l E yX0_placeOf cX0_placeOf 3 (Option.some (Jvm.ClassFile.FieldType.object "CableLanding$State")) { frames := 0, cells := 0, slots := 0, locals := 0 } 0 0 [.ref p0, .int p1] S Z M X S Z (some (va_rf r)) M X := by
  refine zM.intro (L0 := [(0, .ref p0), (1, .int p1)]) hl (by decide) (Nat.le_of_ble_eq_true rfl) rfl (fun Γ C0 _ => ?_)
  unfold f_X0_placeOf at hf
  refine r_aload_n C0 dX0_placeOf_0 rfl 0 rfl ?_
  refine r_getI C0 (C := RX0) (T := TX0) cl_X0 (K_X0_o hk_p0) (k := 1) (by decide) qw_0 rfl dX0_placeOf_1 ?_
  refine r_iload_n C0 dX0_placeOf_4 rfl 1 rfl ?_
  refine r_iadd C0 dX0_placeOf_5 ?_
  refine r_bipush (v := 14) C0 dX0_placeOf_6 (by decide) ?_
  refine r_irem' C0 dX0_placeOf_8 (by decide) ?_
  refine r_nm hf (fun x1 hf => ?_)
  refine r_istore_n (L' := [(2, .int x1), (0, .ref p0), (1, .int p1)]) C0 dX0_placeOf_9 rfl (by decide) rfl ?_
  refine r_iload_n C0 dX0_placeOf_10 rfl 0 rfl ?_
  refine r_if_lt C0 32 dX0_placeOf_11 (by decide) hf (fun hf => ?_) (fun hf => ?_)
  · refine r_null C0 dX0_placeOf_32 ?_
    obtain rfl := Option.some.inj hf
    exact r_aret (v := none) C0 dX0_placeOf_33
  · refine r_iload_n C0 dX0_placeOf_14 rfl 0 rfl ?_
    refine r_aload_n C0 dX0_placeOf_15 rfl 1 rfl ?_
    refine r_getR C0 (C := RX0) (T := TX0) cl_X0 (K_X0_o hk_p0) (k := 0) (by decide) qw_2 rfl (K_X0_states_r hk_p0) dX0_placeOf_16 ?_
    refine r_alen (v := 14) C0 ((K_X0_states_k hk_p0)).1 (by decide) rfl dX0_placeOf_19 ?_
    refine r_icmp_ge C0 32 dX0_placeOf_20 (by decide) hf (fun hf => ?_) (fun hf => ?_)
    · refine r_null C0 dX0_placeOf_32 ?_
      obtain rfl := Option.some.inj hf
      exact r_aret (v := none) C0 dX0_placeOf_33
    · refine r_aload_n C0 dX0_placeOf_23 rfl 1 rfl ?_
      refine r_getR C0 (C := RX0) (T := TX0) cl_X0 (K_X0_o hk_p0) (k := 0) (by decide) qw_2 rfl (K_X0_states_r hk_p0) dX0_placeOf_24 ?_
      refine r_iload_n C0 dX0_placeOf_27 rfl 0 rfl ?_
      refine r_aald C0 (g := fun j => p0 + 1 + 1 + 21 * j) ((K_X0_states_k hk_p0)).1 (by decide) (by decide) rfl ((K_X0_states_k hk_p0)).2.1 hf dX0_placeOf_28 (fun hi hf => ?_)
      refine r_nmA hf (fun q2 hq hf => ?_)
      have hk_q2 : K_X5 S q2 := by rw [hq]; exact ((K_X0_states_k hk_p0)).2.2 _ hi
      refine r_goto C0 33 dX0_placeOf_29 (by decide) ?_
      obtain rfl := Option.some.inj hf
      exact r_aret (v := some q2) C0 dX0_placeOf_33
theorem n_X0_placeOf {F : Nat} {p0 : Nat} {p1 : Int32} {M : zMi} {S : zSk} {q : Nat} (h : f_X0_placeOf F p0 p1 M = some (some q)) (hk_p0 : K_X0 S p0) : K_X5 S q := by
  unfold f_X0_placeOf at h
  simp only [bnd, grd] at h
  repeat' split at h
  all_goals cases h
  all_goals exact (K_X0_states_k hk_p0).2.2 _ (inb_lt (by assumption))
set_option maxHeartbeats 4000000 in
set_option maxRecDepth 100000 in
theorem c_X9_copyFrom {l : Launch} {E : zEn} {S : zSk} {X : zMl} {Z : Nat → Prop} (hl : l.stackTraces = false) (F : Nat) (p0 : Nat) (p1 : Nat) (hk_p0 : K_X9 S p0) (hk_p1 : K_X9 S p1) (M : zMi) (r : zMi) (hf : f_X9_copyFrom F p0 p1 M = some r) : zM l E yX9_copyFrom cX9_copyFrom 2 (Option.none : Option Jvm.ClassFile.FieldType) { frames := 0, cells := 0, slots := 0, locals := 0 } 0 0 [.ref p0, .ref p1] S Z M X S Z none r X := by
  refine zM.intro (L0 := [(0, .ref p0), (1, .ref p1)]) hl (by decide) (Nat.le_of_ble_eq_true rfl) rfl (fun Γ C0 _ => ?_)
  unfold f_X9_copyFrom at hf
  refine r_aload_n C0 dX9_copyFrom_0 rfl 0 rfl ?_
  refine r_aload_n C0 dX9_copyFrom_1 rfl 1 rfl ?_
  refine r_getI C0 (C := RX9) (T := TX9) cl_X9 (K_X9_o hk_p1) (k := 0) (by decide) qw_3 rfl dX9_copyFrom_2 ?_
  refine r_putI C0 (C := RX9) (T := TX9) cl_X9 (K_X9_o hk_p0) (k := 0) (by decide) qw_3 rfl rfl rfl rfl hf dX9_copyFrom_5 (fun M1 hf => ?_)
  refine r_aload_n C0 dX9_copyFrom_8 rfl 0 rfl ?_
  refine r_aload_n C0 dX9_copyFrom_9 rfl 1 rfl ?_
  refine r_getI C0 (C := RX9) (T := TX9) cl_X9 (K_X9_o hk_p1) (k := 1) (by decide) qw_4 rfl dX9_copyFrom_10 ?_
  refine r_putI C0 (C := RX9) (T := TX9) cl_X9 (K_X9_o hk_p0) (k := 1) (by decide) qw_4 rfl rfl rfl rfl hf dX9_copyFrom_13 (fun M2 hf => ?_)
  refine r_aload_n C0 dX9_copyFrom_16 rfl 0 rfl ?_
  refine r_aload_n C0 dX9_copyFrom_17 rfl 1 rfl ?_
  refine r_getI C0 (C := RX9) (T := TX9) cl_X9 (K_X9_o hk_p1) (k := 2) (by decide) qw_5 rfl dX9_copyFrom_18 ?_
  refine r_putI C0 (C := RX9) (T := TX9) cl_X9 (K_X9_o hk_p0) (k := 2) (by decide) qw_5 rfl rfl rfl rfl hf dX9_copyFrom_21 (fun M3 hf => ?_)
  refine r_aload_n C0 dX9_copyFrom_24 rfl 0 rfl ?_
  refine r_aload_n C0 dX9_copyFrom_25 rfl 1 rfl ?_
  refine r_getI C0 (C := RX9) (T := TX9) cl_X9 (K_X9_o hk_p1) (k := 3) (by decide) qw_6 rfl dX9_copyFrom_26 ?_
  refine r_putI C0 (C := RX9) (T := TX9) cl_X9 (K_X9_o hk_p0) (k := 3) (by decide) qw_6 rfl rfl rfl rfl hf dX9_copyFrom_29 (fun M4 hf => ?_)
  obtain rfl := Option.some.inj hf
  exact r_vret C0 dX9_copyFrom_32
set_option maxHeartbeats 4000000 in
set_option maxRecDepth 100000 in
theorem c_X3_copyFrom {l : Launch} {E : zEn} {S : zSk} {X : zMl} {Z : Nat → Prop} (hl : l.stackTraces = false) (F : Nat) (p0 : Nat) (p1 : Nat) (hk_p0 : K_X3 S p0) (hk_p1 : K_X3 S p1) (M : zMi) (r : zMi) (hf : f_X3_copyFrom F p0 p1 M = some r) : zM l E yX3_copyFrom cX3_copyFrom 2 (Option.none : Option Jvm.ClassFile.FieldType) { frames := 0, cells := 0, slots := 0, locals := 0 } 0 0 [.ref p0, .ref p1] S Z M X S Z none r X := by
  refine zM.intro (L0 := [(0, .ref p0), (1, .ref p1)]) hl (by decide) (Nat.le_of_ble_eq_true rfl) rfl (fun Γ C0 _ => ?_)
  unfold f_X3_copyFrom at hf
  refine r_aload_n C0 dX3_copyFrom_0 rfl 0 rfl ?_
  refine r_aload_n C0 dX3_copyFrom_1 rfl 1 rfl ?_
  refine r_getI C0 (C := RX3) (T := TX3) cl_X3 (K_X3_o hk_p1) (k := 0) (by decide) qw_7 rfl dX3_copyFrom_2 ?_
  refine r_putI C0 (C := RX3) (T := TX3) cl_X3 (K_X3_o hk_p0) (k := 0) (by decide) qw_7 rfl rfl rfl rfl hf dX3_copyFrom_5 (fun M1 hf => ?_)
  refine r_aload_n C0 dX3_copyFrom_8 rfl 0 rfl ?_
  refine r_aload_n C0 dX3_copyFrom_9 rfl 1 rfl ?_
  refine r_getI C0 (C := RX3) (T := TX3) cl_X3 (K_X3_o hk_p1) (k := 1) (by decide) qw_8 rfl dX3_copyFrom_10 ?_
  refine r_putI C0 (C := RX3) (T := TX3) cl_X3 (K_X3_o hk_p0) (k := 1) (by decide) qw_8 rfl rfl rfl rfl hf dX3_copyFrom_13 (fun M2 hf => ?_)
  refine r_aload_n C0 dX3_copyFrom_16 rfl 0 rfl ?_
  refine r_aload_n C0 dX3_copyFrom_17 rfl 1 rfl ?_
  refine r_getI C0 (C := RX3) (T := TX3) cl_X3 (K_X3_o hk_p1) (k := 2) (by decide) qw_9 rfl dX3_copyFrom_18 ?_
  refine r_putI C0 (C := RX3) (T := TX3) cl_X3 (K_X3_o hk_p0) (k := 2) (by decide) qw_9 rfl rfl rfl rfl hf dX3_copyFrom_21 (fun M3 hf => ?_)
  refine r_aload_n C0 dX3_copyFrom_24 rfl 0 rfl ?_
  refine r_aload_n C0 dX3_copyFrom_25 rfl 1 rfl ?_
  refine r_getI C0 (C := RX3) (T := TX3) cl_X3 (K_X3_o hk_p1) (k := 3) (by decide) qw_10 rfl dX3_copyFrom_26 ?_
  refine r_putI C0 (C := RX3) (T := TX3) cl_X3 (K_X3_o hk_p0) (k := 3) (by decide) qw_10 rfl rfl rfl rfl hf dX3_copyFrom_29 (fun M4 hf => ?_)
  refine r_aload_n C0 dX3_copyFrom_32 rfl 0 rfl ?_
  refine r_aload_n C0 dX3_copyFrom_33 rfl 1 rfl ?_
  refine r_getI C0 (C := RX3) (T := TX3) cl_X3 (K_X3_o hk_p1) (k := 4) (by decide) qw_11 rfl dX3_copyFrom_34 ?_
  refine r_putI C0 (C := RX3) (T := TX3) cl_X3 (K_X3_o hk_p0) (k := 4) (by decide) qw_11 rfl rfl rfl rfl hf dX3_copyFrom_37 (fun M5 hf => ?_)
  refine r_aload_n C0 dX3_copyFrom_40 rfl 0 rfl ?_
  refine r_aload_n C0 dX3_copyFrom_41 rfl 1 rfl ?_
  refine r_getI C0 (C := RX3) (T := TX3) cl_X3 (K_X3_o hk_p1) (k := 5) (by decide) qw_12 rfl dX3_copyFrom_42 ?_
  refine r_putI C0 (C := RX3) (T := TX3) cl_X3 (K_X3_o hk_p0) (k := 5) (by decide) qw_12 rfl rfl rfl rfl hf dX3_copyFrom_45 (fun M6 hf => ?_)
  refine r_aload_n C0 dX3_copyFrom_48 rfl 0 rfl ?_
  refine r_aload_n C0 dX3_copyFrom_49 rfl 1 rfl ?_
  refine r_getI C0 (C := RX3) (T := TX3) cl_X3 (K_X3_o hk_p1) (k := 6) (by decide) qw_13 rfl dX3_copyFrom_50 ?_
  refine r_putI C0 (C := RX3) (T := TX3) cl_X3 (K_X3_o hk_p0) (k := 6) (by decide) qw_13 rfl rfl rfl rfl hf dX3_copyFrom_53 (fun M7 hf => ?_)
  refine r_aload_n C0 dX3_copyFrom_56 rfl 0 rfl ?_
  refine r_aload_n C0 dX3_copyFrom_57 rfl 1 rfl ?_
  refine r_getI C0 (C := RX3) (T := TX3) cl_X3 (K_X3_o hk_p1) (k := 7) (by decide) qw_14 rfl dX3_copyFrom_58 ?_
  refine r_putI C0 (C := RX3) (T := TX3) cl_X3 (K_X3_o hk_p0) (k := 7) (by decide) qw_14 rfl rfl rfl rfl hf dX3_copyFrom_61 (fun M8 hf => ?_)
  obtain rfl := Option.some.inj hf
  exact r_vret C0 dX3_copyFrom_64
set_option maxHeartbeats 4000000 in
set_option maxRecDepth 100000 in
theorem g_X8_copyFrom_10 {Γ : zCx} {E : zEn} {S : zSk} {X : zMl} {Z : Nat → Prop} (C0 : zCt Γ E RX8 cX8_copyFrom 3 (Option.none : Option Jvm.ClassFile.FieldType) [] { frames := 0, cells := 0, slots := 0, locals := 0 }) (F : Nat) (p0 : Nat) (p1 : Nat) (hk_p0 : K_X8 S p0) (hk_p1 : K_X8 S p1) : ∀ (n : Nat) (v2 : Int32) (M : zMi) (r : zMi) , f_X8_copyFrom_10 F p0 p1 n v2 M = some r → zG Γ (zQ Γ E 0 0 S Z none r X) E 3 0 0 S Z M X 10 [(0, .ref p0), (1, .ref p1), (2, .int v2)] [] := by
  intro n
  induction n with
  | zero => intro v2 M r; intro hf; cases hf
  | succ n ih =>
    intro v2 M r hf
    refine r_iload_n C0 dX8_copyFrom_10 rfl 2 rfl ?_
    refine r_aload_n C0 dX8_copyFrom_11 rfl 0 rfl ?_
    refine r_getR C0 (C := RX8) (T := TX8) cl_X8 (K_X8_o hk_p0) (k := 1) (by decide) qw_15 rfl (K_X8_row_r hk_p0) dX8_copyFrom_12 ?_
    refine r_alen (v := 30) C0 (K_X8_row_k hk_p0) (by decide) rfl dX8_copyFrom_15 ?_
    refine r_icmp_ge C0 46 dX8_copyFrom_16 (by decide) hf (fun hf => ?_) (fun hf => ?_)
    · obtain rfl := Option.some.inj hf
      exact r_vret C0 dX8_copyFrom_46
    · refine r_iload_n C0 dX8_copyFrom_19 rfl 2 rfl ?_
      refine r_aload_n C0 dX8_copyFrom_20 rfl 1 rfl ?_
      refine r_getR C0 (C := RX8) (T := TX8) cl_X8 (K_X8_o hk_p1) (k := 1) (by decide) qw_15 rfl (K_X8_row_r hk_p1) dX8_copyFrom_21 ?_
      refine r_alen (v := 30) C0 (K_X8_row_k hk_p1) (by decide) rfl dX8_copyFrom_24 ?_
      refine r_icmp_ge C0 46 dX8_copyFrom_25 (by decide) hf (fun hf => ?_) (fun hf => ?_)
      · obtain rfl := Option.some.inj hf
        exact r_vret C0 dX8_copyFrom_46
      · refine r_aload_n C0 dX8_copyFrom_28 rfl 0 rfl ?_
        refine r_getR C0 (C := RX8) (T := TX8) cl_X8 (K_X8_o hk_p0) (k := 1) (by decide) qw_15 rfl (K_X8_row_r hk_p0) dX8_copyFrom_29 ?_
        refine r_iload_n C0 dX8_copyFrom_32 rfl 2 rfl ?_
        refine r_aload_n C0 dX8_copyFrom_33 rfl 1 rfl ?_
        refine r_getR C0 (C := RX8) (T := TX8) cl_X8 (K_X8_o hk_p1) (k := 1) (by decide) qw_15 rfl (K_X8_row_r hk_p1) dX8_copyFrom_34 ?_
        refine r_iload_n C0 dX8_copyFrom_37 rfl 2 rfl ?_
        refine r_iald C0 (K_X8_row_k hk_p1) hf dX8_copyFrom_38 (fun hf => ?_)
        refine r_iast C0 (K_X8_row_k hk_p0) hf dX8_copyFrom_39 (fun M1 hf => ?_)
        refine r_iinc (j := 2) (v := (v2 + (1 : Int32))) (L' := [(2, .int (v2 + (1 : Int32))), (0, .ref p0), (1, .ref p1)]) C0 dX8_copyFrom_40 rfl rfl (by decide) rfl ?_
        refine r_goto C0 10 dX8_copyFrom_43 (by decide) ?_
        refine r_sub (L' := [(0, .ref p0), (1, .ref p1), (2, .int (v2 + (1 : Int32)))]) [1, 2, 0] rfl ?_
        exact ih (v2 + (1 : Int32)) M1 _  hf
set_option maxHeartbeats 4000000 in
set_option maxRecDepth 100000 in
theorem c_X8_copyFrom {l : Launch} {E : zEn} {S : zSk} {X : zMl} {Z : Nat → Prop} (hl : l.stackTraces = false) (F : Nat) (p0 : Nat) (p1 : Nat) (hk_p0 : K_X8 S p0) (hk_p1 : K_X8 S p1) (M : zMi) (r : zMi) (hf : f_X8_copyFrom F p0 p1 M = some r) : zM l E yX8_copyFrom cX8_copyFrom 3 (Option.none : Option Jvm.ClassFile.FieldType) { frames := 0, cells := 0, slots := 0, locals := 0 } 0 0 [.ref p0, .ref p1] S Z M X S Z none r X := by
  refine zM.intro (L0 := [(0, .ref p0), (1, .ref p1)]) hl (by decide) (Nat.le_of_ble_eq_true rfl) rfl (fun Γ C0 _ => ?_)
  unfold f_X8_copyFrom at hf
  refine r_aload_n C0 dX8_copyFrom_0 rfl 0 rfl ?_
  refine r_aload_n C0 dX8_copyFrom_1 rfl 1 rfl ?_
  refine r_getI C0 (C := RX8) (T := TX8) cl_X8 (K_X8_o hk_p1) (k := 0) (by decide) qw_16 rfl dX8_copyFrom_2 ?_
  refine r_putI C0 (C := RX8) (T := TX8) cl_X8 (K_X8_o hk_p0) (k := 0) (by decide) qw_16 rfl rfl rfl rfl hf dX8_copyFrom_5 (fun M1 hf => ?_)
  refine r_iconst (v := 0) C0 dX8_copyFrom_8 (by decide) ?_
  refine r_istore_n (L' := [(2, .int (0 : Int32)), (0, .ref p0), (1, .ref p1)]) C0 dX8_copyFrom_9 rfl (by decide) rfl ?_
  refine r_sub (L' := [(0, .ref p0), (1, .ref p1), (2, .int (0 : Int32))]) [1, 2, 0] rfl ?_
  exact g_X8_copyFrom_10 C0 F p0 p1 hk_p0 hk_p1 F (0 : Int32) M1 _  hf
set_option maxHeartbeats 4000000 in
set_option maxRecDepth 100000 in
theorem g_X6_copyFrom_54 {Γ : zCx} {E : zEn} {S : zSk} {X : zMl} {Z : Nat → Prop} (C0 : zCt Γ E RX6 cX6_copyFrom 3 (Option.none : Option Jvm.ClassFile.FieldType) [] { frames := 0, cells := 0, slots := 0, locals := 0 }) (F : Nat) (p0 : Nat) (p1 : Nat) (hk_p0 : K_X6 S p0) (hk_p1 : K_X6 S p1)  (M : zMi) (r : zMi)  (hf : f_X6_copyFrom_54 F p0 p1  M = some r) : zG Γ (zQ Γ E 0 0 S Z none r X) E 3 0 0 S Z M X 54 [(0, .ref p0), (1, .ref p1)] [] := by
  unfold f_X6_copyFrom_54 at hf
  refine r_aload_n C0 dX6_copyFrom_54 rfl 0 rfl ?_
  refine r_aload_n C0 dX6_copyFrom_55 rfl 1 rfl ?_
  refine r_getI C0 (C := RX6) (T := TX6) cl_X6 (K_X6_o hk_p1) (k := 3) (by decide) qw_17 rfl dX6_copyFrom_56 ?_
  refine r_putZ C0 (C := RX6) (T := TX6) cl_X6 (K_X6_o hk_p0) (k := 3) (by decide) qw_17 rfl rfl rfl hf dX6_copyFrom_59 (fun M1 hf => ?_)
  refine r_aload_n C0 dX6_copyFrom_62 rfl 0 rfl ?_
  refine r_aload_n C0 dX6_copyFrom_63 rfl 1 rfl ?_
  refine r_getI C0 (C := RX6) (T := TX6) cl_X6 (K_X6_o hk_p1) (k := 4) (by decide) qw_18 rfl dX6_copyFrom_64 ?_
  refine r_putI C0 (C := RX6) (T := TX6) cl_X6 (K_X6_o hk_p0) (k := 4) (by decide) qw_18 rfl rfl rfl rfl hf dX6_copyFrom_67 (fun M2 hf => ?_)
  refine r_aload_n C0 dX6_copyFrom_70 rfl 0 rfl ?_
  refine r_aload_n C0 dX6_copyFrom_71 rfl 1 rfl ?_
  refine r_getI C0 (C := RX6) (T := TX6) cl_X6 (K_X6_o hk_p1) (k := 5) (by decide) qw_19 rfl dX6_copyFrom_72 ?_
  refine r_putI C0 (C := RX6) (T := TX6) cl_X6 (K_X6_o hk_p0) (k := 5) (by decide) qw_19 rfl rfl rfl rfl hf dX6_copyFrom_75 (fun M3 hf => ?_)
  refine r_aload_n C0 dX6_copyFrom_78 rfl 0 rfl ?_
  refine r_aload_n C0 dX6_copyFrom_79 rfl 1 rfl ?_
  refine r_getI C0 (C := RX6) (T := TX6) cl_X6 (K_X6_o hk_p1) (k := 6) (by decide) qw_20 rfl dX6_copyFrom_80 ?_
  refine r_putI C0 (C := RX6) (T := TX6) cl_X6 (K_X6_o hk_p0) (k := 6) (by decide) qw_20 rfl rfl rfl rfl hf dX6_copyFrom_83 (fun M4 hf => ?_)
  obtain rfl := Option.some.inj hf
  exact r_vret C0 dX6_copyFrom_86
set_option maxHeartbeats 4000000 in
set_option maxRecDepth 100000 in
theorem g_X6_copyFrom_18 {Γ : zCx} {E : zEn} {S : zSk} {X : zMl} {Z : Nat → Prop} (C0 : zCt Γ E RX6 cX6_copyFrom 3 (Option.none : Option Jvm.ClassFile.FieldType) [] { frames := 0, cells := 0, slots := 0, locals := 0 }) (F : Nat) (p0 : Nat) (p1 : Nat) (hk_p0 : K_X6 S p0) (hk_p1 : K_X6 S p1) : ∀ (n : Nat) (v2 : Int32) (M : zMi) (r : zMi) , f_X6_copyFrom_18 F p0 p1 n v2 M = some r → zG Γ (zQ Γ E 0 0 S Z none r X) E 3 0 0 S Z M X 18 [(0, .ref p0), (1, .ref p1), (2, .int v2)] [] := by
  intro n
  induction n with
  | zero => intro v2 M r; intro hf; cases hf
  | succ n ih =>
    intro v2 M r hf
    refine r_iload_n C0 dX6_copyFrom_18 rfl 2 rfl ?_
    refine r_aload_n C0 dX6_copyFrom_19 rfl 0 rfl ?_
    refine r_getR C0 (C := RX6) (T := TX6) cl_X6 (K_X6_o hk_p0) (k := 2) (by decide) qw_21 rfl (K_X6_rest_r hk_p0) dX6_copyFrom_20 ?_
    refine r_alen (v := 3) C0 (K_X6_rest_k hk_p0) (by decide) rfl dX6_copyFrom_23 ?_
    refine r_icmp_ge C0 54 dX6_copyFrom_24 (by decide) hf (fun hf => ?_) (fun hf => ?_)
    · refine r_sub (L' := [(0, .ref p0), (1, .ref p1)]) [0, 1] rfl ?_
      exact g_X6_copyFrom_54 C0 F p0 p1 hk_p0 hk_p1  M _  hf
    · refine r_iload_n C0 dX6_copyFrom_27 rfl 2 rfl ?_
      refine r_aload_n C0 dX6_copyFrom_28 rfl 1 rfl ?_
      refine r_getR C0 (C := RX6) (T := TX6) cl_X6 (K_X6_o hk_p1) (k := 2) (by decide) qw_21 rfl (K_X6_rest_r hk_p1) dX6_copyFrom_29 ?_
      refine r_alen (v := 3) C0 (K_X6_rest_k hk_p1) (by decide) rfl dX6_copyFrom_32 ?_
      refine r_icmp_ge C0 54 dX6_copyFrom_33 (by decide) hf (fun hf => ?_) (fun hf => ?_)
      · refine r_sub (L' := [(0, .ref p0), (1, .ref p1)]) [0, 1] rfl ?_
        exact g_X6_copyFrom_54 C0 F p0 p1 hk_p0 hk_p1  M _  hf
      · refine r_aload_n C0 dX6_copyFrom_36 rfl 0 rfl ?_
        refine r_getR C0 (C := RX6) (T := TX6) cl_X6 (K_X6_o hk_p0) (k := 2) (by decide) qw_21 rfl (K_X6_rest_r hk_p0) dX6_copyFrom_37 ?_
        refine r_iload_n C0 dX6_copyFrom_40 rfl 2 rfl ?_
        refine r_aload_n C0 dX6_copyFrom_41 rfl 1 rfl ?_
        refine r_getR C0 (C := RX6) (T := TX6) cl_X6 (K_X6_o hk_p1) (k := 2) (by decide) qw_21 rfl (K_X6_rest_r hk_p1) dX6_copyFrom_42 ?_
        refine r_iload_n C0 dX6_copyFrom_45 rfl 2 rfl ?_
        refine r_iald C0 (K_X6_rest_k hk_p1) hf dX6_copyFrom_46 (fun hf => ?_)
        refine r_iast C0 (K_X6_rest_k hk_p0) hf dX6_copyFrom_47 (fun M1 hf => ?_)
        refine r_iinc (j := 2) (v := (v2 + (1 : Int32))) (L' := [(2, .int (v2 + (1 : Int32))), (0, .ref p0), (1, .ref p1)]) C0 dX6_copyFrom_48 rfl rfl (by decide) rfl ?_
        refine r_goto C0 18 dX6_copyFrom_51 (by decide) ?_
        refine r_sub (L' := [(0, .ref p0), (1, .ref p1), (2, .int (v2 + (1 : Int32)))]) [1, 2, 0] rfl ?_
        exact ih (v2 + (1 : Int32)) M1 _  hf
set_option maxHeartbeats 4000000 in
set_option maxRecDepth 100000 in
theorem c_X6_copyFrom {l : Launch} {E : zEn} {S : zSk} {X : zMl} {Z : Nat → Prop} (hl : l.stackTraces = false) (F : Nat) (p0 : Nat) (p1 : Nat) (hk_p0 : K_X6 S p0) (hk_p1 : K_X6 S p1) (M : zMi) (r : zMi) (hf : f_X6_copyFrom F p0 p1 M = some r) : zM l E yX6_copyFrom cX6_copyFrom 3 (Option.none : Option Jvm.ClassFile.FieldType) { frames := 0, cells := 0, slots := 0, locals := 0 } 0 0 [.ref p0, .ref p1] S Z M X S Z none r X := by
  refine zM.intro (L0 := [(0, .ref p0), (1, .ref p1)]) hl (by decide) (Nat.le_of_ble_eq_true rfl) rfl (fun Γ C0 _ => ?_)
  unfold f_X6_copyFrom at hf
  refine r_aload_n C0 dX6_copyFrom_0 rfl 0 rfl ?_
  refine r_aload_n C0 dX6_copyFrom_1 rfl 1 rfl ?_
  refine r_getI C0 (C := RX6) (T := TX6) cl_X6 (K_X6_o hk_p1) (k := 0) (by decide) qw_22 rfl dX6_copyFrom_2 ?_
  refine r_putI C0 (C := RX6) (T := TX6) cl_X6 (K_X6_o hk_p0) (k := 0) (by decide) qw_22 rfl rfl rfl rfl hf dX6_copyFrom_5 (fun M1 hf => ?_)
  refine r_aload_n C0 dX6_copyFrom_8 rfl 0 rfl ?_
  refine r_aload_n C0 dX6_copyFrom_9 rfl 1 rfl ?_
  refine r_getI C0 (C := RX6) (T := TX6) cl_X6 (K_X6_o hk_p1) (k := 1) (by decide) qw_23 rfl dX6_copyFrom_10 ?_
  refine r_putI C0 (C := RX6) (T := TX6) cl_X6 (K_X6_o hk_p0) (k := 1) (by decide) qw_23 rfl rfl rfl rfl hf dX6_copyFrom_13 (fun M2 hf => ?_)
  refine r_iconst (v := 0) C0 dX6_copyFrom_16 (by decide) ?_
  refine r_istore_n (L' := [(2, .int (0 : Int32)), (0, .ref p0), (1, .ref p1)]) C0 dX6_copyFrom_17 rfl (by decide) rfl ?_
  refine r_sub (L' := [(0, .ref p0), (1, .ref p1), (2, .int (0 : Int32))]) [1, 2, 0] rfl ?_
  exact g_X6_copyFrom_18 C0 F p0 p1 hk_p0 hk_p1 F (0 : Int32) M2 _  hf
set_option maxHeartbeats 4000000 in
set_option maxRecDepth 100000 in
theorem c_X1_copyFrom {l : Launch} {E : zEn} {S : zSk} {X : zMl} {Z : Nat → Prop} (hl : l.stackTraces = false) (F : Nat) (p0 : Nat) (p1 : Nat) (hk_p0 : K_X1 S p0) (hk_p1 : K_X1 S p1) (M : zMi) (r : zMi) (hf : f_X1_copyFrom F p0 p1 M = some r) : zM l E yX1_copyFrom cX1_copyFrom 2 (Option.none : Option Jvm.ClassFile.FieldType) { frames := 0, cells := 0, slots := 0, locals := 0 } 0 0 [.ref p0, .ref p1] S Z M X S Z none r X := by
  refine zM.intro (L0 := [(0, .ref p0), (1, .ref p1)]) hl (by decide) (Nat.le_of_ble_eq_true rfl) rfl (fun Γ C0 _ => ?_)
  unfold f_X1_copyFrom at hf
  refine r_aload_n C0 dX1_copyFrom_0 rfl 0 rfl ?_
  refine r_aload_n C0 dX1_copyFrom_1 rfl 1 rfl ?_
  refine r_getI C0 (C := RX1) (T := TX1) cl_X1 (K_X1_o hk_p1) (k := 0) (by decide) qw_24 rfl dX1_copyFrom_2 ?_
  refine r_putI C0 (C := RX1) (T := TX1) cl_X1 (K_X1_o hk_p0) (k := 0) (by decide) qw_24 rfl rfl rfl rfl hf dX1_copyFrom_5 (fun M1 hf => ?_)
  refine r_aload_n C0 dX1_copyFrom_8 rfl 0 rfl ?_
  refine r_aload_n C0 dX1_copyFrom_9 rfl 1 rfl ?_
  refine r_getI C0 (C := RX1) (T := TX1) cl_X1 (K_X1_o hk_p1) (k := 1) (by decide) qw_25 rfl dX1_copyFrom_10 ?_
  refine r_putI C0 (C := RX1) (T := TX1) cl_X1 (K_X1_o hk_p0) (k := 1) (by decide) qw_25 rfl rfl rfl rfl hf dX1_copyFrom_13 (fun M2 hf => ?_)
  refine r_aload_n C0 dX1_copyFrom_16 rfl 0 rfl ?_
  refine r_aload_n C0 dX1_copyFrom_17 rfl 1 rfl ?_
  refine r_getI C0 (C := RX1) (T := TX1) cl_X1 (K_X1_o hk_p1) (k := 2) (by decide) qw_26 rfl dX1_copyFrom_18 ?_
  refine r_putI C0 (C := RX1) (T := TX1) cl_X1 (K_X1_o hk_p0) (k := 2) (by decide) qw_26 rfl rfl rfl rfl hf dX1_copyFrom_21 (fun M3 hf => ?_)
  refine r_aload_n C0 dX1_copyFrom_24 rfl 0 rfl ?_
  refine r_aload_n C0 dX1_copyFrom_25 rfl 1 rfl ?_
  refine r_getI C0 (C := RX1) (T := TX1) cl_X1 (K_X1_o hk_p1) (k := 3) (by decide) qw_27 rfl dX1_copyFrom_26 ?_
  refine r_putI C0 (C := RX1) (T := TX1) cl_X1 (K_X1_o hk_p0) (k := 3) (by decide) qw_27 rfl rfl rfl rfl hf dX1_copyFrom_29 (fun M4 hf => ?_)
  refine r_aload_n C0 dX1_copyFrom_32 rfl 0 rfl ?_
  refine r_aload_n C0 dX1_copyFrom_33 rfl 1 rfl ?_
  refine r_getI C0 (C := RX1) (T := TX1) cl_X1 (K_X1_o hk_p1) (k := 4) (by decide) qw_28 rfl dX1_copyFrom_34 ?_
  refine r_putI C0 (C := RX1) (T := TX1) cl_X1 (K_X1_o hk_p0) (k := 4) (by decide) qw_28 rfl rfl rfl rfl hf dX1_copyFrom_37 (fun M5 hf => ?_)
  refine r_aload_n C0 dX1_copyFrom_40 rfl 0 rfl ?_
  refine r_aload_n C0 dX1_copyFrom_41 rfl 1 rfl ?_
  refine r_getI C0 (C := RX1) (T := TX1) cl_X1 (K_X1_o hk_p1) (k := 5) (by decide) qw_29 rfl dX1_copyFrom_42 ?_
  refine r_putI C0 (C := RX1) (T := TX1) cl_X1 (K_X1_o hk_p0) (k := 5) (by decide) qw_29 rfl rfl rfl rfl hf dX1_copyFrom_45 (fun M6 hf => ?_)
  refine r_aload_n C0 dX1_copyFrom_48 rfl 0 rfl ?_
  refine r_aload_n C0 dX1_copyFrom_49 rfl 1 rfl ?_
  refine r_getI C0 (C := RX1) (T := TX1) cl_X1 (K_X1_o hk_p1) (k := 6) (by decide) qw_30 rfl dX1_copyFrom_50 ?_
  refine r_putI C0 (C := RX1) (T := TX1) cl_X1 (K_X1_o hk_p0) (k := 6) (by decide) qw_30 rfl rfl rfl rfl hf dX1_copyFrom_53 (fun M7 hf => ?_)
  obtain rfl := Option.some.inj hf
  exact r_vret C0 dX1_copyFrom_56
set_option maxHeartbeats 4000000 in
set_option maxRecDepth 100000 in
theorem g_X5_copyFrom_82 {Γ : zCx} {E : zEn} {S : zSk} {X : zMl} {Z : Nat → Prop} (C0 : zCt Γ E RX5 cX5_copyFrom 3 (Option.none : Option Jvm.ClassFile.FieldType) [] { frames := 1, cells := 0, slots := 0, locals := 22 }) (F : Nat) (p0 : Nat) (p1 : Nat) (hk_p0 : K_X5 S p0) (hk_p1 : K_X5 S p1)  (M : zMi) (r : zMi)  (hf : f_X5_copyFrom_82 F p0 p1  M = some r) : zG Γ (zQ Γ E 0 0 S Z none r X) E 3 0 0 S Z M X 82 [(0, .ref p0), (1, .ref p1)] [] := by
  unfold f_X5_copyFrom_82 at hf
  refine r_aload_n C0 dX5_copyFrom_82 rfl 0 rfl ?_
  refine r_getR C0 (C := RX5) (T := TX5) cl_X5 (K_X5_o hk_p0) (k := 2) (by decide) qw_31 rfl (K_X5_weather_r hk_p0) dX5_copyFrom_83 ?_
  refine r_aload_n C0 dX5_copyFrom_86 rfl 1 rfl ?_
  refine r_getR C0 (C := RX5) (T := TX5) cl_X5 (K_X5_o hk_p1) (k := 2) (by decide) qw_31 rfl (K_X5_weather_r hk_p1) dX5_copyFrom_87 ?_
  refine r_callVm C0 (st := []) [.ref (p1 + 3)] (p0 + 3) hf vs_0 (fun hl r1 hr1 => c_X8_copyFrom hl F (p0 + 3) (p1 + 3) (K_X5_weather_k hk_p0) (K_X5_weather_k hk_p1) M r1 hr1) (K_X8_o (K_X5_weather_k hk_p0)) rfl rfl rfl rfl (Nat.le_of_ble_eq_true rfl) dX5_copyFrom_90 (zrm_ok rfl) (fun r1 hr1 hf => ?_)
  refine r_aload_n C0 dX5_copyFrom_93 rfl 0 rfl ?_
  refine r_getR C0 (C := RX5) (T := TX5) cl_X5 (K_X5_o hk_p0) (k := 3) (by decide) qw_37 rfl (K_X5_teams_r hk_p0) dX5_copyFrom_94 ?_
  refine r_aload_n C0 dX5_copyFrom_97 rfl 1 rfl ?_
  refine r_getR C0 (C := RX5) (T := TX5) cl_X5 (K_X5_o hk_p1) (k := 3) (by decide) qw_37 rfl (K_X5_teams_r hk_p1) dX5_copyFrom_98 ?_
  refine r_callVm C0 (st := []) [.ref (p1 + 5)] (p0 + 5) hf vs_1 (fun hl r2 hr2 => c_X6_copyFrom hl F (p0 + 5) (p1 + 5) (K_X5_teams_k hk_p0) (K_X5_teams_k hk_p1) r1 r2 hr2) (K_X6_o (K_X5_teams_k hk_p0)) rfl rfl rfl rfl (Nat.le_of_ble_eq_true rfl) dX5_copyFrom_101 (zrm_ok rfl) (fun r2 hr2 hf => ?_)
  refine r_aload_n C0 dX5_copyFrom_104 rfl 0 rfl ?_
  refine r_getR C0 (C := RX5) (T := TX5) cl_X5 (K_X5_o hk_p0) (k := 4) (by decide) qw_43 rfl (K_X5_ledger_r hk_p0) dX5_copyFrom_105 ?_
  refine r_aload_n C0 dX5_copyFrom_108 rfl 1 rfl ?_
  refine r_getR C0 (C := RX5) (T := TX5) cl_X5 (K_X5_o hk_p1) (k := 4) (by decide) qw_43 rfl (K_X5_ledger_r hk_p1) dX5_copyFrom_109 ?_
  refine r_callVm C0 (st := []) [.ref (p1 + 7)] (p0 + 7) hf vs_2 (fun hl r3 hr3 => c_X1_copyFrom hl F (p0 + 7) (p1 + 7) (K_X5_ledger_k hk_p0) (K_X5_ledger_k hk_p1) r2 r3 hr3) (K_X1_o (K_X5_ledger_k hk_p0)) rfl rfl rfl rfl (Nat.le_of_ble_eq_true rfl) dX5_copyFrom_112 (zrm_ok rfl) (fun r3 hr3 hf => ?_)
  refine r_aload_n C0 dX5_copyFrom_115 rfl 0 rfl ?_
  refine r_aload_n C0 dX5_copyFrom_116 rfl 1 rfl ?_
  refine r_getI C0 (C := RX5) (T := TX5) cl_X5 (K_X5_o hk_p1) (k := 5) (by decide) qw_49 rfl dX5_copyFrom_117 ?_
  refine r_putI C0 (C := RX5) (T := TX5) cl_X5 (K_X5_o hk_p0) (k := 5) (by decide) qw_49 rfl rfl rfl rfl hf dX5_copyFrom_120 (fun M4 hf => ?_)
  refine r_aload_n C0 dX5_copyFrom_123 rfl 0 rfl ?_
  refine r_aload_n C0 dX5_copyFrom_124 rfl 1 rfl ?_
  refine r_getI C0 (C := RX5) (T := TX5) cl_X5 (K_X5_o hk_p1) (k := 6) (by decide) qw_50 rfl dX5_copyFrom_125 ?_
  refine r_putI C0 (C := RX5) (T := TX5) cl_X5 (K_X5_o hk_p0) (k := 6) (by decide) qw_50 rfl rfl rfl rfl hf dX5_copyFrom_128 (fun M5 hf => ?_)
  refine r_aload_n C0 dX5_copyFrom_131 rfl 0 rfl ?_
  refine r_aload_n C0 dX5_copyFrom_132 rfl 1 rfl ?_
  refine r_getI C0 (C := RX5) (T := TX5) cl_X5 (K_X5_o hk_p1) (k := 7) (by decide) qw_51 rfl dX5_copyFrom_133 ?_
  refine r_putI C0 (C := RX5) (T := TX5) cl_X5 (K_X5_o hk_p0) (k := 7) (by decide) qw_51 rfl rfl rfl rfl hf dX5_copyFrom_136 (fun M6 hf => ?_)
  refine r_aload_n C0 dX5_copyFrom_139 rfl 0 rfl ?_
  refine r_aload_n C0 dX5_copyFrom_140 rfl 1 rfl ?_
  refine r_getI C0 (C := RX5) (T := TX5) cl_X5 (K_X5_o hk_p1) (k := 8) (by decide) qw_52 rfl dX5_copyFrom_141 ?_
  refine r_putI C0 (C := RX5) (T := TX5) cl_X5 (K_X5_o hk_p0) (k := 8) (by decide) qw_52 rfl rfl rfl rfl hf dX5_copyFrom_144 (fun M7 hf => ?_)
  refine r_aload_n C0 dX5_copyFrom_147 rfl 0 rfl ?_
  refine r_aload_n C0 dX5_copyFrom_148 rfl 1 rfl ?_
  refine r_getI C0 (C := RX5) (T := TX5) cl_X5 (K_X5_o hk_p1) (k := 9) (by decide) qw_53 rfl dX5_copyFrom_149 ?_
  refine r_putI C0 (C := RX5) (T := TX5) cl_X5 (K_X5_o hk_p0) (k := 9) (by decide) qw_53 rfl rfl rfl rfl hf dX5_copyFrom_152 (fun M8 hf => ?_)
  refine r_aload_n C0 dX5_copyFrom_155 rfl 0 rfl ?_
  refine r_aload_n C0 dX5_copyFrom_156 rfl 1 rfl ?_
  refine r_getI C0 (C := RX5) (T := TX5) cl_X5 (K_X5_o hk_p1) (k := 10) (by decide) qw_54 rfl dX5_copyFrom_157 ?_
  refine r_putI C0 (C := RX5) (T := TX5) cl_X5 (K_X5_o hk_p0) (k := 10) (by decide) qw_54 rfl rfl rfl rfl hf dX5_copyFrom_160 (fun M9 hf => ?_)
  refine r_aload_n C0 dX5_copyFrom_163 rfl 0 rfl ?_
  refine r_aload_n C0 dX5_copyFrom_164 rfl 1 rfl ?_
  refine r_getI C0 (C := RX5) (T := TX5) cl_X5 (K_X5_o hk_p1) (k := 11) (by decide) qw_55 rfl dX5_copyFrom_165 ?_
  refine r_putI C0 (C := RX5) (T := TX5) cl_X5 (K_X5_o hk_p0) (k := 11) (by decide) qw_55 rfl rfl rfl rfl hf dX5_copyFrom_168 (fun M10 hf => ?_)
  obtain rfl := Option.some.inj hf
  exact r_vret C0 dX5_copyFrom_171
set_option maxHeartbeats 4000000 in
set_option maxRecDepth 100000 in
theorem g_X5_copyFrom_43 {Γ : zCx} {E : zEn} {S : zSk} {X : zMl} {Z : Nat → Prop} (C0 : zCt Γ E RX5 cX5_copyFrom 3 (Option.none : Option Jvm.ClassFile.FieldType) [] { frames := 1, cells := 0, slots := 0, locals := 22 }) (F : Nat) (p0 : Nat) (p1 : Nat) (hk_p0 : K_X5 S p0) (hk_p1 : K_X5 S p1) : ∀ (n : Nat) (v2 : Int32) (M : zMi) (r : zMi) , f_X5_copyFrom_43 F p0 p1 n v2 M = some r → zG Γ (zQ Γ E 0 0 S Z none r X) E 3 0 0 S Z M X 43 [(0, .ref p0), (1, .ref p1), (2, .int v2)] [] := by
  intro n
  induction n with
  | zero => intro v2 M r; intro hf; cases hf
  | succ n ih =>
    intro v2 M r hf
    refine r_iload_n C0 dX5_copyFrom_43 rfl 2 rfl ?_
    refine r_aload_n C0 dX5_copyFrom_44 rfl 0 rfl ?_
    refine r_getR C0 (C := RX5) (T := TX5) cl_X5 (K_X5_o hk_p0) (k := 1) (by decide) qw_56 rfl (K_X5_ships_r hk_p0) dX5_copyFrom_45 ?_
    refine r_alen (v := 4) C0 ((K_X5_ships_k hk_p0)).1 (by decide) rfl dX5_copyFrom_48 ?_
    refine r_icmp_ge C0 82 dX5_copyFrom_49 (by decide) hf (fun hf => ?_) (fun hf => ?_)
    · refine r_sub (L' := [(0, .ref p0), (1, .ref p1)]) [0, 1] rfl ?_
      exact g_X5_copyFrom_82 C0 F p0 p1 hk_p0 hk_p1  M _  hf
    · refine r_iload_n C0 dX5_copyFrom_52 rfl 2 rfl ?_
      refine r_aload_n C0 dX5_copyFrom_53 rfl 1 rfl ?_
      refine r_getR C0 (C := RX5) (T := TX5) cl_X5 (K_X5_o hk_p1) (k := 1) (by decide) qw_56 rfl (K_X5_ships_r hk_p1) dX5_copyFrom_54 ?_
      refine r_alen (v := 4) C0 ((K_X5_ships_k hk_p1)).1 (by decide) rfl dX5_copyFrom_57 ?_
      refine r_icmp_ge C0 82 dX5_copyFrom_58 (by decide) hf (fun hf => ?_) (fun hf => ?_)
      · refine r_sub (L' := [(0, .ref p0), (1, .ref p1)]) [0, 1] rfl ?_
        exact g_X5_copyFrom_82 C0 F p0 p1 hk_p0 hk_p1  M _  hf
      · refine r_aload_n C0 dX5_copyFrom_61 rfl 0 rfl ?_
        refine r_getR C0 (C := RX5) (T := TX5) cl_X5 (K_X5_o hk_p0) (k := 1) (by decide) qw_56 rfl (K_X5_ships_r hk_p0) dX5_copyFrom_62 ?_
        refine r_iload_n C0 dX5_copyFrom_65 rfl 2 rfl ?_
        refine r_aald C0 (g := fun j => p0 + 2 + 15 + 1 * j) ((K_X5_ships_k hk_p0)).1 (by decide) (by decide) rfl ((K_X5_ships_k hk_p0)).2.1 hf dX5_copyFrom_66 (fun hi hf => ?_)
        refine r_nmA hf (fun q1 hq hf => ?_)
        have hk_q1 : K_X3 S q1 := by rw [hq]; exact ((K_X5_ships_k hk_p0)).2.2 _ hi
        refine r_aload_n C0 dX5_copyFrom_67 rfl 1 rfl ?_
        refine r_getR C0 (C := RX5) (T := TX5) cl_X5 (K_X5_o hk_p1) (k := 1) (by decide) qw_56 rfl (K_X5_ships_r hk_p1) dX5_copyFrom_68 ?_
        refine r_iload_n C0 dX5_copyFrom_71 rfl 2 rfl ?_
        refine r_aald C0 (g := fun j => p1 + 2 + 15 + 1 * j) ((K_X5_ships_k hk_p1)).1 (by decide) (by decide) rfl ((K_X5_ships_k hk_p1)).2.1 hf dX5_copyFrom_72 (fun hi hf => ?_)
        refine r_nmA hf (fun q2 hq hf => ?_)
        have hk_q2 : K_X3 S q2 := by rw [hq]; exact ((K_X5_ships_k hk_p1)).2.2 _ hi
        refine r_callVm C0 (st := []) [.ref q2] q1 hf vs_3 (fun hl r3 hr3 => c_X3_copyFrom hl F q1 q2 hk_q1 hk_q2 M r3 hr3) (K_X3_o hk_q1) rfl rfl rfl rfl (Nat.le_of_ble_eq_true rfl) dX5_copyFrom_73 (zrm_ok rfl) (fun r3 hr3 hf => ?_)
        refine r_iinc (j := 2) (v := (v2 + (1 : Int32))) (L' := [(2, .int (v2 + (1 : Int32))), (0, .ref p0), (1, .ref p1)]) C0 dX5_copyFrom_76 rfl rfl (by decide) rfl ?_
        refine r_goto C0 43 dX5_copyFrom_79 (by decide) ?_
        refine r_sub (L' := [(0, .ref p0), (1, .ref p1), (2, .int (v2 + (1 : Int32)))]) [1, 2, 0] rfl ?_
        exact ih (v2 + (1 : Int32)) r3 _  hf
set_option maxHeartbeats 4000000 in
set_option maxRecDepth 100000 in
theorem g_X5_copyFrom_2 {Γ : zCx} {E : zEn} {S : zSk} {X : zMl} {Z : Nat → Prop} (C0 : zCt Γ E RX5 cX5_copyFrom 3 (Option.none : Option Jvm.ClassFile.FieldType) [] { frames := 1, cells := 0, slots := 0, locals := 22 }) (F : Nat) (p0 : Nat) (p1 : Nat) (hk_p0 : K_X5 S p0) (hk_p1 : K_X5 S p1) : ∀ (n : Nat) (v2 : Int32) (M : zMi) (r : zMi) , f_X5_copyFrom_2 F p0 p1 n v2 M = some r → zG Γ (zQ Γ E 0 0 S Z none r X) E 3 0 0 S Z M X 2 [(0, .ref p0), (1, .ref p1), (2, .int v2)] [] := by
  intro n
  induction n with
  | zero => intro v2 M r; intro hf; cases hf
  | succ n ih =>
    intro v2 M r hf
    refine r_iload_n C0 dX5_copyFrom_2 rfl 2 rfl ?_
    refine r_aload_n C0 dX5_copyFrom_3 rfl 0 rfl ?_
    refine r_getR C0 (C := RX5) (T := TX5) cl_X5 (K_X5_o hk_p0) (k := 0) (by decide) qw_62 rfl (K_X5_zones_r hk_p0) dX5_copyFrom_4 ?_
    refine r_alen (v := 9) C0 ((K_X5_zones_k hk_p0)).1 (by decide) rfl dX5_copyFrom_7 ?_
    refine r_icmp_ge C0 41 dX5_copyFrom_8 (by decide) hf (fun hf => ?_) (fun hf => ?_)
    · refine r_iconst (v := 0) C0 dX5_copyFrom_41 (by decide) ?_
      refine r_istore_n (L' := [(2, .int (0 : Int32)), (0, .ref p0), (1, .ref p1)]) C0 dX5_copyFrom_42 rfl (by decide) rfl ?_
      refine r_sub (L' := [(0, .ref p0), (1, .ref p1), (2, .int (0 : Int32))]) [1, 2, 0] rfl ?_
      exact g_X5_copyFrom_43 C0 F p0 p1 hk_p0 hk_p1 F (0 : Int32) M _  hf
    · refine r_iload_n C0 dX5_copyFrom_11 rfl 2 rfl ?_
      refine r_aload_n C0 dX5_copyFrom_12 rfl 1 rfl ?_
      refine r_getR C0 (C := RX5) (T := TX5) cl_X5 (K_X5_o hk_p1) (k := 0) (by decide) qw_62 rfl (K_X5_zones_r hk_p1) dX5_copyFrom_13 ?_
      refine r_alen (v := 9) C0 ((K_X5_zones_k hk_p1)).1 (by decide) rfl dX5_copyFrom_16 ?_
      refine r_icmp_ge C0 41 dX5_copyFrom_17 (by decide) hf (fun hf => ?_) (fun hf => ?_)
      · refine r_iconst (v := 0) C0 dX5_copyFrom_41 (by decide) ?_
        refine r_istore_n (L' := [(2, .int (0 : Int32)), (0, .ref p0), (1, .ref p1)]) C0 dX5_copyFrom_42 rfl (by decide) rfl ?_
        refine r_sub (L' := [(0, .ref p0), (1, .ref p1), (2, .int (0 : Int32))]) [1, 2, 0] rfl ?_
        exact g_X5_copyFrom_43 C0 F p0 p1 hk_p0 hk_p1 F (0 : Int32) M _  hf
      · refine r_aload_n C0 dX5_copyFrom_20 rfl 0 rfl ?_
        refine r_getR C0 (C := RX5) (T := TX5) cl_X5 (K_X5_o hk_p0) (k := 0) (by decide) qw_62 rfl (K_X5_zones_r hk_p0) dX5_copyFrom_21 ?_
        refine r_iload_n C0 dX5_copyFrom_24 rfl 2 rfl ?_
        refine r_aald C0 (g := fun j => p0 + 1 + 7 + 1 * j) ((K_X5_zones_k hk_p0)).1 (by decide) (by decide) rfl ((K_X5_zones_k hk_p0)).2.1 hf dX5_copyFrom_25 (fun hi hf => ?_)
        refine r_nmA hf (fun q1 hq hf => ?_)
        have hk_q1 : K_X9 S q1 := by rw [hq]; exact ((K_X5_zones_k hk_p0)).2.2 _ hi
        refine r_aload_n C0 dX5_copyFrom_26 rfl 1 rfl ?_
        refine r_getR C0 (C := RX5) (T := TX5) cl_X5 (K_X5_o hk_p1) (k := 0) (by decide) qw_62 rfl (K_X5_zones_r hk_p1) dX5_copyFrom_27 ?_
        refine r_iload_n C0 dX5_copyFrom_30 rfl 2 rfl ?_
        refine r_aald C0 (g := fun j => p1 + 1 + 7 + 1 * j) ((K_X5_zones_k hk_p1)).1 (by decide) (by decide) rfl ((K_X5_zones_k hk_p1)).2.1 hf dX5_copyFrom_31 (fun hi hf => ?_)
        refine r_nmA hf (fun q2 hq hf => ?_)
        have hk_q2 : K_X9 S q2 := by rw [hq]; exact ((K_X5_zones_k hk_p1)).2.2 _ hi
        refine r_callVm C0 (st := []) [.ref q2] q1 hf vs_4 (fun hl r3 hr3 => c_X9_copyFrom hl F q1 q2 hk_q1 hk_q2 M r3 hr3) (K_X9_o hk_q1) rfl rfl rfl rfl (Nat.le_of_ble_eq_true rfl) dX5_copyFrom_32 (zrm_ok rfl) (fun r3 hr3 hf => ?_)
        refine r_iinc (j := 2) (v := (v2 + (1 : Int32))) (L' := [(2, .int (v2 + (1 : Int32))), (0, .ref p0), (1, .ref p1)]) C0 dX5_copyFrom_35 rfl rfl (by decide) rfl ?_
        refine r_goto C0 2 dX5_copyFrom_38 (by decide) ?_
        refine r_sub (L' := [(0, .ref p0), (1, .ref p1), (2, .int (v2 + (1 : Int32)))]) [1, 2, 0] rfl ?_
        exact ih (v2 + (1 : Int32)) r3 _  hf
set_option maxHeartbeats 4000000 in
set_option maxRecDepth 100000 in
theorem c_X5_copyFrom {l : Launch} {E : zEn} {S : zSk} {X : zMl} {Z : Nat → Prop} (hl : l.stackTraces = false) (F : Nat) (p0 : Nat) (p1 : Nat) (hk_p0 : K_X5 S p0) (hk_p1 : K_X5 S p1) (M : zMi) (r : zMi) (hf : f_X5_copyFrom F p0 p1 M = some r) : zM l E yX5_copyFrom cX5_copyFrom 3 (Option.none : Option Jvm.ClassFile.FieldType) { frames := 1, cells := 0, slots := 0, locals := 22 } 0 0 [.ref p0, .ref p1] S Z M X S Z none r X := by
  refine zM.intro (L0 := [(0, .ref p0), (1, .ref p1)]) hl (by decide) (Nat.le_of_ble_eq_true rfl) rfl (fun Γ C0 _ => ?_)
  unfold f_X5_copyFrom at hf
  refine r_iconst (v := 0) C0 dX5_copyFrom_0 (by decide) ?_
  refine r_istore_n (L' := [(2, .int (0 : Int32)), (0, .ref p0), (1, .ref p1)]) C0 dX5_copyFrom_1 rfl (by decide) rfl ?_
  refine r_sub (L' := [(0, .ref p0), (1, .ref p1), (2, .int (0 : Int32))]) [1, 2, 0] rfl ?_
  exact g_X5_copyFrom_2 C0 F p0 p1 hk_p0 hk_p1 F (0 : Int32) M _  hf
set_option maxHeartbeats 4000000 in
set_option maxRecDepth 100000 in
theorem g_X0_remember_18 {Γ : zCx} {E : zEn} {S : zSk} {X : zMl} {Z : Nat → Prop} (C0 : zCt Γ E RX0 cX0_remember 3 (Option.none : Option Jvm.ClassFile.FieldType) [] { frames := 2, cells := 0, slots := 0, locals := 44 }) (F : Nat) (p0 : Nat) (p1 : Nat) (hk_p0 : K_X0 S p0) (hk_p1 : K_X5 S p1)  (M : zMi) (r : zMi)  (hf : f_X0_remember_18 F p0 p1  M = some r) : zG Γ (zQ Γ E 0 0 S Z none r X) E 3 0 0 S Z M X 18 [(0, .ref p0)] [] := by
  unfold f_X0_remember_18 at hf
  refine r_aload_n C0 dX0_remember_18 rfl 0 rfl ?_
  refine r_getI C0 (C := RX0) (T := TX0) cl_X0 (K_X0_o hk_p0) (k := 2) (by decide) qw_1 rfl dX0_remember_19 ?_
  refine r_bipush (v := 14) C0 dX0_remember_22 (by decide) ?_
  refine r_icmp_ge C0 40 dX0_remember_24 (by decide) hf (fun hf => ?_) (fun hf => ?_)
  · refine r_aload_n C0 dX0_remember_40 rfl 0 rfl ?_
    refine r_aload_n C0 dX0_remember_41 rfl 0 rfl ?_
    refine r_getI C0 (C := RX0) (T := TX0) cl_X0 (K_X0_o hk_p0) (k := 1) (by decide) qw_0 rfl dX0_remember_42 ?_
    refine r_iconst (v := 1) C0 dX0_remember_45 (by decide) ?_
    refine r_iadd C0 dX0_remember_46 ?_
    refine r_bipush (v := 14) C0 dX0_remember_47 (by decide) ?_
    refine r_irem' C0 dX0_remember_49 (by decide) ?_
    refine r_putI C0 (C := RX0) (T := TX0) cl_X0 (K_X0_o hk_p0) (k := 1) (by decide) qw_0 rfl rfl rfl rfl hf dX0_remember_50 (fun M1 hf => ?_)
    obtain rfl := Option.some.inj hf
    exact r_vret C0 dX0_remember_53
  · refine r_aload_n C0 dX0_remember_27 rfl 0 rfl ?_
    refine r_dup C0 dX0_remember_28 rfl ?_
    refine r_getI C0 (C := RX0) (T := TX0) cl_X0 (K_X0_o hk_p0) (k := 2) (by decide) qw_1 rfl dX0_remember_29 ?_
    refine r_iconst (v := 1) C0 dX0_remember_32 (by decide) ?_
    refine r_iadd C0 dX0_remember_33 ?_
    refine r_putI C0 (C := RX0) (T := TX0) cl_X0 (K_X0_o hk_p0) (k := 2) (by decide) qw_1 rfl rfl rfl rfl hf dX0_remember_34 (fun M2 hf => ?_)
    refine r_goto C0 53 dX0_remember_37 (by decide) ?_
    obtain rfl := Option.some.inj hf
    exact r_vret C0 dX0_remember_53
set_option maxHeartbeats 4000000 in
set_option maxRecDepth 100000 in
theorem c_X0_remember {l : Launch} {E : zEn} {S : zSk} {X : zMl} {Z : Nat → Prop} (hl : l.stackTraces = false) (F : Nat) (p0 : Nat) (p1 : Nat) (hk_p0 : K_X0 S p0) (hk_p1 : K_X5 S p1) (M : zMi) (r : zMi) (hf : f_X0_remember F p0 p1 M = some r) : zM l E yX0_remember cX0_remember 3 (Option.none : Option Jvm.ClassFile.FieldType) { frames := 2, cells := 0, slots := 0, locals := 44 } 0 0 [.ref p0, .ref p1] S Z M X S Z none r X := by
  refine zM.intro (L0 := [(0, .ref p0), (1, .ref p1)]) hl (by decide) (Nat.le_of_ble_eq_true rfl) rfl (fun Γ C0 _ => ?_)
  unfold f_X0_remember at hf
  refine r_aload_n C0 dX0_remember_0 rfl 0 rfl ?_
  refine r_aload_n C0 dX0_remember_1 rfl 0 rfl ?_
  refine r_getI C0 (C := RX0) (T := TX0) cl_X0 (K_X0_o hk_p0) (k := 2) (by decide) qw_1 rfl dX0_remember_2 ?_
  refine r_callVr C0 (st := []) [.int (M p0 2)] p0 hf vs_5 (fun hl r1 hr1 => c_X0_placeOf hl F p0 (M p0 2) hk_p0 M r1 hr1) (K_X0_o hk_p0) rfl rfl rfl rfl (Nat.le_of_ble_eq_true rfl) dX0_remember_5 (zrm_ok rfl) (fun r1 hr1 hf => ?_)
  refine r_opt hf (fun hf => ?_) (fun q2 eq2 hf => ?_)
  · refine r_astoreN_n (L' := [(2, .null), (0, .ref p0), (1, .ref p1)]) C0 dX0_remember_8 rfl (by decide) rfl ?_
    refine r_aloadN_n C0 dX0_remember_9 rfl 0 rfl ?_
    refine r_ifnullN C0 18 dX0_remember_10 (by decide) ?_
    refine r_sub (L' := [(0, .ref p0)]) [1] rfl ?_
    exact g_X0_remember_18 C0 F p0 p1 hk_p0 hk_p1  M _  hf
  · have hk_q2 := n_X0_placeOf (by rw [← eq2]; exact hr1) hk_p0
    refine r_astore_n (L' := [(2, .ref q2), (0, .ref p0), (1, .ref p1)]) C0 dX0_remember_8 rfl (by decide) rfl ?_
    refine r_aload_n C0 dX0_remember_9 rfl 0 rfl ?_
    refine r_ifnull C0 dX0_remember_10 ?_
    refine r_aload_n C0 dX0_remember_13 rfl 0 rfl ?_
    refine r_aload_n C0 dX0_remember_14 rfl 2 rfl ?_
    refine r_callVm C0 (st := []) [.ref p1] q2 hf vs_6 (fun hl r3 hr3 => c_X5_copyFrom hl F q2 p1 hk_q2 hk_p1 M r3 hr3) (K_X5_o hk_q2) rfl rfl rfl rfl (Nat.le_of_ble_eq_true rfl) dX0_remember_15 (zrm_ok rfl) (fun r3 hr3 hf => ?_)
    refine r_sub (L' := [(0, .ref p0)]) [1] rfl ?_
    exact g_X0_remember_18 C0 F p0 p1 hk_p0 hk_p1  r3 _  hf
set_option maxHeartbeats 4000000 in
set_option maxRecDepth 100000 in
theorem c_X0_takeBack {l : Launch} {E : zEn} {S : zSk} {X : zMl} {Z : Nat → Prop} (hl : l.stackTraces = false) (F : Nat) (p0 : Nat) (p1 : Nat) (hk_p0 : K_X0 S p0) (hk_p1 : K_X5 S p1) (M : zMi) (r : Int32 × zMi) (hf : f_X0_takeBack F p0 p1 M = some r) : zM l E yX0_takeBack cX0_takeBack 3 (Option.some Jvm.ClassFile.FieldType.int) { frames := 2, cells := 0, slots := 0, locals := 44 } 0 0 [.ref p0, .ref p1] S Z M X S Z (some (.int r.1)) r.2 X := by
  refine zM.intro (L0 := [(0, .ref p0), (1, .ref p1)]) hl (by decide) (Nat.le_of_ble_eq_true rfl) rfl (fun Γ C0 _ => ?_)
  unfold f_X0_takeBack at hf
  refine r_aload_n C0 dX0_takeBack_0 rfl 0 rfl ?_
  refine r_aload_n C0 dX0_takeBack_1 rfl 0 rfl ?_
  refine r_getI C0 (C := RX0) (T := TX0) cl_X0 (K_X0_o hk_p0) (k := 2) (by decide) qw_1 rfl dX0_takeBack_2 ?_
  refine r_iconst (v := 1) C0 dX0_takeBack_5 (by decide) ?_
  refine r_isub C0 dX0_takeBack_6 ?_
  refine r_callVr C0 (st := []) [.int ((M p0 2) - (1 : Int32))] p0 hf vs_5 (fun hl r1 hr1 => c_X0_placeOf hl F p0 ((M p0 2) - (1 : Int32)) hk_p0 M r1 hr1) (K_X0_o hk_p0) rfl rfl rfl rfl (Nat.le_of_ble_eq_true rfl) dX0_takeBack_7 (zrm_ok rfl) (fun r1 hr1 hf => ?_)
  refine r_opt hf (fun hf => ?_) (fun q2 eq2 hf => ?_)
  · refine r_astoreN_n (L' := [(2, .null), (0, .ref p0), (1, .ref p1)]) C0 dX0_takeBack_10 rfl (by decide) rfl ?_
    refine r_aloadN_n C0 dX0_takeBack_11 rfl 0 rfl ?_
    refine r_ifnullN C0 37 dX0_takeBack_12 (by decide) ?_
    refine r_aload_n C0 dX0_takeBack_37 rfl 1 rfl ?_
    refine r_getI C0 (C := RX0) (T := TX0) cl_X0 (K_X0_o hk_p0) (k := 2) (by decide) qw_1 rfl dX0_takeBack_38 ?_
    obtain rfl := Option.some.inj hf
    exact r_iret C0 dX0_takeBack_41
  · have hk_q2 := n_X0_placeOf (by rw [← eq2]; exact hr1) hk_p0
    refine r_astore_n (L' := [(2, .ref q2), (0, .ref p0), (1, .ref p1)]) C0 dX0_takeBack_10 rfl (by decide) rfl ?_
    refine r_aload_n C0 dX0_takeBack_11 rfl 0 rfl ?_
    refine r_ifnull C0 dX0_takeBack_12 ?_
    refine r_aload_n C0 dX0_takeBack_15 rfl 1 rfl ?_
    refine r_getI C0 (C := RX0) (T := TX0) cl_X0 (K_X0_o hk_p0) (k := 2) (by decide) qw_1 rfl dX0_takeBack_16 ?_
    refine r_if_le C0 37 dX0_takeBack_19 (by decide) hf (fun hf => ?_) (fun hf => ?_)
    · refine r_aload_n C0 dX0_takeBack_37 rfl 1 rfl ?_
      refine r_getI C0 (C := RX0) (T := TX0) cl_X0 (K_X0_o hk_p0) (k := 2) (by decide) qw_1 rfl dX0_takeBack_38 ?_
      obtain rfl := Option.some.inj hf
      exact r_iret C0 dX0_takeBack_41
    · refine r_aload_n C0 dX0_takeBack_22 rfl 1 rfl ?_
      refine r_dup C0 dX0_takeBack_23 rfl ?_
      refine r_getI C0 (C := RX0) (T := TX0) cl_X0 (K_X0_o hk_p0) (k := 2) (by decide) qw_1 rfl dX0_takeBack_24 ?_
      refine r_iconst (v := 1) C0 dX0_takeBack_27 (by decide) ?_
      refine r_isub C0 dX0_takeBack_28 ?_
      refine r_putI C0 (C := RX0) (T := TX0) cl_X0 (K_X0_o hk_p0) (k := 2) (by decide) qw_1 rfl rfl rfl rfl hf dX0_takeBack_29 (fun M3 hf => ?_)
      refine r_aload_n C0 dX0_takeBack_32 rfl 2 rfl ?_
      refine r_aload_n C0 dX0_takeBack_33 rfl 0 rfl ?_
      refine r_callVm C0 (st := []) [.ref q2] p1 hf vs_6 (fun hl r4 hr4 => c_X5_copyFrom hl F p1 q2 hk_p1 hk_q2 M3 r4 hr4) (K_X5_o hk_p1) rfl rfl rfl rfl (Nat.le_of_ble_eq_true rfl) dX0_takeBack_34 (zrm_ok rfl) (fun r4 hr4 hf => ?_)
      refine r_aload_n C0 dX0_takeBack_37 rfl 1 rfl ?_
      refine r_getI C0 (C := RX0) (T := TX0) cl_X0 (K_X0_o hk_p0) (k := 2) (by decide) qw_1 rfl dX0_takeBack_38 ?_
      obtain rfl := Option.some.inj hf
      exact r_iret C0 dX0_takeBack_41
set_option maxHeartbeats 4000000 in
set_option maxRecDepth 100000 in
theorem c_X1_begin {l : Launch} {E : zEn} {S : zSk} {X : zMl} {Z : Nat → Prop} (hl : l.stackTraces = false) (F : Nat) (p0 : Nat) (p1 : Int32) (hk_p0 : K_X1 S p0) (M : zMi) (r : zMi) (hf : f_X1_begin F p0 p1 M = some r) : zM l E yX1_begin cX1_begin 2 (Option.none : Option Jvm.ClassFile.FieldType) { frames := 0, cells := 0, slots := 0, locals := 0 } 0 0 [.ref p0, .int p1] S Z M X S Z none r X := by
  refine zM.intro (L0 := [(0, .ref p0), (1, .int p1)]) hl (by decide) (Nat.le_of_ble_eq_true rfl) rfl (fun Γ C0 _ => ?_)
  unfold f_X1_begin at hf
  refine r_aload_n C0 dX1_begin_0 rfl 0 rfl ?_
  refine r_iload_n C0 dX1_begin_1 rfl 1 rfl ?_
  refine r_putI C0 (C := RX1) (T := TX1) cl_X1 (K_X1_o hk_p0) (k := 0) (by decide) qw_24 rfl rfl rfl rfl hf dX1_begin_2 (fun M1 hf => ?_)
  refine r_aload_n C0 dX1_begin_5 rfl 0 rfl ?_
  refine r_iconst (v := 0) C0 dX1_begin_6 (by decide) ?_
  refine r_putI C0 (C := RX1) (T := TX1) cl_X1 (K_X1_o hk_p0) (k := 1) (by decide) qw_25 rfl rfl rfl rfl hf dX1_begin_7 (fun M2 hf => ?_)
  refine r_aload_n C0 dX1_begin_10 rfl 0 rfl ?_
  refine r_iconst (v := 0) C0 dX1_begin_11 (by decide) ?_
  refine r_putI C0 (C := RX1) (T := TX1) cl_X1 (K_X1_o hk_p0) (k := 2) (by decide) qw_26 rfl rfl rfl rfl hf dX1_begin_12 (fun M3 hf => ?_)
  refine r_aload_n C0 dX1_begin_15 rfl 0 rfl ?_
  refine r_iconst (v := 0) C0 dX1_begin_16 (by decide) ?_
  refine r_putI C0 (C := RX1) (T := TX1) cl_X1 (K_X1_o hk_p0) (k := 3) (by decide) qw_27 rfl rfl rfl rfl hf dX1_begin_17 (fun M4 hf => ?_)
  refine r_aload_n C0 dX1_begin_20 rfl 0 rfl ?_
  refine r_iconst (v := 0) C0 dX1_begin_21 (by decide) ?_
  refine r_putI C0 (C := RX1) (T := TX1) cl_X1 (K_X1_o hk_p0) (k := 4) (by decide) qw_28 rfl rfl rfl rfl hf dX1_begin_22 (fun M5 hf => ?_)
  refine r_aload_n C0 dX1_begin_25 rfl 0 rfl ?_
  refine r_iconst (v := 0) C0 dX1_begin_26 (by decide) ?_
  refine r_putI C0 (C := RX1) (T := TX1) cl_X1 (K_X1_o hk_p0) (k := 5) (by decide) qw_29 rfl rfl rfl rfl hf dX1_begin_27 (fun M6 hf => ?_)
  refine r_aload_n C0 dX1_begin_30 rfl 0 rfl ?_
  refine r_iconst (v := 0) C0 dX1_begin_31 (by decide) ?_
  refine r_putI C0 (C := RX1) (T := TX1) cl_X1 (K_X1_o hk_p0) (k := 6) (by decide) qw_30 rfl rfl rfl rfl hf dX1_begin_32 (fun M7 hf => ?_)
  obtain rfl := Option.some.inj hf
  exact r_vret C0 dX1_begin_35
set_option maxHeartbeats 4000000 in
set_option maxRecDepth 100000 in
theorem g_X2_withoutLast_5 {Γ : zCx} {E : zEn} {S : zSk} {X : zMl} {Z : Nat → Prop} {M : zMi} (C0 : zCt Γ E RX2 cX2_withoutLast 6 (Option.some Jvm.ClassFile.FieldType.long) [] { frames := 0, cells := 0, slots := 0, locals := 0 }) (F : Nat) (p0 : Int64) (p1 : Int32) : ∀ (n : Nat) (v3 : Int64) (v5 : Int32) (r : Int64) , f_X2_withoutLast_5 F p0 p1 n v3 v5 M = some r → zG Γ (zQ Γ E 0 0 S Z (some (.long r)) M X) E 6 0 0 S Z M X 5 [(2, .int p1), (3, .long v3), (5, .int v5)] [] := by
  intro n
  induction n with
  | zero => intro v3 v5 r; intro hf; cases hf
  | succ n ih =>
    intro v3 v5 r hf
    refine r_iload C0 dX2_withoutLast_5 2 rfl ?_
    refine r_iload_n C0 dX2_withoutLast_7 rfl 0 rfl ?_
    refine r_icmp_ge C0 23 dX2_withoutLast_8 (by decide) hf (fun hf => ?_) (fun hf => ?_)
    · refine r_lload_n C0 dX2_withoutLast_23 rfl 1 rfl ?_
      obtain rfl := Option.some.inj hf
      exact r_lret C0 dX2_withoutLast_24
    · refine r_lload_n C0 dX2_withoutLast_11 rfl 1 rfl ?_
      refine r_ldc2 (v := 100000) C0 qw_78 dX2_withoutLast_12 ?_
      refine r_ldiv' C0 dX2_withoutLast_15 (by decide) ?_
      refine r_nmL hf (fun x1 hf => ?_)
      refine r_lstore_n (L' := [(3, .long x1), (2, .int p1), (5, .int v5)]) C0 dX2_withoutLast_16 rfl (by decide) rfl ?_
      refine r_iinc (j := 2) (v := (v5 + (1 : Int32))) (L' := [(5, .int (v5 + (1 : Int32))), (3, .long x1), (2, .int p1)]) C0 dX2_withoutLast_17 rfl rfl (by decide) rfl ?_
      refine r_goto C0 5 dX2_withoutLast_20 (by decide) ?_
      refine r_sub (L' := [(2, .int p1), (3, .long x1), (5, .int (v5 + (1 : Int32)))]) [2, 1, 0] rfl ?_
      exact ih x1 (v5 + (1 : Int32)) _  hf
set_option maxHeartbeats 4000000 in
set_option maxRecDepth 100000 in
theorem c_X2_withoutLast {l : Launch} {E : zEn} {S : zSk} {X : zMl} {Z : Nat → Prop} (hl : l.stackTraces = false) (F : Nat) (p0 : Int64) (p1 : Int32) (M : zMi) (r : Int64) (hf : f_X2_withoutLast F p0 p1 M = some r) : zM l E yX2_withoutLast cX2_withoutLast 6 (Option.some Jvm.ClassFile.FieldType.long) { frames := 0, cells := 0, slots := 0, locals := 0 } 0 0 [.long p0, .int p1] S Z M X S Z (some (.long r)) M X := by
  refine zM.intro (L0 := [(0, .long p0), (2, .int p1)]) hl (by decide) (Nat.le_of_ble_eq_true rfl) rfl (fun Γ C0 _ => ?_)
  unfold f_X2_withoutLast at hf
  refine r_lload_n C0 dX2_withoutLast_0 rfl 0 rfl ?_
  refine r_lstore_n (L' := [(3, .long p0), (0, .long p0), (2, .int p1)]) C0 dX2_withoutLast_1 rfl (by decide) rfl ?_
  refine r_iconst (v := 0) C0 dX2_withoutLast_2 (by decide) ?_
  refine r_istore (L' := [(5, .int (0 : Int32)), (3, .long p0), (0, .long p0), (2, .int p1)]) C0 dX2_withoutLast_3 (by decide) rfl ?_
  refine r_sub (L' := [(2, .int p1), (3, .long p0), (5, .int (0 : Int32))]) [3, 1, 0] rfl ?_
  exact g_X2_withoutLast_5 C0 F p0 p1 F p0 (0 : Int32) _  hf
set_option maxHeartbeats 4000000 in
set_option maxRecDepth 100000 in
theorem c_X5_shipNumbered {l : Launch} {E : zEn} {S : zSk} {X : zMl} {Z : Nat → Prop} (hl : l.stackTraces = false) (F : Nat) (p0 : Nat) (p1 : Int32) (hk_p0 : K_X5 S p0) (M : zMi) (r : Option Nat) (hf : f_X5_shipNumbered F p0 p1 M = some r) : zM l E yX5_shipNumbered cX5_shipNumbered 2 (Option.some (Jvm.ClassFile.FieldType.object "CableLanding$Ship")) { frames := 0, cells := 0, slots := 0, locals := 0 } 0 0 [.ref p0, .int p1] S Z M X S Z (some (va_rf r)) M X := by
  refine zM.intro (L0 := [(0, .ref p0), (1, .int p1)]) hl (by decide) (Nat.le_of_ble_eq_true rfl) rfl (fun Γ C0 _ => ?_)
  unfold f_X5_shipNumbered at hf
  refine r_iload_n C0 dX5_shipNumbered_0 rfl 1 rfl ?_
  refine r_if_lt C0 30 dX5_shipNumbered_1 (by decide) hf (fun hf => ?_) (fun hf => ?_)
  · refine r_null C0 dX5_shipNumbered_30 ?_
    obtain rfl := Option.some.inj hf
    exact r_aret (v := none) C0 dX5_shipNumbered_31
  · refine r_iload_n C0 dX5_shipNumbered_4 rfl 1 rfl ?_
    refine r_aload_n C0 dX5_shipNumbered_5 rfl 0 rfl ?_
    refine r_getI C0 (C := RX5) (T := TX5) cl_X5 (K_X5_o hk_p0) (k := 6) (by decide) qw_50 rfl dX5_shipNumbered_6 ?_
    refine r_icmp_ge C0 30 dX5_shipNumbered_9 (by decide) hf (fun hf => ?_) (fun hf => ?_)
    · refine r_null C0 dX5_shipNumbered_30 ?_
      obtain rfl := Option.some.inj hf
      exact r_aret (v := none) C0 dX5_shipNumbered_31
    · refine r_iload_n C0 dX5_shipNumbered_12 rfl 1 rfl ?_
      refine r_aload_n C0 dX5_shipNumbered_13 rfl 0 rfl ?_
      refine r_getR C0 (C := RX5) (T := TX5) cl_X5 (K_X5_o hk_p0) (k := 1) (by decide) qw_56 rfl (K_X5_ships_r hk_p0) dX5_shipNumbered_14 ?_
      refine r_alen (v := 4) C0 ((K_X5_ships_k hk_p0)).1 (by decide) rfl dX5_shipNumbered_17 ?_
      refine r_icmp_ge C0 30 dX5_shipNumbered_18 (by decide) hf (fun hf => ?_) (fun hf => ?_)
      · refine r_null C0 dX5_shipNumbered_30 ?_
        obtain rfl := Option.some.inj hf
        exact r_aret (v := none) C0 dX5_shipNumbered_31
      · refine r_aload_n C0 dX5_shipNumbered_21 rfl 0 rfl ?_
        refine r_getR C0 (C := RX5) (T := TX5) cl_X5 (K_X5_o hk_p0) (k := 1) (by decide) qw_56 rfl (K_X5_ships_r hk_p0) dX5_shipNumbered_22 ?_
        refine r_iload_n C0 dX5_shipNumbered_25 rfl 1 rfl ?_
        refine r_aald C0 (g := fun j => p0 + 2 + 15 + 1 * j) ((K_X5_ships_k hk_p0)).1 (by decide) (by decide) rfl ((K_X5_ships_k hk_p0)).2.1 hf dX5_shipNumbered_26 (fun hi hf => ?_)
        refine r_nmA hf (fun q1 hq hf => ?_)
        have hk_q1 : K_X3 S q1 := by rw [hq]; exact ((K_X5_ships_k hk_p0)).2.2 _ hi
        refine r_goto C0 31 dX5_shipNumbered_27 (by decide) ?_
        obtain rfl := Option.some.inj hf
        exact r_aret (v := some q1) C0 dX5_shipNumbered_31
theorem n_X5_shipNumbered {F : Nat} {p0 : Nat} {p1 : Int32} {M : zMi} {S : zSk} {q : Nat} (h : f_X5_shipNumbered F p0 p1 M = some (some q)) (hk_p0 : K_X5 S p0) : K_X3 S q := by
  unfold f_X5_shipNumbered at h
  simp only [bnd, grd] at h
  repeat' split at h
  all_goals cases h
  all_goals exact (K_X5_ships_k hk_p0).2.2 _ (inb_lt (by assumption))
set_option maxHeartbeats 4000000 in
set_option maxRecDepth 100000 in
theorem c_X5_canLoadOnto {l : Launch} {E : zEn} {S : zSk} {X : zMl} {Z : Nat → Prop} (hl : l.stackTraces = false) (F : Nat) (p0 : Nat) (p1 : Nat) (p2 : Int32) (hk_p0 : K_X5 S p0) (hk_p1 : K_X3 S p1) (M : zMi) (r : Int32) (hf : f_X5_canLoadOnto F p0 p1 p2 M = some r) : zM l E yX5_canLoadOnto cX5_canLoadOnto 3 (Option.some Jvm.ClassFile.FieldType.boolean) { frames := 0, cells := 0, slots := 0, locals := 0 } 0 0 [.ref p0, .ref p1, .int p2] S Z M X S Z (some (.int r)) M X := by
  refine zM.intro (L0 := [(0, .ref p0), (1, .ref p1), (2, .int p2)]) hl (by decide) (Nat.le_of_ble_eq_true rfl) rfl (fun Γ C0 _ => ?_)
  unfold f_X5_canLoadOnto at hf
  refine r_iload_n C0 dX5_canLoadOnto_0 rfl 2 rfl ?_
  refine r_iconst (v := 1) C0 dX5_canLoadOnto_1 (by decide) ?_
  refine r_icmp_lt C0 37 dX5_canLoadOnto_2 (by decide) hf (fun hf => ?_) (fun hf => ?_)
  · refine r_iconst (v := 0) C0 dX5_canLoadOnto_37 (by decide) ?_
    obtain rfl := Option.some.inj hf
    exact r_zret C0 rfl dX5_canLoadOnto_38
  · refine r_aload_n C0 dX5_canLoadOnto_5 rfl 1 rfl ?_
    refine r_getI C0 (C := RX3) (T := TX3) cl_X3 (K_X3_o hk_p1) (k := 5) (by decide) qw_79 rfl dX5_canLoadOnto_6 ?_
    refine r_if_ne C0 37 dX5_canLoadOnto_9 (by decide) hf (fun hf => ?_) (fun hf => ?_)
    · refine r_iconst (v := 0) C0 dX5_canLoadOnto_37 (by decide) ?_
      obtain rfl := Option.some.inj hf
      exact r_zret C0 rfl dX5_canLoadOnto_38
    · refine r_iload_n C0 dX5_canLoadOnto_12 rfl 2 rfl ?_
      refine r_aload_n C0 dX5_canLoadOnto_13 rfl 0 rfl ?_
      refine r_getI C0 (C := RX5) (T := TX5) cl_X5 (K_X5_o hk_p0) (k := 7) (by decide) qw_51 rfl dX5_canLoadOnto_14 ?_
      refine r_icmp_gt C0 37 dX5_canLoadOnto_17 (by decide) hf (fun hf => ?_) (fun hf => ?_)
      · refine r_iconst (v := 0) C0 dX5_canLoadOnto_37 (by decide) ?_
        obtain rfl := Option.some.inj hf
        exact r_zret C0 rfl dX5_canLoadOnto_38
      · refine r_iload_n C0 dX5_canLoadOnto_20 rfl 2 rfl ?_
        refine r_aload_n C0 dX5_canLoadOnto_21 rfl 1 rfl ?_
        refine r_getI C0 (C := RX3) (T := TX3) cl_X3 (K_X3_o hk_p1) (k := 0) (by decide) qw_80 rfl dX5_canLoadOnto_22 ?_
        refine r_aload_n C0 dX5_canLoadOnto_25 rfl 1 rfl ?_
        refine r_getI C0 (C := RX3) (T := TX3) cl_X3 (K_X3_o hk_p1) (k := 4) (by decide) qw_81 rfl dX5_canLoadOnto_26 ?_
        refine r_isub C0 dX5_canLoadOnto_29 ?_
        refine r_icmp_gt C0 37 dX5_canLoadOnto_30 (by decide) hf (fun hf => ?_) (fun hf => ?_)
        · refine r_iconst (v := 0) C0 dX5_canLoadOnto_37 (by decide) ?_
          obtain rfl := Option.some.inj hf
          exact r_zret C0 rfl dX5_canLoadOnto_38
        · refine r_iconst (v := 1) C0 dX5_canLoadOnto_33 (by decide) ?_
          refine r_goto C0 38 dX5_canLoadOnto_34 (by decide) ?_
          obtain rfl := Option.some.inj hf
          exact r_zret C0 rfl dX5_canLoadOnto_38
set_option maxHeartbeats 4000000 in
set_option maxRecDepth 100000 in
theorem c_X5_loadOnto {l : Launch} {E : zEn} {S : zSk} {X : zMl} {Z : Nat → Prop} (hl : l.stackTraces = false) (F : Nat) (p0 : Nat) (p1 : Nat) (p2 : Int32) (hk_p0 : K_X5 S p0) (hk_p1 : K_X3 S p1) (M : zMi) (r : zMi) (hf : f_X5_loadOnto F p0 p1 p2 M = some r) : zM l E yX5_loadOnto cX5_loadOnto 3 (Option.none : Option Jvm.ClassFile.FieldType) { frames := 0, cells := 0, slots := 0, locals := 0 } 0 0 [.ref p0, .ref p1, .int p2] S Z M X S Z none r X := by
  refine zM.intro (L0 := [(0, .ref p0), (1, .ref p1), (2, .int p2)]) hl (by decide) (Nat.le_of_ble_eq_true rfl) rfl (fun Γ C0 _ => ?_)
  unfold f_X5_loadOnto at hf
  refine r_aload_n C0 dX5_loadOnto_0 rfl 0 rfl ?_
  refine r_dup C0 dX5_loadOnto_1 rfl ?_
  refine r_getI C0 (C := RX5) (T := TX5) cl_X5 (K_X5_o hk_p0) (k := 7) (by decide) qw_51 rfl dX5_loadOnto_2 ?_
  refine r_iload_n C0 dX5_loadOnto_5 rfl 2 rfl ?_
  refine r_isub C0 dX5_loadOnto_6 ?_
  refine r_putI C0 (C := RX5) (T := TX5) cl_X5 (K_X5_o hk_p0) (k := 7) (by decide) qw_51 rfl rfl rfl rfl hf dX5_loadOnto_7 (fun M1 hf => ?_)
  refine r_aload_n C0 dX5_loadOnto_10 rfl 1 rfl ?_
  refine r_dup C0 dX5_loadOnto_11 rfl ?_
  refine r_getI C0 (C := RX3) (T := TX3) cl_X3 (K_X3_o hk_p1) (k := 4) (by decide) qw_81 rfl dX5_loadOnto_12 ?_
  refine r_iload_n C0 dX5_loadOnto_15 rfl 2 rfl ?_
  refine r_iadd C0 dX5_loadOnto_16 ?_
  refine r_putI C0 (C := RX3) (T := TX3) cl_X3 (K_X3_o hk_p1) (k := 4) (by decide) qw_81 rfl rfl rfl rfl hf dX5_loadOnto_17 (fun M2 hf => ?_)
  obtain rfl := Option.some.inj hf
  exact r_vret C0 dX5_loadOnto_20
set_option maxHeartbeats 4000000 in
set_option maxRecDepth 100000 in
theorem c_X2_takes {l : Launch} {E : zEn} {S : zSk} {X : zMl} {Z : Nat → Prop} (hl : l.stackTraces = false) (F : Nat) (p0 : Nat) (p1 : Option Nat) (p2 : Int32) (hk_p0 : K_X5 S p0) (hk_p1 : ∀ q, p1 = some q → K_X3 S q) (M : zMi) (r : Int32 × zMi) (hf : f_X2_takes F p0 p1 p2 M = some r) : zM l E yX2_takes cX2_takes 3 (Option.some Jvm.ClassFile.FieldType.boolean) { frames := 1, cells := 0, slots := 0, locals := 22 } 0 0 [.ref p0, va_rf p1, .int p2] S Z M X S Z (some (.int r.1)) r.2 X := by
  cases p1 with
  | none =>
    refine zM.intro (L0 := [(0, .ref p0), (1, .null), (2, .int p2)]) hl (by decide) (Nat.le_of_ble_eq_true rfl) rfl (fun Γ C0 _ => ?_)
    unfold f_X2_takes at hf
    have hf := zopt_n hf
    refine r_aloadN_n C0 dX2_takes_0 rfl 1 rfl ?_
    refine r_ifnullN C0 13 dX2_takes_1 (by decide) ?_
    refine r_iconst (v := 0) C0 dX2_takes_13 (by decide) ?_
    obtain rfl := Option.some.inj hf
    exact r_zret C0 rfl dX2_takes_14
  | some qe =>
    refine zM.intro (L0 := [(0, .ref p0), (1, .ref qe), (2, .int p2)]) hl (by decide) (Nat.le_of_ble_eq_true rfl) rfl (fun Γ C0 _ => ?_)
    unfold f_X2_takes at hf
    have hf := zopt_s hf
    have hk_qe := hk_p1 qe rfl
    refine r_aload_n C0 dX2_takes_0 rfl 1 rfl ?_
    refine r_ifnull C0 dX2_takes_1 ?_
    refine r_aload_n C0 dX2_takes_4 rfl 0 rfl ?_
    refine r_aload_n C0 dX2_takes_5 rfl 1 rfl ?_
    refine r_iload_n C0 dX2_takes_6 rfl 2 rfl ?_
    refine r_callVi C0 (st := []) [.ref qe, .int p2] p0 hf vs_7 (fun hl r1 hr1 => c_X5_canLoadOnto hl F p0 qe p2 hk_p0 hk_qe M r1 hr1) (K_X5_o hk_p0) rfl rfl rfl rfl (Nat.le_of_ble_eq_true rfl) dX2_takes_7 (zrm_ok rfl) (fun r1 hr1 hf => ?_)
    refine r_if_ne C0 15 dX2_takes_10 (by decide) hf (fun hf => ?_) (fun hf => ?_)
    · refine r_aload_n C0 dX2_takes_15 rfl 0 rfl ?_
      refine r_aload_n C0 dX2_takes_16 rfl 1 rfl ?_
      refine r_iload_n C0 dX2_takes_17 rfl 2 rfl ?_
      refine r_callVm C0 (st := []) [.ref qe, .int p2] p0 hf vs_8 (fun hl r2 hr2 => c_X5_loadOnto hl F p0 qe p2 hk_p0 hk_qe M r2 hr2) (K_X5_o hk_p0) rfl rfl rfl rfl (Nat.le_of_ble_eq_true rfl) dX2_takes_18 (zrm_ok rfl) (fun r2 hr2 hf => ?_)
      refine r_iconst (v := 1) C0 dX2_takes_21 (by decide) ?_
      obtain rfl := Option.some.inj hf
      exact r_zret C0 rfl dX2_takes_22
    · refine r_iconst (v := 0) C0 dX2_takes_13 (by decide) ?_
      obtain rfl := Option.some.inj hf
      exact r_zret C0 rfl dX2_takes_14
set_option maxHeartbeats 4000000 in
set_option maxRecDepth 100000 in
theorem c_X5_isFinished {l : Launch} {E : zEn} {S : zSk} {X : zMl} {Z : Nat → Prop} (hl : l.stackTraces = false) (F : Nat) (p0 : Nat) (hk_p0 : K_X5 S p0) (M : zMi) (r : Int32) (hf : f_X5_isFinished F p0 M = some r) : zM l E yX5_isFinished cX5_isFinished 1 (Option.some Jvm.ClassFile.FieldType.boolean) { frames := 0, cells := 0, slots := 0, locals := 0 } 0 0 [.ref p0] S Z M X S Z (some (.int r)) M X := by
  refine zM.intro (L0 := [(0, .ref p0)]) hl (by decide) (Nat.le_of_ble_eq_true rfl) rfl (fun Γ C0 _ => ?_)
  unfold f_X5_isFinished at hf
  refine r_aload_n C0 dX5_isFinished_0 rfl 0 rfl ?_
  refine r_getI C0 (C := RX5) (T := TX5) cl_X5 (K_X5_o hk_p0) (k := 9) (by decide) qw_53 rfl dX5_isFinished_1 ?_
  refine r_aload_n C0 dX5_isFinished_4 rfl 0 rfl ?_
  refine r_getI C0 (C := RX5) (T := TX5) cl_X5 (K_X5_o hk_p0) (k := 5) (by decide) qw_49 rfl dX5_isFinished_5 ?_
  refine r_icmp_lt C0 15 dX5_isFinished_8 (by decide) hf (fun hf => ?_) (fun hf => ?_)
  · refine r_iconst (v := 0) C0 dX5_isFinished_15 (by decide) ?_
    obtain rfl := Option.some.inj hf
    exact r_zret C0 rfl dX5_isFinished_16
  · refine r_iconst (v := 1) C0 dX5_isFinished_11 (by decide) ?_
    refine r_goto C0 16 dX5_isFinished_12 (by decide) ?_
    obtain rfl := Option.some.inj hf
    exact r_zret C0 rfl dX5_isFinished_16
set_option maxHeartbeats 4000000 in
set_option maxRecDepth 100000 in
theorem c_X5_canSendOut {l : Launch} {E : zEn} {S : zSk} {X : zMl} {Z : Nat → Prop} (hl : l.stackTraces = false) (F : Nat) (p0 : Nat) (p1 : Nat) (hk_p0 : K_X5 S p0) (hk_p1 : K_X3 S p1) (M : zMi) (r : Int32) (hf : f_X5_canSendOut F p0 p1 M = some r) : zM l E yX5_canSendOut cX5_canSendOut 2 (Option.some Jvm.ClassFile.FieldType.boolean) { frames := 1, cells := 0, slots := 0, locals := 20 } 0 0 [.ref p0, .ref p1] S Z M X S Z (some (.int r)) M X := by
  refine zM.intro (L0 := [(0, .ref p0), (1, .ref p1)]) hl (by decide) (Nat.le_of_ble_eq_true rfl) rfl (fun Γ C0 _ => ?_)
  unfold f_X5_canSendOut at hf
  refine r_aload_n C0 dX5_canSendOut_0 rfl 1 rfl ?_
  refine r_getI C0 (C := RX3) (T := TX3) cl_X3 (K_X3_o hk_p1) (k := 5) (by decide) qw_79 rfl dX5_canSendOut_1 ?_
  refine r_if_ne C0 18 dX5_canSendOut_4 (by decide) hf (fun hf => ?_) (fun hf => ?_)
  · refine r_iconst (v := 0) C0 dX5_canSendOut_18 (by decide) ?_
    obtain rfl := Option.some.inj hf
    exact r_zret C0 rfl dX5_canSendOut_19
  · refine r_aload_n C0 dX5_canSendOut_7 rfl 0 rfl ?_
    refine r_callVi C0 (st := []) [] p0 hf vs_9 (fun hl r1 hr1 => c_X5_isFinished hl F p0 hk_p0 M r1 hr1) (K_X5_o hk_p0) rfl rfl rfl rfl (Nat.le_of_ble_eq_true rfl) dX5_canSendOut_8 (zrm_ok rfl) (fun r1 hr1 hf => ?_)
    refine r_if_ne C0 18 dX5_canSendOut_11 (by decide) hf (fun hf => ?_) (fun hf => ?_)
    · refine r_iconst (v := 0) C0 dX5_canSendOut_18 (by decide) ?_
      obtain rfl := Option.some.inj hf
      exact r_zret C0 rfl dX5_canSendOut_19
    · refine r_iconst (v := 1) C0 dX5_canSendOut_14 (by decide) ?_
      refine r_goto C0 19 dX5_canSendOut_15 (by decide) ?_
      obtain rfl := Option.some.inj hf
      exact r_zret C0 rfl dX5_canSendOut_19
set_option maxHeartbeats 4000000 in
set_option maxRecDepth 100000 in
theorem c_X3_sail {l : Launch} {E : zEn} {S : zSk} {X : zMl} {Z : Nat → Prop} (hl : l.stackTraces = false) (F : Nat) (p0 : Nat) (p1 : Int32) (p2 : Int32) (hk_p0 : K_X3 S p0) (M : zMi) (r : zMi) (hf : f_X3_sail F p0 p1 p2 M = some r) : zM l E yX3_sail cX3_sail 3 (Option.none : Option Jvm.ClassFile.FieldType) { frames := 0, cells := 0, slots := 0, locals := 0 } 0 0 [.ref p0, .int p1, .int p2] S Z M X S Z none r X := by
  refine zM.intro (L0 := [(0, .ref p0), (1, .int p1), (2, .int p2)]) hl (by decide) (Nat.le_of_ble_eq_true rfl) rfl (fun Γ C0 _ => ?_)
  unfold f_X3_sail at hf
  refine r_aload_n C0 dX3_sail_0 rfl 0 rfl ?_
  refine r_iload_n C0 dX3_sail_1 rfl 1 rfl ?_
  refine r_putI C0 (C := RX3) (T := TX3) cl_X3 (K_X3_o hk_p0) (k := 5) (by decide) qw_12 rfl rfl rfl rfl hf dX3_sail_2 (fun M1 hf => ?_)
  refine r_aload_n C0 dX3_sail_5 rfl 0 rfl ?_
  refine r_iload_n C0 dX3_sail_6 rfl 2 rfl ?_
  refine r_putI C0 (C := RX3) (T := TX3) cl_X3 (K_X3_o hk_p0) (k := 6) (by decide) qw_13 rfl rfl rfl rfl hf dX3_sail_7 (fun M2 hf => ?_)
  obtain rfl := Option.some.inj hf
  exact r_vret C0 dX3_sail_10
set_option maxHeartbeats 4000000 in
set_option maxRecDepth 100000 in
theorem c_X5_sendOut {l : Launch} {E : zEn} {S : zSk} {X : zMl} {Z : Nat → Prop} (hl : l.stackTraces = false) (F : Nat) (p0 : Nat) (p1 : Nat) (hk_p0 : K_X5 S p0) (hk_p1 : K_X3 S p1) (M : zMi) (r : zMi) (hf : f_X5_sendOut F p0 p1 M = some r) : zM l E yX5_sendOut cX5_sendOut 2 (Option.none : Option Jvm.ClassFile.FieldType) { frames := 1, cells := 0, slots := 0, locals := 22 } 0 0 [.ref p0, .ref p1] S Z M X S Z none r X := by
  refine zM.intro (L0 := [(0, .ref p0), (1, .ref p1)]) hl (by decide) (Nat.le_of_ble_eq_true rfl) rfl (fun Γ C0 _ => ?_)
  unfold f_X5_sendOut at hf
  refine r_aload_n C0 dX5_sendOut_0 rfl 1 rfl ?_
  refine r_iconst (v := 1) C0 dX5_sendOut_1 (by decide) ?_
  refine r_aload_n C0 dX5_sendOut_2 rfl 0 rfl ?_
  refine r_getI C0 (C := RX5) (T := TX5) cl_X5 (K_X5_o hk_p0) (k := 9) (by decide) qw_53 rfl dX5_sendOut_3 ?_
  refine r_iconst (v := 1) C0 dX5_sendOut_6 (by decide) ?_
  refine r_iadd C0 dX5_sendOut_7 ?_
  refine r_callVm C0 (st := []) [.int (1 : Int32), .int ((M p0 9) + (1 : Int32))] p1 hf vs_10 (fun hl r1 hr1 => c_X3_sail hl F p1 (1 : Int32) ((M p0 9) + (1 : Int32)) hk_p1 M r1 hr1) (K_X3_o hk_p1) rfl rfl rfl rfl (Nat.le_of_ble_eq_true rfl) dX5_sendOut_8 (zrm_ok rfl) (fun r1 hr1 hf => ?_)
  obtain rfl := Option.some.inj hf
  exact r_vret C0 dX5_sendOut_11
set_option maxHeartbeats 4000000 in
set_option maxRecDepth 100000 in
theorem c_X2_sends {l : Launch} {E : zEn} {S : zSk} {X : zMl} {Z : Nat → Prop} (hl : l.stackTraces = false) (F : Nat) (p0 : Nat) (p1 : Option Nat) (hk_p0 : K_X5 S p0) (hk_p1 : ∀ q, p1 = some q → K_X3 S q) (M : zMi) (r : Int32 × zMi) (hf : f_X2_sends F p0 p1 M = some r) : zM l E yX2_sends cX2_sends 2 (Option.some Jvm.ClassFile.FieldType.boolean) { frames := 2, cells := 0, slots := 0, locals := 43 } 0 0 [.ref p0, va_rf p1] S Z M X S Z (some (.int r.1)) r.2 X := by
  cases p1 with
  | none =>
    refine zM.intro (L0 := [(0, .ref p0), (1, .null)]) hl (by decide) (Nat.le_of_ble_eq_true rfl) rfl (fun Γ C0 _ => ?_)
    unfold f_X2_sends at hf
    have hf := zopt_n hf
    refine r_aloadN_n C0 dX2_sends_0 rfl 1 rfl ?_
    refine r_ifnullN C0 12 dX2_sends_1 (by decide) ?_
    refine r_iconst (v := 0) C0 dX2_sends_12 (by decide) ?_
    obtain rfl := Option.some.inj hf
    exact r_zret C0 rfl dX2_sends_13
  | some qe =>
    refine zM.intro (L0 := [(0, .ref p0), (1, .ref qe)]) hl (by decide) (Nat.le_of_ble_eq_true rfl) rfl (fun Γ C0 _ => ?_)
    unfold f_X2_sends at hf
    have hf := zopt_s hf
    have hk_qe := hk_p1 qe rfl
    refine r_aload_n C0 dX2_sends_0 rfl 1 rfl ?_
    refine r_ifnull C0 dX2_sends_1 ?_
    refine r_aload_n C0 dX2_sends_4 rfl 0 rfl ?_
    refine r_aload_n C0 dX2_sends_5 rfl 1 rfl ?_
    refine r_callVi C0 (st := []) [.ref qe] p0 hf vs_11 (fun hl r1 hr1 => c_X5_canSendOut hl F p0 qe hk_p0 hk_qe M r1 hr1) (K_X5_o hk_p0) rfl rfl rfl rfl (Nat.le_of_ble_eq_true rfl) dX2_sends_6 (zrm_ok rfl) (fun r1 hr1 hf => ?_)
    refine r_if_ne C0 14 dX2_sends_9 (by decide) hf (fun hf => ?_) (fun hf => ?_)
    · refine r_aload_n C0 dX2_sends_14 rfl 0 rfl ?_
      refine r_aload_n C0 dX2_sends_15 rfl 1 rfl ?_
      refine r_callVm C0 (st := []) [.ref qe] p0 hf vs_12 (fun hl r2 hr2 => c_X5_sendOut hl F p0 qe hk_p0 hk_qe M r2 hr2) (K_X5_o hk_p0) rfl rfl rfl rfl (Nat.le_of_ble_eq_true rfl) dX2_sends_16 (zrm_ok rfl) (fun r2 hr2 hf => ?_)
      refine r_iconst (v := 1) C0 dX2_sends_19 (by decide) ?_
      obtain rfl := Option.some.inj hf
      exact r_zret C0 rfl dX2_sends_20
    · refine r_iconst (v := 0) C0 dX2_sends_12 (by decide) ?_
      obtain rfl := Option.some.inj hf
      exact r_zret C0 rfl dX2_sends_13
set_option maxHeartbeats 4000000 in
set_option maxRecDepth 100000 in
theorem c_X5_canCallHome {l : Launch} {E : zEn} {S : zSk} {X : zMl} {Z : Nat → Prop} (hl : l.stackTraces = false) (F : Nat) (p0 : Nat) (p1 : Nat) (hk_p0 : K_X5 S p0) (hk_p1 : K_X3 S p1) (M : zMi) (r : Int32) (hf : f_X5_canCallHome F p0 p1 M = some r) : zM l E yX5_canCallHome cX5_canCallHome 2 (Option.some Jvm.ClassFile.FieldType.boolean) { frames := 0, cells := 0, slots := 0, locals := 0 } 0 0 [.ref p0, .ref p1] S Z M X S Z (some (.int r)) M X := by
  refine zM.intro (L0 := [(0, .ref p0), (1, .ref p1)]) hl (by decide) (Nat.le_of_ble_eq_true rfl) rfl (fun Γ C0 _ => ?_)
  unfold f_X5_canCallHome at hf
  refine r_aload_n C0 dX5_canCallHome_0 rfl 1 rfl ?_
  refine r_getI C0 (C := RX3) (T := TX3) cl_X3 (K_X3_o hk_p1) (k := 5) (by decide) qw_79 rfl dX5_canCallHome_1 ?_
  refine r_iconst (v := 2) C0 dX5_canCallHome_4 (by decide) ?_
  refine r_icmp_eq C0 16 dX5_canCallHome_5 (by decide) hf (fun hf => ?_) (fun hf => ?_)
  · refine r_iconst (v := 1) C0 dX5_canCallHome_16 (by decide) ?_
    refine r_goto C0 21 dX5_canCallHome_17 (by decide) ?_
    obtain rfl := Option.some.inj hf
    exact r_zret C0 rfl dX5_canCallHome_21
  · refine r_aload_n C0 dX5_canCallHome_8 rfl 1 rfl ?_
    refine r_getI C0 (C := RX3) (T := TX3) cl_X3 (K_X3_o hk_p1) (k := 5) (by decide) qw_79 rfl dX5_canCallHome_9 ?_
    refine r_iconst (v := 3) C0 dX5_canCallHome_12 (by decide) ?_
    refine r_icmp_ne C0 20 dX5_canCallHome_13 (by decide) hf (fun hf => ?_) (fun hf => ?_)
    · refine r_iconst (v := 0) C0 dX5_canCallHome_20 (by decide) ?_
      obtain rfl := Option.some.inj hf
      exact r_zret C0 rfl dX5_canCallHome_21
    · refine r_iconst (v := 1) C0 dX5_canCallHome_16 (by decide) ?_
      refine r_goto C0 21 dX5_canCallHome_17 (by decide) ?_
      obtain rfl := Option.some.inj hf
      exact r_zret C0 rfl dX5_canCallHome_21
set_option maxHeartbeats 4000000 in
set_option maxRecDepth 100000 in
theorem c_X6_sendToRest {l : Launch} {E : zEn} {S : zSk} {X : zMl} {Z : Nat → Prop} (hl : l.stackTraces = false) (F : Nat) (p0 : Nat) (p1 : Int32) (hk_p0 : K_X6 S p0) (M : zMi) (r : zMi) (hf : f_X6_sendToRest F p0 p1 M = some r) : zM l E yX6_sendToRest cX6_sendToRest 2 (Option.none : Option Jvm.ClassFile.FieldType) { frames := 0, cells := 0, slots := 0, locals := 0 } 0 0 [.ref p0, .int p1] S Z M X S Z none r X := by
  refine zM.intro (L0 := [(0, .ref p0), (1, .int p1)]) hl (by decide) (Nat.le_of_ble_eq_true rfl) rfl (fun Γ C0 _ => ?_)
  unfold f_X6_sendToRest at hf
  refine r_aload_n C0 dX6_sendToRest_0 rfl 0 rfl ?_
  refine r_getI C0 (C := RX6) (T := TX6) cl_X6 (K_X6_o hk_p0) (k := 4) (by decide) qw_18 rfl dX6_sendToRest_1 ?_
  refine r_if_lt C0 29 dX6_sendToRest_4 (by decide) hf (fun hf => ?_) (fun hf => ?_)
  · refine r_aload_n C0 dX6_sendToRest_29 rfl 0 rfl ?_
    refine r_bipush (v := -9) C0 dX6_sendToRest_30 (by decide) ?_
    refine r_putI C0 (C := RX6) (T := TX6) cl_X6 (K_X6_o hk_p0) (k := 4) (by decide) qw_18 rfl rfl rfl rfl hf dX6_sendToRest_32 (fun M1 hf => ?_)
    refine r_aload_n C0 dX6_sendToRest_35 rfl 0 rfl ?_
    refine r_iconst (v := 0) C0 dX6_sendToRest_36 (by decide) ?_
    refine r_putI C0 (C := RX6) (T := TX6) cl_X6 (K_X6_o hk_p0) (k := 5) (by decide) qw_19 rfl rfl rfl rfl hf dX6_sendToRest_37 (fun M2 hf => ?_)
    obtain rfl := Option.some.inj hf
    exact r_vret C0 dX6_sendToRest_40
  · refine r_aload_n C0 dX6_sendToRest_7 rfl 0 rfl ?_
    refine r_getI C0 (C := RX6) (T := TX6) cl_X6 (K_X6_o hk_p0) (k := 4) (by decide) qw_18 rfl dX6_sendToRest_8 ?_
    refine r_aload_n C0 dX6_sendToRest_11 rfl 0 rfl ?_
    refine r_getR C0 (C := RX6) (T := TX6) cl_X6 (K_X6_o hk_p0) (k := 2) (by decide) qw_21 rfl (K_X6_rest_r hk_p0) dX6_sendToRest_12 ?_
    refine r_alen (v := 3) C0 (K_X6_rest_k hk_p0) (by decide) rfl dX6_sendToRest_15 ?_
    refine r_icmp_ge C0 29 dX6_sendToRest_16 (by decide) hf (fun hf => ?_) (fun hf => ?_)
    · refine r_aload_n C0 dX6_sendToRest_29 rfl 0 rfl ?_
      refine r_bipush (v := -9) C0 dX6_sendToRest_30 (by decide) ?_
      refine r_putI C0 (C := RX6) (T := TX6) cl_X6 (K_X6_o hk_p0) (k := 4) (by decide) qw_18 rfl rfl rfl rfl hf dX6_sendToRest_32 (fun M3 hf => ?_)
      refine r_aload_n C0 dX6_sendToRest_35 rfl 0 rfl ?_
      refine r_iconst (v := 0) C0 dX6_sendToRest_36 (by decide) ?_
      refine r_putI C0 (C := RX6) (T := TX6) cl_X6 (K_X6_o hk_p0) (k := 5) (by decide) qw_19 rfl rfl rfl rfl hf dX6_sendToRest_37 (fun M4 hf => ?_)
      obtain rfl := Option.some.inj hf
      exact r_vret C0 dX6_sendToRest_40
    · refine r_aload_n C0 dX6_sendToRest_19 rfl 0 rfl ?_
      refine r_getR C0 (C := RX6) (T := TX6) cl_X6 (K_X6_o hk_p0) (k := 2) (by decide) qw_21 rfl (K_X6_rest_r hk_p0) dX6_sendToRest_20 ?_
      refine r_aload_n C0 dX6_sendToRest_23 rfl 0 rfl ?_
      refine r_getI C0 (C := RX6) (T := TX6) cl_X6 (K_X6_o hk_p0) (k := 4) (by decide) qw_18 rfl dX6_sendToRest_24 ?_
      refine r_iload_n C0 dX6_sendToRest_27 rfl 1 rfl ?_
      refine r_iast C0 (K_X6_rest_k hk_p0) hf dX6_sendToRest_28 (fun M5 hf => ?_)
      refine r_aload_n C0 dX6_sendToRest_29 rfl 0 rfl ?_
      refine r_bipush (v := -9) C0 dX6_sendToRest_30 (by decide) ?_
      refine r_putI C0 (C := RX6) (T := TX6) cl_X6 (K_X6_o hk_p0) (k := 4) (by decide) qw_18 rfl rfl rfl rfl hf dX6_sendToRest_32 (fun M6 hf => ?_)
      refine r_aload_n C0 dX6_sendToRest_35 rfl 0 rfl ?_
      refine r_iconst (v := 0) C0 dX6_sendToRest_36 (by decide) ?_
      refine r_putI C0 (C := RX6) (T := TX6) cl_X6 (K_X6_o hk_p0) (k := 5) (by decide) qw_19 rfl rfl rfl rfl hf dX6_sendToRest_37 (fun M7 hf => ?_)
      obtain rfl := Option.some.inj hf
      exact r_vret C0 dX6_sendToRest_40
set_option maxHeartbeats 4000000 in
set_option maxRecDepth 100000 in
theorem c_X6_leaveFront {l : Launch} {E : zEn} {S : zSk} {X : zMl} {Z : Nat → Prop} (hl : l.stackTraces = false) (F : Nat) (p0 : Nat) (hk_p0 : K_X6 S p0) (M : zMi) (r : zMi) (hf : f_X6_leaveFront F p0 M = some r) : zM l E yX6_leaveFront cX6_leaveFront 1 (Option.none : Option Jvm.ClassFile.FieldType) { frames := 1, cells := 0, slots := 0, locals := 21 } 0 0 [.ref p0] S Z M X S Z none r X := by
  refine zM.intro (L0 := [(0, .ref p0)]) hl (by decide) (Nat.le_of_ble_eq_true rfl) rfl (fun Γ C0 _ => ?_)
  unfold f_X6_leaveFront at hf
  refine r_aload_n C0 dX6_leaveFront_0 rfl 0 rfl ?_
  refine r_iconst (v := 0) C0 dX6_leaveFront_1 (by decide) ?_
  refine r_putI C0 (C := RX6) (T := TX6) cl_X6 (K_X6_o hk_p0) (k := 3) (by decide) qw_17 rfl rfl rfl rfl hf dX6_leaveFront_2 (fun M1 hf => ?_)
  refine r_aload_n C0 dX6_leaveFront_5 rfl 0 rfl ?_
  refine r_iconst (v := 2) C0 dX6_leaveFront_6 (by decide) ?_
  refine r_callVm C0 (st := []) [.int (2 : Int32)] p0 hf vs_13 (fun hl r2 hr2 => c_X6_sendToRest hl F p0 (2 : Int32) hk_p0 M1 r2 hr2) (K_X6_o hk_p0) rfl rfl rfl rfl (Nat.le_of_ble_eq_true rfl) dX6_leaveFront_7 (zrm_ok rfl) (fun r2 hr2 hf => ?_)
  obtain rfl := Option.some.inj hf
  exact r_vret C0 dX6_leaveFront_10
set_option maxHeartbeats 4000000 in
set_option maxRecDepth 100000 in
theorem g_X5_callHome_15 {Γ : zCx} {E : zEn} {S : zSk} {X : zMl} {Z : Nat → Prop} (C0 : zCt Γ E RX5 cX5_callHome 2 (Option.none : Option Jvm.ClassFile.FieldType) [] { frames := 2, cells := 0, slots := 0, locals := 41 }) (F : Nat) (p0 : Nat) (p1 : Nat) (hk_p0 : K_X5 S p0) (hk_p1 : K_X3 S p1)  (M : zMi) (r : zMi)  (hf : f_X5_callHome_15 F p0 p1  M = some r) : zG Γ (zQ Γ E 0 0 S Z none r X) E 2 0 0 S Z M X 15 [(0, .ref p0), (1, .ref p1)] [] := by
  unfold f_X5_callHome_15 at hf
  refine r_aload_n C0 dX5_callHome_15 rfl 1 rfl ?_
  refine r_iconst (v := 4) C0 dX5_callHome_16 (by decide) ?_
  refine r_aload_n C0 dX5_callHome_17 rfl 0 rfl ?_
  refine r_callVi C0 (st := [.int (4 : Int32), .ref p1]) [] p0 hf vs_9 (fun hl r1 hr1 => c_X5_isFinished hl F p0 hk_p0 M r1 hr1) (K_X5_o hk_p0) rfl rfl rfl rfl (Nat.le_of_ble_eq_true rfl) dX5_callHome_18 (zrm_ok rfl) (fun r1 hr1 hf => ?_)
  refine r_if_eq C0 31 dX5_callHome_21 (by decide) hf (fun hf => ?_) (fun hf => ?_)
  · refine r_aload_n C0 dX5_callHome_31 rfl 0 rfl ?_
    refine r_getI C0 (C := RX5) (T := TX5) cl_X5 (K_X5_o hk_p0) (k := 9) (by decide) qw_53 rfl dX5_callHome_32 ?_
    refine r_iconst (v := 1) C0 dX5_callHome_35 (by decide) ?_
    refine r_iadd C0 dX5_callHome_36 ?_
    refine r_callVm C0 (st := []) [.int (4 : Int32), .int ((M p0 9) + (1 : Int32))] p1 hf vs_10 (fun hl r2 hr2 => c_X3_sail hl F p1 (4 : Int32) ((M p0 9) + (1 : Int32)) hk_p1 M r2 hr2) (K_X3_o hk_p1) rfl rfl rfl rfl (Nat.le_of_ble_eq_true rfl) dX5_callHome_37 (zrm_ok rfl) (fun r2 hr2 hf => ?_)
    obtain rfl := Option.some.inj hf
    exact r_vret C0 dX5_callHome_40
  · refine r_aload_n C0 dX5_callHome_24 rfl 0 rfl ?_
    refine r_getI C0 (C := RX5) (T := TX5) cl_X5 (K_X5_o hk_p0) (k := 5) (by decide) qw_49 rfl dX5_callHome_25 ?_
    refine r_goto C0 37 dX5_callHome_28 (by decide) ?_
    refine r_callVm C0 (st := []) [.int (4 : Int32), .int (M p0 5)] p1 hf vs_10 (fun hl r3 hr3 => c_X3_sail hl F p1 (4 : Int32) (M p0 5) hk_p1 M r3 hr3) (K_X3_o hk_p1) rfl rfl rfl rfl (Nat.le_of_ble_eq_true rfl) dX5_callHome_37 (zrm_ok rfl) (fun r3 hr3 hf => ?_)
    obtain rfl := Option.some.inj hf
    exact r_vret C0 dX5_callHome_40
set_option maxHeartbeats 4000000 in
set_option maxRecDepth 100000 in
theorem c_X5_callHome {l : Launch} {E : zEn} {S : zSk} {X : zMl} {Z : Nat → Prop} (hl : l.stackTraces = false) (F : Nat) (p0 : Nat) (p1 : Nat) (hk_p0 : K_X5 S p0) (hk_p1 : K_X3 S p1) (M : zMi) (r : zMi) (hf : f_X5_callHome F p0 p1 M = some r) : zM l E yX5_callHome cX5_callHome 2 (Option.none : Option Jvm.ClassFile.FieldType) { frames := 2, cells := 0, slots := 0, locals := 41 } 0 0 [.ref p0, .ref p1] S Z M X S Z none r X := by
  refine zM.intro (L0 := [(0, .ref p0), (1, .ref p1)]) hl (by decide) (Nat.le_of_ble_eq_true rfl) rfl (fun Γ C0 _ => ?_)
  unfold f_X5_callHome at hf
  refine r_aload_n C0 dX5_callHome_0 rfl 1 rfl ?_
  refine r_getI C0 (C := RX3) (T := TX3) cl_X3 (K_X3_o hk_p1) (k := 5) (by decide) qw_79 rfl dX5_callHome_1 ?_
  refine r_iconst (v := 3) C0 dX5_callHome_4 (by decide) ?_
  refine r_icmp_ne C0 15 dX5_callHome_5 (by decide) hf (fun hf => ?_) (fun hf => ?_)
  · refine r_sub (L' := [(0, .ref p0), (1, .ref p1)]) [0, 1] rfl ?_
    exact g_X5_callHome_15 C0 F p0 p1 hk_p0 hk_p1  M _  hf
  · refine r_aload_n C0 dX5_callHome_8 rfl 0 rfl ?_
    refine r_getR C0 (C := RX5) (T := TX5) cl_X5 (K_X5_o hk_p0) (k := 3) (by decide) qw_37 rfl (K_X5_teams_r hk_p0) dX5_callHome_9 ?_
    refine r_callVm C0 (st := []) [] (p0 + 5) hf vs_14 (fun hl r1 hr1 => c_X6_leaveFront hl F (p0 + 5) (K_X5_teams_k hk_p0) M r1 hr1) (K_X6_o (K_X5_teams_k hk_p0)) rfl rfl rfl rfl (Nat.le_of_ble_eq_true rfl) dX5_callHome_12 (zrm_ok rfl) (fun r1 hr1 hf => ?_)
    refine r_sub (L' := [(0, .ref p0), (1, .ref p1)]) [0, 1] rfl ?_
    exact g_X5_callHome_15 C0 F p0 p1 hk_p0 hk_p1  r1 _  hf
set_option maxHeartbeats 4000000 in
set_option maxRecDepth 100000 in
theorem c_X2_recalls {l : Launch} {E : zEn} {S : zSk} {X : zMl} {Z : Nat → Prop} (hl : l.stackTraces = false) (F : Nat) (p0 : Nat) (p1 : Option Nat) (hk_p0 : K_X5 S p0) (hk_p1 : ∀ q, p1 = some q → K_X3 S q) (M : zMi) (r : Int32 × zMi) (hf : f_X2_recalls F p0 p1 M = some r) : zM l E yX2_recalls cX2_recalls 2 (Option.some Jvm.ClassFile.FieldType.boolean) { frames := 3, cells := 0, slots := 0, locals := 62 } 0 0 [.ref p0, va_rf p1] S Z M X S Z (some (.int r.1)) r.2 X := by
  cases p1 with
  | none =>
    refine zM.intro (L0 := [(0, .ref p0), (1, .null)]) hl (by decide) (Nat.le_of_ble_eq_true rfl) rfl (fun Γ C0 _ => ?_)
    unfold f_X2_recalls at hf
    have hf := zopt_n hf
    refine r_aloadN_n C0 dX2_recalls_0 rfl 1 rfl ?_
    refine r_ifnullN C0 12 dX2_recalls_1 (by decide) ?_
    refine r_iconst (v := 0) C0 dX2_recalls_12 (by decide) ?_
    obtain rfl := Option.some.inj hf
    exact r_zret C0 rfl dX2_recalls_13
  | some qe =>
    refine zM.intro (L0 := [(0, .ref p0), (1, .ref qe)]) hl (by decide) (Nat.le_of_ble_eq_true rfl) rfl (fun Γ C0 _ => ?_)
    unfold f_X2_recalls at hf
    have hf := zopt_s hf
    have hk_qe := hk_p1 qe rfl
    refine r_aload_n C0 dX2_recalls_0 rfl 1 rfl ?_
    refine r_ifnull C0 dX2_recalls_1 ?_
    refine r_aload_n C0 dX2_recalls_4 rfl 0 rfl ?_
    refine r_aload_n C0 dX2_recalls_5 rfl 1 rfl ?_
    refine r_callVi C0 (st := []) [.ref qe] p0 hf vs_15 (fun hl r1 hr1 => c_X5_canCallHome hl F p0 qe hk_p0 hk_qe M r1 hr1) (K_X5_o hk_p0) rfl rfl rfl rfl (Nat.le_of_ble_eq_true rfl) dX2_recalls_6 (zrm_ok rfl) (fun r1 hr1 hf => ?_)
    refine r_if_ne C0 14 dX2_recalls_9 (by decide) hf (fun hf => ?_) (fun hf => ?_)
    · refine r_aload_n C0 dX2_recalls_14 rfl 0 rfl ?_
      refine r_aload_n C0 dX2_recalls_15 rfl 1 rfl ?_
      refine r_callVm C0 (st := []) [.ref qe] p0 hf vs_16 (fun hl r2 hr2 => c_X5_callHome hl F p0 qe hk_p0 hk_qe M r2 hr2) (K_X5_o hk_p0) rfl rfl rfl rfl (Nat.le_of_ble_eq_true rfl) dX2_recalls_16 (zrm_ok rfl) (fun r2 hr2 hf => ?_)
      refine r_iconst (v := 1) C0 dX2_recalls_19 (by decide) ?_
      obtain rfl := Option.some.inj hf
      exact r_zret C0 rfl dX2_recalls_20
    · refine r_iconst (v := 0) C0 dX2_recalls_12 (by decide) ?_
      obtain rfl := Option.some.inj hf
      exact r_zret C0 rfl dX2_recalls_13
