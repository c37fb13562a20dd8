set_option maxHeartbeats 4000000 in
set_option maxRecDepth 100000 in
theorem c_X5_zoneNumbered {l : Launch} {E : zEn} {S : zSk} {X : zMl} {Z : Nat → Prop} (hl : l.stackTraces = false) (F : Nat) (p0 : Nat) (p1 : Int32) (hk_p0 : K_X5 S p0) (M : zMi) (r : Option Nat) (hf : f_X5_zoneNumbered F p0 p1 M = some r) : zM l E yX5_zoneNumbered cX5_zoneNumbered 2 (Option.some (Jvm.ClassFile.FieldType.object "CableLanding$Zone")) { frames := 0, cells := 0, slots := 0, locals := 0 } 0 0 [.ref p0, .int p1] S Z M X S Z (some (va_rf r)) M X := by
  refine zM.intro (L0 := [(0, .ref p0), (1, .int p1)]) hl (by decide) (Nat.le_of_ble_eq_true rfl) rfl (fun Γ C0 _ => ?_)
  unfold f_X5_zoneNumbered at hf
  refine r_iload_n C0 dX5_zoneNumbered_0 rfl 1 rfl ?_
  refine r_if_lt C0 30 dX5_zoneNumbered_1 (by decide) hf (fun hf => ?_) (fun hf => ?_)
  · refine r_null C0 dX5_zoneNumbered_30 ?_
    obtain rfl := Option.some.inj hf
    exact r_aret (v := none) C0 dX5_zoneNumbered_31
  · refine r_iload_n C0 dX5_zoneNumbered_4 rfl 1 rfl ?_
    refine r_aload_n C0 dX5_zoneNumbered_5 rfl 0 rfl ?_
    refine r_getI C0 (C := RX5) (T := TX5) cl_X5 (K_X5_o hk_p0) (k := 5) (by decide) qw_49 rfl dX5_zoneNumbered_6 ?_
    refine r_icmp_ge C0 30 dX5_zoneNumbered_9 (by decide) hf (fun hf => ?_) (fun hf => ?_)
    · refine r_null C0 dX5_zoneNumbered_30 ?_
      obtain rfl := Option.some.inj hf
      exact r_aret (v := none) C0 dX5_zoneNumbered_31
    · refine r_iload_n C0 dX5_zoneNumbered_12 rfl 1 rfl ?_
      refine r_aload_n C0 dX5_zoneNumbered_13 rfl 0 rfl ?_
      refine r_getR C0 (C := RX5) (T := TX5) cl_X5 (K_X5_o hk_p0) (k := 0) (by decide) qw_62 rfl (K_X5_zones_r hk_p0) dX5_zoneNumbered_14 ?_
      refine r_alen (v := 9) C0 ((K_X5_zones_k hk_p0)).1 (by decide) rfl dX5_zoneNumbered_17 ?_
      refine r_icmp_ge C0 30 dX5_zoneNumbered_18 (by decide) hf (fun hf => ?_) (fun hf => ?_)
      · refine r_null C0 dX5_zoneNumbered_30 ?_
        obtain rfl := Option.some.inj hf
        exact r_aret (v := none) C0 dX5_zoneNumbered_31
      · refine r_aload_n C0 dX5_zoneNumbered_21 rfl 0 rfl ?_
        refine r_getR C0 (C := RX5) (T := TX5) cl_X5 (K_X5_o hk_p0) (k := 0) (by decide) qw_62 rfl (K_X5_zones_r hk_p0) dX5_zoneNumbered_22 ?_
        refine r_iload_n C0 dX5_zoneNumbered_25 rfl 1 rfl ?_
        refine r_aald C0 (g := fun j => p0 + 1 + 7 + 1 * j) ((K_X5_zones_k hk_p0)).1 (by decide) (by decide) rfl ((K_X5_zones_k hk_p0)).2.1 hf dX5_zoneNumbered_26 (fun hi hf => ?_)
        refine r_nmA hf (fun q1 hq hf => ?_)
        have hk_q1 : K_X9 S q1 := by rw [hq]; exact ((K_X5_zones_k hk_p0)).2.2 _ hi
        refine r_goto C0 31 dX5_zoneNumbered_27 (by decide) ?_
        obtain rfl := Option.some.inj hf
        exact r_aret (v := some q1) C0 dX5_zoneNumbered_31
theorem n_X5_zoneNumbered {F : Nat} {p0 : Nat} {p1 : Int32} {M : zMi} {S : zSk} {q : Nat} (h : f_X5_zoneNumbered F p0 p1 M = some (some q)) (hk_p0 : K_X5 S p0) : K_X9 S q := by
  unfold f_X5_zoneNumbered at h
  simp only [bnd, grd] at h
  repeat' split at h
  all_goals cases h
  all_goals exact (K_X5_zones_k hk_p0).2.2 _ (inb_lt (by assumption))
set_option maxHeartbeats 4000000 in
set_option maxRecDepth 100000 in
theorem c_X5_canProlong {l : Launch} {E : zEn} {S : zSk} {X : zMl} {Z : Nat → Prop} (hl : l.stackTraces = false) (F : Nat) (p0 : Nat) (p1 : Nat) (p2 : Int32) (hk_p0 : K_X5 S p0) (hk_p1 : K_X9 S p1) (M : zMi) (r : Int32) (hf : f_X5_canProlong F p0 p1 p2 M = some r) : zM l E yX5_canProlong cX5_canProlong 3 (Option.some Jvm.ClassFile.FieldType.boolean) { frames := 0, cells := 0, slots := 0, locals := 0 } 0 0 [.ref p0, .ref p1, .int p2] S Z M X S Z (some (.int r)) M X := by
  refine zM.intro (L0 := [(0, .ref p0), (1, .ref p1), (2, .int p2)]) hl (by decide) (Nat.le_of_ble_eq_true rfl) rfl (fun Γ C0 _ => ?_)
  unfold f_X5_canProlong at hf
  refine r_iload_n C0 dX5_canProlong_0 rfl 2 rfl ?_
  refine r_iconst (v := 1) C0 dX5_canProlong_1 (by decide) ?_
  refine r_icmp_lt C0 21 dX5_canProlong_2 (by decide) hf (fun hf => ?_) (fun hf => ?_)
  · refine r_iconst (v := 0) C0 dX5_canProlong_21 (by decide) ?_
    obtain rfl := Option.some.inj hf
    exact r_zret C0 rfl dX5_canProlong_22
  · refine r_aload_n C0 dX5_canProlong_5 rfl 1 rfl ?_
    refine r_getI C0 (C := RX9) (T := TX9) cl_X9 (K_X9_o hk_p1) (k := 2) (by decide) qw_122 rfl dX5_canProlong_6 ?_
    refine r_iload_n C0 dX5_canProlong_9 rfl 2 rfl ?_
    refine r_iadd C0 dX5_canProlong_10 ?_
    refine r_sipush (v := 999) C0 dX5_canProlong_11 (by decide) ?_
    refine r_icmp_gt C0 21 dX5_canProlong_14 (by decide) hf (fun hf => ?_) (fun hf => ?_)
    · refine r_iconst (v := 0) C0 dX5_canProlong_21 (by decide) ?_
      obtain rfl := Option.some.inj hf
      exact r_zret C0 rfl dX5_canProlong_22
    · refine r_iconst (v := 1) C0 dX5_canProlong_17 (by decide) ?_
      refine r_goto C0 22 dX5_canProlong_18 (by decide) ?_
      obtain rfl := Option.some.inj hf
      exact r_zret C0 rfl dX5_canProlong_22
set_option maxHeartbeats 4000000 in
set_option maxRecDepth 100000 in
theorem c_X5_prolong {l : Launch} {E : zEn} {S : zSk} {X : zMl} {Z : Nat → Prop} (hl : l.stackTraces = false) (F : Nat) (p0 : Nat) (p1 : Nat) (p2 : Int32) (hk_p0 : K_X5 S p0) (hk_p1 : K_X9 S p1) (M : zMi) (r : zMi) (hf : f_X5_prolong F p0 p1 p2 M = some r) : zM l E yX5_prolong cX5_prolong 3 (Option.none : Option Jvm.ClassFile.FieldType) { frames := 0, cells := 0, slots := 0, locals := 0 } 0 0 [.ref p0, .ref p1, .int p2] S Z M X S Z none r X := by
  refine zM.intro (L0 := [(0, .ref p0), (1, .ref p1), (2, .int p2)]) hl (by decide) (Nat.le_of_ble_eq_true rfl) rfl (fun Γ C0 _ => ?_)
  unfold f_X5_prolong at hf
  refine r_aload_n C0 dX5_prolong_0 rfl 1 rfl ?_
  refine r_dup C0 dX5_prolong_1 rfl ?_
  refine r_getI C0 (C := RX9) (T := TX9) cl_X9 (K_X9_o hk_p1) (k := 2) (by decide) qw_122 rfl dX5_prolong_2 ?_
  refine r_iload_n C0 dX5_prolong_5 rfl 2 rfl ?_
  refine r_iadd C0 dX5_prolong_6 ?_
  refine r_putI C0 (C := RX9) (T := TX9) cl_X9 (K_X9_o hk_p1) (k := 2) (by decide) qw_122 rfl rfl rfl rfl hf dX5_prolong_7 (fun M1 hf => ?_)
  refine r_aload_n C0 dX5_prolong_10 rfl 0 rfl ?_
  refine r_getR C0 (C := RX5) (T := TX5) cl_X5 (K_X5_o hk_p0) (k := 4) (by decide) qw_43 rfl (K_X5_ledger_r hk_p0) dX5_prolong_11 ?_
  refine r_dup C0 dX5_prolong_14 rfl ?_
  refine r_getI C0 (C := RX1) (T := TX1) cl_X1 (K_X1_o (K_X5_ledger_k hk_p0)) (k := 5) (by decide) qw_123 rfl dX5_prolong_15 ?_
  refine r_bipush (v := 50) C0 dX5_prolong_18 (by decide) ?_
  refine r_iload_n C0 dX5_prolong_20 rfl 2 rfl ?_
  refine r_imul C0 dX5_prolong_21 ?_
  refine r_iadd C0 dX5_prolong_22 ?_
  refine r_putI C0 (C := RX1) (T := TX1) cl_X1 (K_X1_o (K_X5_ledger_k hk_p0)) (k := 5) (by decide) qw_123 rfl rfl rfl rfl hf dX5_prolong_23 (fun M2 hf => ?_)
  obtain rfl := Option.some.inj hf
  exact r_vret C0 dX5_prolong_26
set_option maxHeartbeats 4000000 in
set_option maxRecDepth 100000 in
theorem c_X2_extendsPermit {l : Launch} {E : zEn} {S : zSk} {X : zMl} {Z : Nat → Prop} (hl : l.stackTraces = false) (F : Nat) (p0 : Nat) (p1 : Option Nat) (p2 : Int32) (hk_p0 : K_X5 S p0) (hk_p1 : ∀ q, p1 = some q → K_X9 S q) (M : zMi) (r : Int32 × zMi) (hf : f_X2_extendsPermit F p0 p1 p2 M = some r) : zM l E yX2_extendsPermit cX2_extendsPermit 3 (Option.some Jvm.ClassFile.FieldType.boolean) { frames := 1, cells := 0, slots := 0, locals := 22 } 0 0 [.ref p0, va_rf p1, .int p2] S Z M X S Z (some (.int r.1)) r.2 X := by
  cases p1 with
  | none =>
    refine zM.intro (L0 := [(0, .ref p0), (1, .null), (2, .int p2)]) hl (by decide) (Nat.le_of_ble_eq_true rfl) rfl (fun Γ C0 _ => ?_)
    unfold f_X2_extendsPermit at hf
    have hf := zopt_n hf
    refine r_aloadN_n C0 dX2_extendsPermit_0 rfl 1 rfl ?_
    refine r_ifnullN C0 13 dX2_extendsPermit_1 (by decide) ?_
    refine r_iconst (v := 0) C0 dX2_extendsPermit_13 (by decide) ?_
    obtain rfl := Option.some.inj hf
    exact r_zret C0 rfl dX2_extendsPermit_14
  | some qe =>
    refine zM.intro (L0 := [(0, .ref p0), (1, .ref qe), (2, .int p2)]) hl (by decide) (Nat.le_of_ble_eq_true rfl) rfl (fun Γ C0 _ => ?_)
    unfold f_X2_extendsPermit at hf
    have hf := zopt_s hf
    have hk_qe := hk_p1 qe rfl
    refine r_aload_n C0 dX2_extendsPermit_0 rfl 1 rfl ?_
    refine r_ifnull C0 dX2_extendsPermit_1 ?_
    refine r_aload_n C0 dX2_extendsPermit_4 rfl 0 rfl ?_
    refine r_aload_n C0 dX2_extendsPermit_5 rfl 1 rfl ?_
    refine r_iload_n C0 dX2_extendsPermit_6 rfl 2 rfl ?_
    refine r_callVi C0 (st := []) [.ref qe, .int p2] p0 hf vs_17 (fun hl r1 hr1 => c_X5_canProlong hl F p0 qe p2 hk_p0 hk_qe M r1 hr1) (K_X5_o hk_p0) rfl rfl rfl rfl (Nat.le_of_ble_eq_true rfl) dX2_extendsPermit_7 (zrm_ok rfl) (fun r1 hr1 hf => ?_)
    refine r_if_ne C0 15 dX2_extendsPermit_10 (by decide) hf (fun hf => ?_) (fun hf => ?_)
    · refine r_aload_n C0 dX2_extendsPermit_15 rfl 0 rfl ?_
      refine r_aload_n C0 dX2_extendsPermit_16 rfl 1 rfl ?_
      refine r_iload_n C0 dX2_extendsPermit_17 rfl 2 rfl ?_
      refine r_callVm C0 (st := []) [.ref qe, .int p2] p0 hf vs_18 (fun hl r2 hr2 => c_X5_prolong hl F p0 qe p2 hk_p0 hk_qe M r2 hr2) (K_X5_o hk_p0) rfl rfl rfl rfl (Nat.le_of_ble_eq_true rfl) dX2_extendsPermit_18 (zrm_ok rfl) (fun r2 hr2 hf => ?_)
      refine r_iconst (v := 1) C0 dX2_extendsPermit_21 (by decide) ?_
      obtain rfl := Option.some.inj hf
      exact r_zret C0 rfl dX2_extendsPermit_22
    · refine r_iconst (v := 0) C0 dX2_extendsPermit_13 (by decide) ?_
      obtain rfl := Option.some.inj hf
      exact r_zret C0 rfl dX2_extendsPermit_14
set_option maxHeartbeats 4000000 in
set_option maxRecDepth 100000 in
theorem g_X3_sailOneDay_16 {Γ : zCx} {E : zEn} {S : zSk} {X : zMl} {Z : Nat → Prop} (C0 : zCt Γ E RX3 cX3_sailOneDay 1 (Option.none : Option Jvm.ClassFile.FieldType) [] { frames := 0, cells := 0, slots := 0, locals := 0 }) (F : Nat) (p0 : Nat) (hk_p0 : K_X3 S p0)  (M : zMi) (r : zMi)  (hf : f_X3_sailOneDay_16 F p0  M = some r) : zG Γ (zQ Γ E 0 0 S Z none r X) E 1 0 0 S Z M X 16 [(0, .ref p0)] [] := by
  unfold f_X3_sailOneDay_16 at hf
  refine r_aload_n C0 dX3_sailOneDay_16 rfl 0 rfl ?_
  refine r_dup C0 dX3_sailOneDay_17 rfl ?_
  refine r_getI C0 (C := RX3) (T := TX3) cl_X3 (K_X3_o hk_p0) (k := 6) (by decide) qw_13 rfl dX3_sailOneDay_18 ?_
  refine r_iconst (v := 1) C0 dX3_sailOneDay_21 (by decide) ?_
  refine r_isub C0 dX3_sailOneDay_22 ?_
  refine r_putI C0 (C := RX3) (T := TX3) cl_X3 (K_X3_o hk_p0) (k := 6) (by decide) qw_13 rfl rfl rfl rfl hf dX3_sailOneDay_23 (fun M1 hf => ?_)
  refine r_aload_n C0 dX3_sailOneDay_26 rfl 0 rfl ?_
  refine r_getI C0 (C := RX3) (T := TX3) cl_X3 (K_X3_o hk_p0) (k := 6) (by decide) qw_13 rfl dX3_sailOneDay_27 ?_
  refine r_if_ne C0 50 dX3_sailOneDay_30 (by decide) hf (fun hf => ?_) (fun hf => ?_)
  · obtain rfl := Option.some.inj hf
    exact r_vret C0 dX3_sailOneDay_50
  · refine r_aload_n C0 dX3_sailOneDay_33 rfl 0 rfl ?_
    refine r_aload_n C0 dX3_sailOneDay_34 rfl 0 rfl ?_
    refine r_getI C0 (C := RX3) (T := TX3) cl_X3 (K_X3_o hk_p0) (k := 5) (by decide) qw_12 rfl dX3_sailOneDay_35 ?_
    refine r_iconst (v := 1) C0 dX3_sailOneDay_38 (by decide) ?_
    refine r_icmp_ne C0 46 dX3_sailOneDay_39 (by decide) hf (fun hf => ?_) (fun hf => ?_)
    · refine r_iconst (v := 0) C0 dX3_sailOneDay_46 (by decide) ?_
      refine r_putI C0 (C := RX3) (T := TX3) cl_X3 (K_X3_o hk_p0) (k := 5) (by decide) qw_12 rfl rfl rfl rfl hf dX3_sailOneDay_47 (fun M2 hf => ?_)
      obtain rfl := Option.some.inj hf
      exact r_vret C0 dX3_sailOneDay_50
    · refine r_iconst (v := 2) C0 dX3_sailOneDay_42 (by decide) ?_
      refine r_goto C0 47 dX3_sailOneDay_43 (by decide) ?_
      refine r_putI C0 (C := RX3) (T := TX3) cl_X3 (K_X3_o hk_p0) (k := 5) (by decide) qw_12 rfl rfl rfl rfl hf dX3_sailOneDay_47 (fun M3 hf => ?_)
      obtain rfl := Option.some.inj hf
      exact r_vret C0 dX3_sailOneDay_50
set_option maxHeartbeats 4000000 in
set_option maxRecDepth 100000 in
theorem c_X3_sailOneDay {l : Launch} {E : zEn} {S : zSk} {X : zMl} {Z : Nat → Prop} (hl : l.stackTraces = false) (F : Nat) (p0 : Nat) (hk_p0 : K_X3 S p0) (M : zMi) (r : zMi) (hf : f_X3_sailOneDay F p0 M = some r) : zM l E yX3_sailOneDay cX3_sailOneDay 1 (Option.none : Option Jvm.ClassFile.FieldType) { frames := 0, cells := 0, slots := 0, locals := 0 } 0 0 [.ref p0] S Z M X S Z none r X := by
  refine zM.intro (L0 := [(0, .ref p0)]) hl (by decide) (Nat.le_of_ble_eq_true rfl) rfl (fun Γ C0 _ => ?_)
  unfold f_X3_sailOneDay at hf
  refine r_aload_n C0 dX3_sailOneDay_0 rfl 0 rfl ?_
  refine r_getI C0 (C := RX3) (T := TX3) cl_X3 (K_X3_o hk_p0) (k := 5) (by decide) qw_12 rfl dX3_sailOneDay_1 ?_
  refine r_iconst (v := 1) C0 dX3_sailOneDay_4 (by decide) ?_
  refine r_icmp_eq C0 16 dX3_sailOneDay_5 (by decide) hf (fun hf => ?_) (fun hf => ?_)
  · refine r_sub (L' := [(0, .ref p0)]) [0] rfl ?_
    exact g_X3_sailOneDay_16 C0 F p0 hk_p0  M _  hf
  · refine r_aload_n C0 dX3_sailOneDay_8 rfl 0 rfl ?_
    refine r_getI C0 (C := RX3) (T := TX3) cl_X3 (K_X3_o hk_p0) (k := 5) (by decide) qw_12 rfl dX3_sailOneDay_9 ?_
    refine r_iconst (v := 4) C0 dX3_sailOneDay_12 (by decide) ?_
    refine r_icmp_ne C0 50 dX3_sailOneDay_13 (by decide) hf (fun hf => ?_) (fun hf => ?_)
    · obtain rfl := Option.some.inj hf
      exact r_vret C0 dX3_sailOneDay_50
    · refine r_sub (L' := [(0, .ref p0)]) [0] rfl ?_
      exact g_X3_sailOneDay_16 C0 F p0 hk_p0  M _  hf
set_option maxHeartbeats 4000000 in
set_option maxRecDepth 100000 in
theorem g_X5_numberAtFront_2 {Γ : zCx} {E : zEn} {S : zSk} {X : zMl} {Z : Nat → Prop} {M : zMi} (C0 : zCt Γ E RX5 cX5_numberAtFront 2 (Option.some Jvm.ClassFile.FieldType.int) [] { frames := 0, cells := 0, slots := 0, locals := 0 }) (F : Nat) (p0 : Nat) (hk_p0 : K_X5 S p0) : ∀ (n : Nat) (v1 : Int32) (r : Int32) , f_X5_numberAtFront_2 F p0 n v1 M = some r → zG Γ (zQ Γ E 0 0 S Z (some (.int r)) M X) E 2 0 0 S Z M X 2 [(0, .ref p0), (1, .int v1)] [] := by
  intro n
  induction n with
  | zero => intro v1 r; intro hf; cases hf
  | succ n ih =>
    intro v1 r hf
    refine r_iload_n C0 dX5_numberAtFront_2 rfl 1 rfl ?_
    refine r_aload_n C0 dX5_numberAtFront_3 rfl 0 rfl ?_
    refine r_getR C0 (C := RX5) (T := TX5) cl_X5 (K_X5_o hk_p0) (k := 1) (by decide) qw_56 rfl (K_X5_ships_r hk_p0) dX5_numberAtFront_4 ?_
    refine r_alen (v := 4) C0 ((K_X5_ships_k hk_p0)).1 (by decide) rfl dX5_numberAtFront_7 ?_
    refine r_icmp_ge C0 32 dX5_numberAtFront_8 (by decide) hf (fun hf => ?_) (fun hf => ?_)
    · refine r_bipush (v := -9) C0 dX5_numberAtFront_32 (by decide) ?_
      obtain rfl := Option.some.inj hf
      exact r_iret C0 dX5_numberAtFront_34
    · refine r_aload_n C0 dX5_numberAtFront_11 rfl 0 rfl ?_
      refine r_getR C0 (C := RX5) (T := TX5) cl_X5 (K_X5_o hk_p0) (k := 1) (by decide) qw_56 rfl (K_X5_ships_r hk_p0) dX5_numberAtFront_12 ?_
      refine r_iload_n C0 dX5_numberAtFront_15 rfl 1 rfl ?_
      refine r_aald C0 (g := fun j => p0 + 2 + 15 + 1 * j) ((K_X5_ships_k hk_p0)).1 (by decide) (by decide) rfl ((K_X5_ships_k hk_p0)).2.1 hf dX5_numberAtFront_16 (fun hi hf => ?_)
      refine r_nmA hf (fun q1 hq hf => ?_)
      have hk_q1 : K_X3 S q1 := by rw [hq]; exact ((K_X5_ships_k hk_p0)).2.2 _ hi
      refine r_getI C0 (C := RX3) (T := TX3) cl_X3 (K_X3_o hk_q1) (k := 5) (by decide) qw_79 rfl dX5_numberAtFront_17 ?_
      refine r_iconst (v := 3) C0 dX5_numberAtFront_20 (by decide) ?_
      refine r_icmp_ne C0 26 dX5_numberAtFront_21 (by decide) hf (fun hf => ?_) (fun hf => ?_)
      · refine r_iinc (j := 1) (v := (v1 + (1 : Int32))) (L' := [(1, .int (v1 + (1 : Int32))), (0, .ref p0)]) C0 dX5_numberAtFront_26 rfl rfl (by decide) rfl ?_
        refine r_goto C0 2 dX5_numberAtFront_29 (by decide) ?_
        refine r_sub (L' := [(0, .ref p0), (1, .int (v1 + (1 : Int32)))]) [1, 0] rfl ?_
        exact ih (v1 + (1 : Int32)) _  hf
      · refine r_iload_n C0 dX5_numberAtFront_24 rfl 1 rfl ?_
        obtain rfl := Option.some.inj hf
        exact r_iret C0 dX5_numberAtFront_25
set_option maxHeartbeats 4000000 in
set_option maxRecDepth 100000 in
theorem c_X5_numberAtFront {l : Launch} {E : zEn} {S : zSk} {X : zMl} {Z : Nat → Prop} (hl : l.stackTraces = false) (F : Nat) (p0 : Nat) (hk_p0 : K_X5 S p0) (M : zMi) (r : Int32) (hf : f_X5_numberAtFront F p0 M = some r) : zM l E yX5_numberAtFront cX5_numberAtFront 2 (Option.some Jvm.ClassFile.FieldType.int) { frames := 0, cells := 0, slots := 0, locals := 0 } 0 0 [.ref p0] S Z M X S Z (some (.int r)) M X := by
  refine zM.intro (L0 := [(0, .ref p0)]) hl (by decide) (Nat.le_of_ble_eq_true rfl) rfl (fun Γ C0 _ => ?_)
  unfold f_X5_numberAtFront at hf
  refine r_iconst (v := 0) C0 dX5_numberAtFront_0 (by decide) ?_
  refine r_istore_n (L' := [(1, .int (0 : Int32)), (0, .ref p0)]) C0 dX5_numberAtFront_1 rfl (by decide) rfl ?_
  refine r_sub (L' := [(0, .ref p0), (1, .int (0 : Int32))]) [1, 0] rfl ?_
  exact g_X5_numberAtFront_2 C0 F p0 hk_p0 F (0 : Int32) _  hf
set_option maxHeartbeats 4000000 in
set_option maxRecDepth 100000 in
theorem g_X5_comeToFront_20 {Γ : zCx} {E : zEn} {S : zSk} {X : zMl} {Z : Nat → Prop} (C0 : zCt Γ E RX5 cX5_comeToFront 5 (Option.none : Option Jvm.ClassFile.FieldType) [] { frames := 1, cells := 0, slots := 0, locals := 21 }) (F : Nat) (p0 : Nat) (hk_p0 : K_X5 S p0) : ∀ (n : Nat) (v3 : Int32) (M : zMi) (r : zMi) , f_X5_comeToFront_20 F p0 n v3 M = some r → zG Γ (zQ Γ E 0 0 S Z none r X) E 5 0 0 S Z M X 20 [(0, .ref p0), (1, .ref (p0 + 2)), (2, .int (4 : Int32)), (3, .int v3)] [] := by
  intro n
  induction n with
  | zero => intro v3 M r; intro hf; cases hf
  | succ n ih =>
    intro v3 M r hf
    refine r_iload_n C0 dX5_comeToFront_20 rfl 3 rfl ?_
    refine r_iload_n C0 dX5_comeToFront_21 rfl 2 rfl ?_
    refine r_icmp_ge C0 74 dX5_comeToFront_22 (by decide) hf (fun hf => ?_) (fun hf => ?_)
    · obtain rfl := Option.some.inj hf
      exact r_vret C0 dX5_comeToFront_74
    · refine r_aload_n C0 dX5_comeToFront_25 rfl 1 rfl ?_
      refine r_iload_n C0 dX5_comeToFront_26 rfl 3 rfl ?_
      refine r_aald C0 (g := fun j => p0 + 2 + 15 + 1 * j) ((K_X5_ships_k hk_p0)).1 (by decide) (by decide) rfl ((K_X5_ships_k hk_p0)).2.1 hf dX5_comeToFront_27 (fun hi hf => ?_)
      refine r_nmA hf (fun q1 hq hf => ?_)
      have hk_q1 : K_X3 S q1 := by rw [hq]; exact ((K_X5_ships_k hk_p0)).2.2 _ hi
      refine r_astore (L' := [(4, .ref q1), (0, .ref p0), (1, .ref (p0 + 2)), (2, .int (4 : Int32)), (3, .int v3)]) C0 dX5_comeToFront_28 (by decide) rfl ?_
      refine r_aload C0 dX5_comeToFront_30 0 rfl ?_
      refine r_getI C0 (C := RX3) (T := TX3) cl_X3 (K_X3_o hk_q1) (k := 5) (by decide) qw_79 rfl dX5_comeToFront_32 ?_
      refine r_iconst (v := 2) C0 dX5_comeToFront_35 (by decide) ?_
      refine r_icmp_ne C0 68 dX5_comeToFront_36 (by decide) hf (fun hf => ?_) (fun hf => ?_)
      · refine r_iinc (j := 4) (v := (v3 + (1 : Int32))) (L' := [(3, .int (v3 + (1 : Int32))), (4, .ref q1), (0, .ref p0), (1, .ref (p0 + 2)), (2, .int (4 : Int32))]) C0 dX5_comeToFront_68 rfl rfl (by decide) rfl ?_
        refine r_goto C0 20 dX5_comeToFront_71 (by decide) ?_
        refine r_sub (L' := [(0, .ref p0), (1, .ref (p0 + 2)), (2, .int (4 : Int32)), (3, .int (v3 + (1 : Int32)))]) [2, 3, 4, 0] rfl ?_
        exact ih (v3 + (1 : Int32)) M _  hf
      · refine r_aload C0 dX5_comeToFront_39 0 rfl ?_
        refine r_iconst (v := 3) C0 dX5_comeToFront_41 (by decide) ?_
        refine r_putI C0 (C := RX3) (T := TX3) cl_X3 (K_X3_o hk_q1) (k := 5) (by decide) qw_79 rfl rfl rfl rfl hf dX5_comeToFront_42 (fun M2 hf => ?_)
        refine r_aload_n C0 dX5_comeToFront_45 rfl 1 rfl ?_
        refine r_getR C0 (C := RX5) (T := TX5) cl_X5 (K_X5_o hk_p0) (k := 3) (by decide) qw_37 rfl (K_X5_teams_r hk_p0) dX5_comeToFront_46 ?_
        refine r_aload_n C0 dX5_comeToFront_49 rfl 1 rfl ?_
        refine r_getR C0 (C := RX5) (T := TX5) cl_X5 (K_X5_o hk_p0) (k := 4) (by decide) qw_43 rfl (K_X5_ledger_r hk_p0) dX5_comeToFront_50 ?_
        refine r_getI C0 (C := RX1) (T := TX1) cl_X1 (K_X1_o (K_X5_ledger_k hk_p0)) (k := 1) (by decide) qw_132 rfl dX5_comeToFront_53 ?_
        refine r_if_le C0 63 dX5_comeToFront_56 (by decide) hf (fun hf => ?_) (fun hf => ?_)
        · refine r_iconst (v := 0) C0 dX5_comeToFront_63 (by decide) ?_
          refine r_putI C0 (C := RX6) (T := TX6) cl_X6 (K_X6_o (K_X5_teams_k hk_p0)) (k := 3) (by decide) qw_133 rfl rfl rfl rfl hf dX5_comeToFront_64 (fun M3 hf => ?_)
          obtain rfl := Option.some.inj hf
          exact r_vret C0 dX5_comeToFront_67
        · refine r_iconst (v := 1) C0 dX5_comeToFront_59 (by decide) ?_
          refine r_goto C0 64 dX5_comeToFront_60 (by decide) ?_
          refine r_putI C0 (C := RX6) (T := TX6) cl_X6 (K_X6_o (K_X5_teams_k hk_p0)) (k := 3) (by decide) qw_133 rfl rfl rfl rfl hf dX5_comeToFront_64 (fun M4 hf => ?_)
          obtain rfl := Option.some.inj hf
          exact r_vret C0 dX5_comeToFront_67
set_option maxHeartbeats 4000000 in
set_option maxRecDepth 100000 in
theorem c_X5_comeToFront {l : Launch} {E : zEn} {S : zSk} {X : zMl} {Z : Nat → Prop} (hl : l.stackTraces = false) (F : Nat) (p0 : Nat) (hk_p0 : K_X5 S p0) (M : zMi) (r : zMi) (hf : f_X5_comeToFront F p0 M = some r) : zM l E yX5_comeToFront cX5_comeToFront 5 (Option.none : Option Jvm.ClassFile.FieldType) { frames := 1, cells := 0, slots := 0, locals := 21 } 0 0 [.ref p0] S Z M X S Z none r X := by
  refine zM.intro (L0 := [(0, .ref p0)]) hl (by decide) (Nat.le_of_ble_eq_true rfl) rfl (fun Γ C0 _ => ?_)
  unfold f_X5_comeToFront at hf
  refine r_aload_n C0 dX5_comeToFront_0 rfl 0 rfl ?_
  refine r_callVi C0 (st := []) [] p0 hf vs_19 (fun hl r1 hr1 => c_X5_numberAtFront hl F p0 hk_p0 M r1 hr1) (K_X5_o hk_p0) rfl rfl rfl rfl (Nat.le_of_ble_eq_true rfl) dX5_comeToFront_1 (zrm_ok rfl) (fun r1 hr1 hf => ?_)
  refine r_bipush (v := -9) C0 dX5_comeToFront_4 (by decide) ?_
  refine r_icmp_eq C0 10 dX5_comeToFront_6 (by decide) hf (fun hf => ?_) (fun hf => ?_)
  · refine r_aload_n C0 dX5_comeToFront_10 rfl 0 rfl ?_
    refine r_getR C0 (C := RX5) (T := TX5) cl_X5 (K_X5_o hk_p0) (k := 1) (by decide) qw_56 rfl (K_X5_ships_r hk_p0) dX5_comeToFront_11 ?_
    refine r_astore_n (L' := [(1, .ref (p0 + 2)), (0, .ref p0)]) C0 dX5_comeToFront_14 rfl (by decide) rfl ?_
    refine r_aload_n C0 dX5_comeToFront_15 rfl 0 rfl ?_
    refine r_alen (v := 4) C0 ((K_X5_ships_k hk_p0)).1 (by decide) rfl dX5_comeToFront_16 ?_
    refine r_istore_n (L' := [(2, .int (4 : Int32)), (1, .ref (p0 + 2)), (0, .ref p0)]) C0 dX5_comeToFront_17 rfl (by decide) rfl ?_
    refine r_iconst (v := 0) C0 dX5_comeToFront_18 (by decide) ?_
    refine r_istore_n (L' := [(3, .int (0 : Int32)), (2, .int (4 : Int32)), (1, .ref (p0 + 2)), (0, .ref p0)]) C0 dX5_comeToFront_19 rfl (by decide) rfl ?_
    refine r_sub (L' := [(0, .ref p0), (1, .ref (p0 + 2)), (2, .int (4 : Int32)), (3, .int (0 : Int32))]) [3, 2, 1, 0] rfl ?_
    exact g_X5_comeToFront_20 C0 F p0 hk_p0 F (0 : Int32) M _  hf
  · obtain rfl := Option.some.inj hf
    exact r_vret C0 dX5_comeToFront_9
set_option maxHeartbeats 4000000 in
set_option maxRecDepth 100000 in
theorem c_X8_on {l : Launch} {E : zEn} {S : zSk} {X : zMl} {Z : Nat → Prop} (hl : l.stackTraces = false) (F : Nat) (p0 : Nat) (p1 : Int32) (hk_p0 : K_X8 S p0) (M : zMi) (r : Int32) (hf : f_X8_on F p0 p1 M = some r) : zM l E yX8_on cX8_on 3 (Option.some Jvm.ClassFile.FieldType.int) { frames := 0, cells := 0, slots := 0, locals := 0 } 0 0 [.ref p0, .int p1] S Z M X S Z (some (.int r)) M X := by
  refine zM.intro (L0 := [(0, .ref p0), (1, .int p1)]) hl (by decide) (Nat.le_of_ble_eq_true rfl) rfl (fun Γ C0 _ => ?_)
  unfold f_X8_on at hf
  refine r_iload_n C0 dX8_on_0 rfl 1 rfl ?_
  refine r_if_lt C0 11 dX8_on_1 (by decide) hf (fun hf => ?_) (fun hf => ?_)
  · refine r_iconst (v := 0) C0 dX8_on_11 (by decide) ?_
    obtain rfl := Option.some.inj hf
    exact r_iret C0 dX8_on_12
  · refine r_aload_n C0 dX8_on_4 rfl 0 rfl ?_
    refine r_getI C0 (C := RX8) (T := TX8) cl_X8 (K_X8_o hk_p0) (k := 0) (by decide) qw_16 rfl dX8_on_5 ?_
    refine r_if_gt C0 13 dX8_on_8 (by decide) hf (fun hf => ?_) (fun hf => ?_)
    · refine r_iload_n C0 dX8_on_13 rfl 1 rfl ?_
      refine r_aload_n C0 dX8_on_14 rfl 0 rfl ?_
      refine r_getI C0 (C := RX8) (T := TX8) cl_X8 (K_X8_o hk_p0) (k := 0) (by decide) qw_16 rfl dX8_on_15 ?_
      refine r_irem C0 dX8_on_18 hf (fun hf => ?_)
      refine r_nm hf (fun x1 hf => ?_)
      refine r_istore_n (L' := [(2, .int x1), (0, .ref p0), (1, .int p1)]) C0 dX8_on_19 rfl (by decide) rfl ?_
      refine r_iload_n C0 dX8_on_20 rfl 0 rfl ?_
      refine r_aload_n C0 dX8_on_21 rfl 1 rfl ?_
      refine r_getR C0 (C := RX8) (T := TX8) cl_X8 (K_X8_o hk_p0) (k := 1) (by decide) qw_15 rfl (K_X8_row_r hk_p0) dX8_on_22 ?_
      refine r_alen (v := 30) C0 (K_X8_row_k hk_p0) (by decide) rfl dX8_on_25 ?_
      refine r_icmp_ge C0 38 dX8_on_26 (by decide) hf (fun hf => ?_) (fun hf => ?_)
      · refine r_iconst (v := 0) C0 dX8_on_38 (by decide) ?_
        obtain rfl := Option.some.inj hf
        exact r_iret C0 dX8_on_39
      · refine r_aload_n C0 dX8_on_29 rfl 1 rfl ?_
        refine r_getR C0 (C := RX8) (T := TX8) cl_X8 (K_X8_o hk_p0) (k := 1) (by decide) qw_15 rfl (K_X8_row_r hk_p0) dX8_on_30 ?_
        refine r_iload_n C0 dX8_on_33 rfl 0 rfl ?_
        refine r_iald C0 (K_X8_row_k hk_p0) hf dX8_on_34 (fun hf => ?_)
        refine r_goto C0 39 dX8_on_35 (by decide) ?_
        obtain rfl := Option.some.inj hf
        exact r_iret C0 dX8_on_39
    · refine r_iconst (v := 0) C0 dX8_on_11 (by decide) ?_
      obtain rfl := Option.some.inj hf
      exact r_iret C0 dX8_on_12
set_option maxHeartbeats 4000000 in
set_option maxRecDepth 100000 in
theorem c_X6_isFree {l : Launch} {E : zEn} {S : zSk} {X : zMl} {Z : Nat → Prop} (hl : l.stackTraces = false) (F : Nat) (p0 : Nat) (p1 : Int32) (hk_p0 : K_X6 S p0) (M : zMi) (r : Int32) (hf : f_X6_isFree F p0 p1 M = some r) : zM l E yX6_isFree cX6_isFree 2 (Option.some Jvm.ClassFile.FieldType.boolean) { frames := 0, cells := 0, slots := 0, locals := 0 } 0 0 [.ref p0, .int p1] S Z M X S Z (some (.int r)) M X := by
  refine zM.intro (L0 := [(0, .ref p0), (1, .int p1)]) hl (by decide) (Nat.le_of_ble_eq_true rfl) rfl (fun Γ C0 _ => ?_)
  unfold f_X6_isFree at hf
  refine r_iload_n C0 dX6_isFree_0 rfl 1 rfl ?_
  refine r_if_lt C0 42 dX6_isFree_1 (by decide) hf (fun hf => ?_) (fun hf => ?_)
  · refine r_iconst (v := 0) C0 dX6_isFree_42 (by decide) ?_
    obtain rfl := Option.some.inj hf
    exact r_zret C0 rfl dX6_isFree_43
  · refine r_iload_n C0 dX6_isFree_4 rfl 1 rfl ?_
    refine r_aload_n C0 dX6_isFree_5 rfl 0 rfl ?_
    refine r_getI C0 (C := RX6) (T := TX6) cl_X6 (K_X6_o hk_p0) (k := 0) (by decide) qw_22 rfl dX6_isFree_6 ?_
    refine r_icmp_ge C0 42 dX6_isFree_9 (by decide) hf (fun hf => ?_) (fun hf => ?_)
    · refine r_iconst (v := 0) C0 dX6_isFree_42 (by decide) ?_
      obtain rfl := Option.some.inj hf
      exact r_zret C0 rfl dX6_isFree_43
    · refine r_iload_n C0 dX6_isFree_12 rfl 1 rfl ?_
      refine r_aload_n C0 dX6_isFree_13 rfl 0 rfl ?_
      refine r_getR C0 (C := RX6) (T := TX6) cl_X6 (K_X6_o hk_p0) (k := 2) (by decide) qw_21 rfl (K_X6_rest_r hk_p0) dX6_isFree_14 ?_
      refine r_alen (v := 3) C0 (K_X6_rest_k hk_p0) (by decide) rfl dX6_isFree_17 ?_
      refine r_icmp_ge C0 42 dX6_isFree_18 (by decide) hf (fun hf => ?_) (fun hf => ?_)
      · refine r_iconst (v := 0) C0 dX6_isFree_42 (by decide) ?_
        obtain rfl := Option.some.inj hf
        exact r_zret C0 rfl dX6_isFree_43
      · refine r_iload_n C0 dX6_isFree_21 rfl 1 rfl ?_
        refine r_aload_n C0 dX6_isFree_22 rfl 0 rfl ?_
        refine r_getI C0 (C := RX6) (T := TX6) cl_X6 (K_X6_o hk_p0) (k := 4) (by decide) qw_18 rfl dX6_isFree_23 ?_
        refine r_icmp_eq C0 42 dX6_isFree_26 (by decide) hf (fun hf => ?_) (fun hf => ?_)
        · refine r_iconst (v := 0) C0 dX6_isFree_42 (by decide) ?_
          obtain rfl := Option.some.inj hf
          exact r_zret C0 rfl dX6_isFree_43
        · refine r_aload_n C0 dX6_isFree_29 rfl 0 rfl ?_
          refine r_getR C0 (C := RX6) (T := TX6) cl_X6 (K_X6_o hk_p0) (k := 2) (by decide) qw_21 rfl (K_X6_rest_r hk_p0) dX6_isFree_30 ?_
          refine r_iload_n C0 dX6_isFree_33 rfl 1 rfl ?_
          refine r_iald C0 (K_X6_rest_k hk_p0) hf dX6_isFree_34 (fun hf => ?_)
          refine r_if_ne C0 42 dX6_isFree_35 (by decide) hf (fun hf => ?_) (fun hf => ?_)
          · refine r_iconst (v := 0) C0 dX6_isFree_42 (by decide) ?_
            obtain rfl := Option.some.inj hf
            exact r_zret C0 rfl dX6_isFree_43
          · refine r_iconst (v := 1) C0 dX6_isFree_38 (by decide) ?_
            refine r_goto C0 43 dX6_isFree_39 (by decide) ?_
            obtain rfl := Option.some.inj hf
            exact r_zret C0 rfl dX6_isFree_43
set_option maxHeartbeats 4000000 in
set_option maxRecDepth 100000 in
theorem g_X6_beginSplice_2 {Γ : zCx} {E : zEn} {S : zSk} {X : zMl} {Z : Nat → Prop} (C0 : zCt Γ E RX6 cX6_beginSplice 3 (Option.some Jvm.ClassFile.FieldType.boolean) [] { frames := 1, cells := 0, slots := 0, locals := 21 }) (F : Nat) (p0 : Nat) (p1 : Int32) (hk_p0 : K_X6 S p0) : ∀ (n : Nat) (v2 : Int32) (M : zMi) (r : Int32 × zMi) , f_X6_beginSplice_2 F p0 p1 n v2 M = some r → zG Γ (zQ Γ E 0 0 S Z (some (.int r.1)) r.2 X) E 3 0 0 S Z M X 2 [(0, .ref p0), (1, .int p1), (2, .int v2)] [] := by
  intro n
  induction n with
  | zero => intro v2 M r; intro hf; cases hf
  | succ n ih =>
    intro v2 M r hf
    refine r_iload_n C0 dX6_beginSplice_2 rfl 2 rfl ?_
    refine r_aload_n C0 dX6_beginSplice_3 rfl 0 rfl ?_
    refine r_getR C0 (C := RX6) (T := TX6) cl_X6 (K_X6_o hk_p0) (k := 2) (by decide) qw_21 rfl (K_X6_rest_r hk_p0) dX6_beginSplice_4 ?_
    refine r_alen (v := 3) C0 (K_X6_rest_k hk_p0) (by decide) rfl dX6_beginSplice_7 ?_
    refine r_icmp_ge C0 50 dX6_beginSplice_8 (by decide) hf (fun hf => ?_) (fun hf => ?_)
    · refine r_iconst (v := 0) C0 dX6_beginSplice_50 (by decide) ?_
      obtain rfl := Option.some.inj hf
      exact r_zret C0 rfl dX6_beginSplice_51
    · refine r_iload_n C0 dX6_beginSplice_11 rfl 1 rfl ?_
      refine r_iconst (v := 3) C0 dX6_beginSplice_12 (by decide) ?_
      refine r_icmp_gt C0 50 dX6_beginSplice_13 (by decide) hf (fun hf => ?_) (fun hf => ?_)
      · refine r_iconst (v := 0) C0 dX6_beginSplice_50 (by decide) ?_
        obtain rfl := Option.some.inj hf
        exact r_zret C0 rfl dX6_beginSplice_51
      · refine r_aload_n C0 dX6_beginSplice_16 rfl 0 rfl ?_
        refine r_iload_n C0 dX6_beginSplice_17 rfl 2 rfl ?_
        refine r_callVi C0 (st := []) [.int v2] p0 hf vs_20 (fun hl r1 hr1 => c_X6_isFree hl F p0 v2 hk_p0 M r1 hr1) (K_X6_o hk_p0) rfl rfl rfl rfl (Nat.le_of_ble_eq_true rfl) dX6_beginSplice_18 (zrm_ok rfl) (fun r1 hr1 hf => ?_)
        refine r_if_eq C0 44 dX6_beginSplice_21 (by decide) hf (fun hf => ?_) (fun hf => ?_)
        · refine r_iinc (j := 2) (v := (v2 + (1 : Int32))) (L' := [(2, .int (v2 + (1 : Int32))), (0, .ref p0), (1, .int p1)]) C0 dX6_beginSplice_44 rfl rfl (by decide) rfl ?_
          refine r_goto C0 2 dX6_beginSplice_47 (by decide) ?_
          refine r_sub (L' := [(0, .ref p0), (1, .int p1), (2, .int (v2 + (1 : Int32)))]) [1, 2, 0] rfl ?_
          exact ih (v2 + (1 : Int32)) M _  hf
        · refine r_aload_n C0 dX6_beginSplice_24 rfl 0 rfl ?_
          refine r_iconst (v := 0) C0 dX6_beginSplice_25 (by decide) ?_
          refine r_putI C0 (C := RX6) (T := TX6) cl_X6 (K_X6_o hk_p0) (k := 3) (by decide) qw_17 rfl rfl rfl rfl hf dX6_beginSplice_26 (fun M2 hf => ?_)
          refine r_aload_n C0 dX6_beginSplice_29 rfl 0 rfl ?_
          refine r_iload_n C0 dX6_beginSplice_30 rfl 2 rfl ?_
          refine r_putI C0 (C := RX6) (T := TX6) cl_X6 (K_X6_o hk_p0) (k := 4) (by decide) qw_18 rfl rfl rfl rfl hf dX6_beginSplice_31 (fun M3 hf => ?_)
          refine r_aload_n C0 dX6_beginSplice_34 rfl 0 rfl ?_
          refine r_aload_n C0 dX6_beginSplice_35 rfl 0 rfl ?_
          refine r_getI C0 (C := RX6) (T := TX6) cl_X6 (K_X6_o hk_p0) (k := 1) (by decide) qw_23 rfl dX6_beginSplice_36 ?_
          refine r_putI C0 (C := RX6) (T := TX6) cl_X6 (K_X6_o hk_p0) (k := 5) (by decide) qw_19 rfl rfl rfl rfl hf dX6_beginSplice_39 (fun M4 hf => ?_)
          refine r_iconst (v := 1) C0 dX6_beginSplice_42 (by decide) ?_
          obtain rfl := Option.some.inj hf
          exact r_zret C0 rfl dX6_beginSplice_43
set_option maxHeartbeats 4000000 in
set_option maxRecDepth 100000 in
theorem c_X6_beginSplice {l : Launch} {E : zEn} {S : zSk} {X : zMl} {Z : Nat → Prop} (hl : l.stackTraces = false) (F : Nat) (p0 : Nat) (p1 : Int32) (hk_p0 : K_X6 S p0) (M : zMi) (r : Int32 × zMi) (hf : f_X6_beginSplice F p0 p1 M = some r) : zM l E yX6_beginSplice cX6_beginSplice 3 (Option.some Jvm.ClassFile.FieldType.boolean) { frames := 1, cells := 0, slots := 0, locals := 21 } 0 0 [.ref p0, .int p1] S Z M X S Z (some (.int r.1)) r.2 X := by
  refine zM.intro (L0 := [(0, .ref p0), (1, .int p1)]) hl (by decide) (Nat.le_of_ble_eq_true rfl) rfl (fun Γ C0 _ => ?_)
  unfold f_X6_beginSplice at hf
  refine r_iconst (v := 0) C0 dX6_beginSplice_0 (by decide) ?_
  refine r_istore_n (L' := [(2, .int (0 : Int32)), (0, .ref p0), (1, .int p1)]) C0 dX6_beginSplice_1 rfl (by decide) rfl ?_
  refine r_sub (L' := [(0, .ref p0), (1, .int p1), (2, .int (0 : Int32))]) [1, 2, 0] rfl ?_
  exact g_X6_beginSplice_2 C0 F p0 p1 hk_p0 F (0 : Int32) M _  hf
set_option maxHeartbeats 4000000 in
set_option maxRecDepth 100000 in
theorem c_X6_spliceGoesOn {l : Launch} {E : zEn} {S : zSk} {X : zMl} {Z : Nat → Prop} (hl : l.stackTraces = false) (F : Nat) (p0 : Nat) (hk_p0 : K_X6 S p0) (M : zMi) (r : Int32) (hf : f_X6_spliceGoesOn F p0 M = some r) : zM l E yX6_spliceGoesOn cX6_spliceGoesOn 1 (Option.some Jvm.ClassFile.FieldType.boolean) { frames := 0, cells := 0, slots := 0, locals := 0 } 0 0 [.ref p0] S Z M X S Z (some (.int r)) M X := by
  refine zM.intro (L0 := [(0, .ref p0)]) hl (by decide) (Nat.le_of_ble_eq_true rfl) rfl (fun Γ C0 _ => ?_)
  unfold f_X6_spliceGoesOn at hf
  refine r_aload_n C0 dX6_spliceGoesOn_0 rfl 0 rfl ?_
  refine r_getI C0 (C := RX6) (T := TX6) cl_X6 (K_X6_o hk_p0) (k := 4) (by decide) qw_18 rfl dX6_spliceGoesOn_1 ?_
  refine r_bipush (v := -9) C0 dX6_spliceGoesOn_4 (by decide) ?_
  refine r_icmp_eq C0 13 dX6_spliceGoesOn_6 (by decide) hf (fun hf => ?_) (fun hf => ?_)
  · refine r_iconst (v := 0) C0 dX6_spliceGoesOn_13 (by decide) ?_
    obtain rfl := Option.some.inj hf
    exact r_zret C0 rfl dX6_spliceGoesOn_14
  · refine r_iconst (v := 1) C0 dX6_spliceGoesOn_9 (by decide) ?_
    refine r_goto C0 14 dX6_spliceGoesOn_10 (by decide) ?_
    obtain rfl := Option.some.inj hf
    exact r_zret C0 rfl dX6_spliceGoesOn_14
set_option maxHeartbeats 4000000 in
set_option maxRecDepth 100000 in
theorem c_X6_workOnSplice {l : Launch} {E : zEn} {S : zSk} {X : zMl} {Z : Nat → Prop} (hl : l.stackTraces = false) (F : Nat) (p0 : Nat) (hk_p0 : K_X6 S p0) (M : zMi) (r : zMi) (hf : f_X6_workOnSplice F p0 M = some r) : zM l E yX6_workOnSplice cX6_workOnSplice 1 (Option.none : Option Jvm.ClassFile.FieldType) { frames := 1, cells := 0, slots := 0, locals := 21 } 0 0 [.ref p0] S Z M X S Z none r X := by
  refine zM.intro (L0 := [(0, .ref p0)]) hl (by decide) (Nat.le_of_ble_eq_true rfl) rfl (fun Γ C0 _ => ?_)
  unfold f_X6_workOnSplice at hf
  refine r_aload_n C0 dX6_workOnSplice_0 rfl 0 rfl ?_
  refine r_dup C0 dX6_workOnSplice_1 rfl ?_
  refine r_getI C0 (C := RX6) (T := TX6) cl_X6 (K_X6_o hk_p0) (k := 5) (by decide) qw_19 rfl dX6_workOnSplice_2 ?_
  refine r_iconst (v := 1) C0 dX6_workOnSplice_5 (by decide) ?_
  refine r_isub C0 dX6_workOnSplice_6 ?_
  refine r_putI C0 (C := RX6) (T := TX6) cl_X6 (K_X6_o hk_p0) (k := 5) (by decide) qw_19 rfl rfl rfl rfl hf dX6_workOnSplice_7 (fun M1 hf => ?_)
  refine r_aload_n C0 dX6_workOnSplice_10 rfl 0 rfl ?_
  refine r_getI C0 (C := RX6) (T := TX6) cl_X6 (K_X6_o hk_p0) (k := 5) (by decide) qw_19 rfl dX6_workOnSplice_11 ?_
  refine r_if_gt C0 32 dX6_workOnSplice_14 (by decide) hf (fun hf => ?_) (fun hf => ?_)
  · obtain rfl := Option.some.inj hf
    exact r_vret C0 dX6_workOnSplice_32
  · refine r_aload_n C0 dX6_workOnSplice_17 rfl 0 rfl ?_
    refine r_dup C0 dX6_workOnSplice_18 rfl ?_
    refine r_getI C0 (C := RX6) (T := TX6) cl_X6 (K_X6_o hk_p0) (k := 6) (by decide) qw_20 rfl dX6_workOnSplice_19 ?_
    refine r_iconst (v := 1) C0 dX6_workOnSplice_22 (by decide) ?_
    refine r_iadd C0 dX6_workOnSplice_23 ?_
    refine r_putI C0 (C := RX6) (T := TX6) cl_X6 (K_X6_o hk_p0) (k := 6) (by decide) qw_20 rfl rfl rfl rfl hf dX6_workOnSplice_24 (fun M2 hf => ?_)
    refine r_aload_n C0 dX6_workOnSplice_27 rfl 0 rfl ?_
    refine r_iconst (v := 3) C0 dX6_workOnSplice_28 (by decide) ?_
    refine r_callVm C0 (st := []) [.int (3 : Int32)] p0 hf vs_13 (fun hl r3 hr3 => c_X6_sendToRest hl F p0 (3 : Int32) hk_p0 M2 r3 hr3) (K_X6_o hk_p0) rfl rfl rfl rfl (Nat.le_of_ble_eq_true rfl) dX6_workOnSplice_29 (zrm_ok rfl) (fun r3 hr3 hf => ?_)
    obtain rfl := Option.some.inj hf
    exact r_vret C0 dX6_workOnSplice_32
set_option maxHeartbeats 4000000 in
set_option maxRecDepth 100000 in
theorem c_X9_mostUnits {l : Launch} {E : zEn} {S : zSk} {X : zMl} {Z : Nat → Prop} (hl : l.stackTraces = false) (F : Nat) (p0 : Nat) (p1 : Int32) (p2 : Int32) (hk_p0 : K_X9 S p0) (M : zMi) (r : Int32) (hf : f_X9_mostUnits F p0 p1 p2 M = some r) : zM l E yX9_mostUnits cX9_mostUnits 4 (Option.some Jvm.ClassFile.FieldType.int) { frames := 1, cells := 0, slots := 0, locals := 21 } 0 0 [.ref p0, .int p1, .int p2] S Z M X S Z (some (.int r)) M X := by
  refine zM.intro (L0 := [(0, .ref p0), (1, .int p1), (2, .int p2)]) hl (by decide) (Nat.le_of_ble_eq_true rfl) rfl (fun Γ C0 _ => ?_)
  unfold f_X9_mostUnits at hf
  refine r_bipush (v := 100) C0 dX9_mostUnits_0 (by decide) ?_
  refine r_aload_n C0 dX9_mostUnits_2 rfl 0 rfl ?_
  refine r_getI C0 (C := RX9) (T := TX9) cl_X9 (K_X9_o hk_p0) (k := 3) (by decide) qw_6 rfl dX9_mostUnits_3 ?_
  refine r_iadd C0 dX9_mostUnits_6 ?_
  refine r_nm hf (fun x1 hf => ?_)
  refine r_istore_n (L' := [(3, .int x1), (0, .ref p0), (1, .int p1), (2, .int p2)]) C0 dX9_mostUnits_7 rfl (by decide) rfl ?_
  refine r_iload_n C0 dX9_mostUnits_8 rfl 0 rfl ?_
  refine r_if_le C0 25 dX9_mostUnits_9 (by decide) hf (fun hf => ?_) (fun hf => ?_)
  · refine r_iconst (v := 0) C0 dX9_mostUnits_25 (by decide) ?_
    obtain rfl := Option.some.inj hf
    exact r_iret C0 dX9_mostUnits_26
  · refine r_iload_n C0 dX9_mostUnits_12 rfl 2 rfl ?_
    refine r_bipush (v := 100) C0 dX9_mostUnits_13 (by decide) ?_
    refine r_iload_n C0 dX9_mostUnits_15 rfl 3 rfl ?_
    refine r_imul C0 dX9_mostUnits_16 ?_
    refine r_iload_n C0 dX9_mostUnits_17 rfl 0 rfl ?_
    refine r_idiv C0 dX9_mostUnits_18 hf (fun hf => ?_)
    refine r_mmin C0 qw_142 qw_143 qw_144 qw_145 (Nat.le_of_ble_eq_true rfl) (Nat.le_of_ble_eq_true rfl) (Nat.le_of_ble_eq_true rfl) (Nat.le_of_ble_eq_true rfl) dX9_mostUnits_19 ?_
    refine r_goto C0 26 dX9_mostUnits_22 (by decide) ?_
    obtain rfl := Option.some.inj hf
    exact r_iret C0 dX9_mostUnits_26
set_option maxHeartbeats 4000000 in
set_option maxRecDepth 100000 in
theorem c_X9_cableFor {l : Launch} {E : zEn} {S : zSk} {X : zMl} {Z : Nat → Prop} (hl : l.stackTraces = false) (F : Nat) (p0 : Nat) (p1 : Int32) (hk_p0 : K_X9 S p0) (M : zMi) (r : Int32) (hf : f_X9_cableFor F p0 p1 M = some r) : zM l E yX9_cableFor cX9_cableFor 2 (Option.some Jvm.ClassFile.FieldType.int) { frames := 0, cells := 0, slots := 0, locals := 0 } 0 0 [.ref p0, .int p1] S Z M X S Z (some (.int r)) M X := by
  refine zM.intro (L0 := [(0, .ref p0), (1, .int p1)]) hl (by decide) (Nat.le_of_ble_eq_true rfl) rfl (fun Γ C0 _ => ?_)
  unfold f_X9_cableFor at hf
  refine r_iload_n C0 dX9_cableFor_0 rfl 1 rfl ?_
  refine r_iload_n C0 dX9_cableFor_1 rfl 1 rfl ?_
  refine r_aload_n C0 dX9_cableFor_2 rfl 0 rfl ?_
  refine r_getI C0 (C := RX9) (T := TX9) cl_X9 (K_X9_o hk_p0) (k := 3) (by decide) qw_6 rfl dX9_cableFor_3 ?_
  refine r_imul C0 dX9_cableFor_6 ?_
  refine r_bipush (v := 99) C0 dX9_cableFor_7 (by decide) ?_
  refine r_iadd C0 dX9_cableFor_9 ?_
  refine r_bipush (v := 100) C0 dX9_cableFor_10 (by decide) ?_
  refine r_idiv' C0 dX9_cableFor_12 (by decide) ?_
  refine r_iadd C0 dX9_cableFor_13 ?_
  obtain rfl := Option.some.inj hf
  exact r_iret C0 dX9_cableFor_14
set_option maxHeartbeats 4000000 in
set_option maxRecDepth 100000 in
theorem c_X5_lay {l : Launch} {E : zEn} {S : zSk} {X : zMl} {Z : Nat → Prop} (hl : l.stackTraces = false) (F : Nat) (p0 : Nat) (p1 : Nat) (p2 : Nat) (hk_p0 : K_X5 S p0) (hk_p1 : K_X3 S p1) (hk_p2 : K_X9 S p2) (M : zMi) (r : Int32 × zMi) (hf : f_X5_lay F p0 p1 p2 M = some r) : zM l E yX5_lay cX5_lay 5 (Option.some Jvm.ClassFile.FieldType.int) { frames := 2, cells := 0, slots := 0, locals := 44 } 0 0 [.ref p0, .ref p1, .ref p2] S Z M X S Z (some (.int r.1)) r.2 X := by
  refine zM.intro (L0 := [(0, .ref p0), (1, .ref p1), (2, .ref p2)]) hl (by decide) (Nat.le_of_ble_eq_true rfl) rfl (fun Γ C0 _ => ?_)
  unfold f_X5_lay at hf
  refine r_aload_n C0 dX5_lay_0 rfl 2 rfl ?_
  refine r_aload_n C0 dX5_lay_1 rfl 1 rfl ?_
  refine r_getI C0 (C := RX3) (T := TX3) cl_X3 (K_X3_o hk_p1) (k := 1) (by decide) qw_146 rfl dX5_lay_2 ?_
  refine r_aload_n C0 dX5_lay_5 rfl 2 rfl ?_
  refine r_getI C0 (C := RX9) (T := TX9) cl_X9 (K_X9_o hk_p2) (k := 0) (by decide) qw_147 rfl dX5_lay_6 ?_
  refine r_aload_n C0 dX5_lay_9 rfl 0 rfl ?_
  refine r_getI C0 (C := RX5) (T := TX5) cl_X5 (K_X5_o hk_p0) (k := 10) (by decide) qw_54 rfl dX5_lay_10 ?_
  refine r_isub C0 dX5_lay_13 ?_
  refine r_mmin C0 qw_148 qw_143 qw_144 qw_145 (Nat.le_of_ble_eq_true rfl) (Nat.le_of_ble_eq_true rfl) (Nat.le_of_ble_eq_true rfl) (Nat.le_of_ble_eq_true rfl) dX5_lay_14 ?_
  refine r_aload_n C0 dX5_lay_17 rfl 1 rfl ?_
  refine r_getI C0 (C := RX3) (T := TX3) cl_X3 (K_X3_o hk_p1) (k := 4) (by decide) qw_81 rfl dX5_lay_18 ?_
  refine r_callVi C0 (st := []) [.int (zmin (M p1 1) ((M p2 0) - (M p0 10))), .int (M p1 4)] p2 hf vs_21 (fun hl r1 hr1 => c_X9_mostUnits hl F p2 (zmin (M p1 1) ((M p2 0) - (M p0 10))) (M p1 4) hk_p2 M r1 hr1) (K_X9_o hk_p2) rfl rfl rfl rfl (Nat.le_of_ble_eq_true rfl) dX5_lay_21 (zrm_ok rfl) (fun r1 hr1 hf => ?_)
  refine r_istore_n (L' := [(3, .int r1), (0, .ref p0), (1, .ref p1), (2, .ref p2)]) C0 dX5_lay_24 rfl (by decide) rfl ?_
  refine r_iload_n C0 dX5_lay_25 rfl 0 rfl ?_
  refine r_if_gt C0 42 dX5_lay_26 (by decide) hf (fun hf => ?_) (fun hf => ?_)
  · refine r_aload_n C0 dX5_lay_42 rfl 3 rfl ?_
    refine r_iload_n C0 dX5_lay_43 rfl 0 rfl ?_
    refine r_callVi C0 (st := []) [.int r1] p2 hf vs_22 (fun hl r2 hr2 => c_X9_cableFor hl F p2 r1 hk_p2 M r2 hr2) (K_X9_o hk_p2) rfl rfl rfl rfl (Nat.le_of_ble_eq_true rfl) dX5_lay_44 (zrm_ok rfl) (fun r2 hr2 hf => ?_)
    refine r_istore (L' := [(4, .int r2), (3, .int r1), (0, .ref p0), (1, .ref p1), (2, .ref p2)]) C0 dX5_lay_47 (by decide) rfl ?_
    refine r_aload_n C0 dX5_lay_49 rfl 3 rfl ?_
    refine r_dup C0 dX5_lay_50 rfl ?_
    refine r_getI C0 (C := RX3) (T := TX3) cl_X3 (K_X3_o hk_p1) (k := 4) (by decide) qw_81 rfl dX5_lay_51 ?_
    refine r_iload C0 dX5_lay_54 0 rfl ?_
    refine r_isub C0 dX5_lay_56 ?_
    refine r_putI C0 (C := RX3) (T := TX3) cl_X3 (K_X3_o hk_p1) (k := 4) (by decide) qw_81 rfl rfl rfl rfl hf dX5_lay_57 (fun M3 hf => ?_)
    refine r_aload_n C0 dX5_lay_60 rfl 3 rfl ?_
    refine r_dup C0 dX5_lay_61 rfl ?_
    refine r_getI C0 (C := RX3) (T := TX3) cl_X3 (K_X3_o hk_p1) (k := 7) (by decide) qw_157 rfl dX5_lay_62 ?_
    refine r_iload_n C0 dX5_lay_65 rfl 1 rfl ?_
    refine r_iadd C0 dX5_lay_66 ?_
    refine r_putI C0 (C := RX3) (T := TX3) cl_X3 (K_X3_o hk_p1) (k := 7) (by decide) qw_157 rfl rfl rfl rfl hf dX5_lay_67 (fun M4 hf => ?_)
    refine r_aload_n C0 dX5_lay_70 rfl 2 rfl ?_
    refine r_getR C0 (C := RX5) (T := TX5) cl_X5 (K_X5_o hk_p0) (k := 4) (by decide) qw_43 rfl (K_X5_ledger_r hk_p0) dX5_lay_71 ?_
    refine r_dup C0 dX5_lay_74 rfl ?_
    refine r_getI C0 (C := RX1) (T := TX1) cl_X1 (K_X1_o (K_X5_ledger_k hk_p0)) (k := 1) (by decide) qw_132 rfl dX5_lay_75 ?_
    refine r_iload_n C0 dX5_lay_78 rfl 1 rfl ?_
    refine r_iadd C0 dX5_lay_79 ?_
    refine r_putI C0 (C := RX1) (T := TX1) cl_X1 (K_X1_o (K_X5_ledger_k hk_p0)) (k := 1) (by decide) qw_132 rfl rfl rfl rfl hf dX5_lay_80 (fun M5 hf => ?_)
    refine r_aload_n C0 dX5_lay_83 rfl 2 rfl ?_
    refine r_getR C0 (C := RX5) (T := TX5) cl_X5 (K_X5_o hk_p0) (k := 4) (by decide) qw_43 rfl (K_X5_ledger_r hk_p0) dX5_lay_84 ?_
    refine r_dup C0 dX5_lay_87 rfl ?_
    refine r_getI C0 (C := RX1) (T := TX1) cl_X1 (K_X1_o (K_X5_ledger_k hk_p0)) (k := 2) (by decide) qw_158 rfl dX5_lay_88 ?_
    refine r_iload C0 dX5_lay_91 0 rfl ?_
    refine r_iload_n C0 dX5_lay_93 rfl 1 rfl ?_
    refine r_isub C0 dX5_lay_94 ?_
    refine r_iadd C0 dX5_lay_95 ?_
    refine r_putI C0 (C := RX1) (T := TX1) cl_X1 (K_X1_o (K_X5_ledger_k hk_p0)) (k := 2) (by decide) qw_158 rfl rfl rfl rfl hf dX5_lay_96 (fun M6 hf => ?_)
    refine r_aload_n C0 dX5_lay_99 rfl 2 rfl ?_
    refine r_dup C0 dX5_lay_100 rfl ?_
    refine r_getI C0 (C := RX5) (T := TX5) cl_X5 (K_X5_o hk_p0) (k := 10) (by decide) qw_54 rfl dX5_lay_101 ?_
    refine r_iload_n C0 dX5_lay_104 rfl 1 rfl ?_
    refine r_iadd C0 dX5_lay_105 ?_
    refine r_putI C0 (C := RX5) (T := TX5) cl_X5 (K_X5_o hk_p0) (k := 10) (by decide) qw_54 rfl rfl rfl rfl hf dX5_lay_106 (fun M7 hf => ?_)
    refine r_aload_n C0 dX5_lay_109 rfl 2 rfl ?_
    refine r_getI C0 (C := RX5) (T := TX5) cl_X5 (K_X5_o hk_p0) (k := 10) (by decide) qw_54 rfl dX5_lay_110 ?_
    refine r_aload_n C0 dX5_lay_113 rfl 4 rfl ?_
    refine r_getI C0 (C := RX9) (T := TX9) cl_X9 (K_X9_o hk_p2) (k := 0) (by decide) qw_147 rfl dX5_lay_114 ?_
    refine r_icmp_lt C0 151 dX5_lay_117 (by decide) hf (fun hf => ?_) (fun hf => ?_)
    · refine r_iconst (v := 0) C0 dX5_lay_151 (by decide) ?_
      obtain rfl := Option.some.inj hf
      exact r_iret C0 dX5_lay_152
    · refine r_aload_n C0 dX5_lay_120 rfl 2 rfl ?_
      refine r_dup C0 dX5_lay_121 rfl ?_
      refine r_getI C0 (C := RX5) (T := TX5) cl_X5 (K_X5_o hk_p0) (k := 9) (by decide) qw_53 rfl dX5_lay_122 ?_
      refine r_iconst (v := 1) C0 dX5_lay_125 (by decide) ?_
      refine r_iadd C0 dX5_lay_126 ?_
      refine r_putI C0 (C := RX5) (T := TX5) cl_X5 (K_X5_o hk_p0) (k := 9) (by decide) qw_53 rfl rfl rfl rfl hf dX5_lay_127 (fun M8 hf => ?_)
      refine r_aload_n C0 dX5_lay_130 rfl 2 rfl ?_
      refine r_iconst (v := 0) C0 dX5_lay_131 (by decide) ?_
      refine r_putI C0 (C := RX5) (T := TX5) cl_X5 (K_X5_o hk_p0) (k := 10) (by decide) qw_54 rfl rfl rfl rfl hf dX5_lay_132 (fun M9 hf => ?_)
      refine r_aload_n C0 dX5_lay_135 rfl 2 rfl ?_
      refine r_callVi C0 (st := []) [] p0 hf vs_9 (fun hl r10 hr10 => c_X5_isFinished hl F p0 hk_p0 M9 r10 hr10) (K_X5_o hk_p0) rfl rfl rfl rfl (Nat.le_of_ble_eq_true rfl) dX5_lay_136 (zrm_ok rfl) (fun r10 hr10 hf => ?_)
      refine r_if_eq C0 151 dX5_lay_139 (by decide) hf (fun hf => ?_) (fun hf => ?_)
      · refine r_iconst (v := 0) C0 dX5_lay_151 (by decide) ?_
        obtain rfl := Option.some.inj hf
        exact r_iret C0 dX5_lay_152
      · refine r_aload_n C0 dX5_lay_142 rfl 3 rfl ?_
        refine r_iconst (v := 4) C0 dX5_lay_143 (by decide) ?_
        refine r_aload_n C0 dX5_lay_144 rfl 2 rfl ?_
        refine r_getI C0 (C := RX5) (T := TX5) cl_X5 (K_X5_o hk_p0) (k := 5) (by decide) qw_49 rfl dX5_lay_145 ?_
        refine r_callVm C0 (st := []) [.int (4 : Int32), .int (M9 p0 5)] p1 hf vs_10 (fun hl r11 hr11 => c_X3_sail hl F p1 (4 : Int32) (M9 p0 5) hk_p1 M9 r11 hr11) (K_X3_o hk_p1) rfl rfl rfl rfl (Nat.le_of_ble_eq_true rfl) dX5_lay_148 (zrm_ok rfl) (fun r11 hr11 hf => ?_)
        refine r_iconst (v := 0) C0 dX5_lay_151 (by decide) ?_
        obtain rfl := Option.some.inj hf
        exact r_iret C0 dX5_lay_152
  · refine r_aload_n C0 dX5_lay_29 rfl 2 rfl ?_
    refine r_iconst (v := 4) C0 dX5_lay_30 (by decide) ?_
    refine r_aload_n C0 dX5_lay_31 rfl 1 rfl ?_
    refine r_getI C0 (C := RX5) (T := TX5) cl_X5 (K_X5_o hk_p0) (k := 9) (by decide) qw_53 rfl dX5_lay_32 ?_
    refine r_iconst (v := 1) C0 dX5_lay_35 (by decide) ?_
    refine r_iadd C0 dX5_lay_36 ?_
    refine r_callVm C0 (st := []) [.int (4 : Int32), .int ((M p0 9) + (1 : Int32))] p1 hf vs_10 (fun hl r12 hr12 => c_X3_sail hl F p1 (4 : Int32) ((M p0 9) + (1 : Int32)) hk_p1 M r12 hr12) (K_X3_o hk_p1) rfl rfl rfl rfl (Nat.le_of_ble_eq_true rfl) dX5_lay_37 (zrm_ok rfl) (fun r12 hr12 hf => ?_)
    refine r_iconst (v := 4) C0 dX5_lay_40 (by decide) ?_
    obtain rfl := Option.some.inj hf
    exact r_iret C0 dX5_lay_41
set_option maxHeartbeats 4000000 in
set_option maxRecDepth 100000 in
theorem g_X5_workAtFront_62 {Γ : zCx} {E : zEn} {S : zSk} {X : zMl} {Z : Nat → Prop} (C0 : zCt Γ E RX5 cX5_workAtFront 3 (Option.some Jvm.ClassFile.FieldType.int) [] { frames := 3, cells := 0, slots := 0, locals := 68 }) (F : Nat) (p0 : Nat) (hk_p0 : K_X5 S p0) (v1 : Nat) (v2 : Nat) (M : zMi) (r : Int32 × zMi) (hk_v1 : K_X3 S v1) (hk_v2 : K_X9 S v2) (hf : f_X5_workAtFront_62 F p0 v1 v2 M = some r) : zG Γ (zQ Γ E 0 0 S Z (some (.int r.1)) r.2 X) E 3 0 0 S Z M X 62 [(0, .ref p0), (1, .ref v1), (2, .ref v2)] [] := by
  unfold f_X5_workAtFront_62 at hf
  refine r_aload_n C0 dX5_workAtFront_62 rfl 0 rfl ?_
  refine r_getR C0 (C := RX5) (T := TX5) cl_X5 (K_X5_o hk_p0) (k := 3) (by decide) qw_37 rfl (K_X5_teams_r hk_p0) dX5_workAtFront_63 ?_
  refine r_callVi C0 (st := []) [] (p0 + 5) hf vs_23 (fun hl r1 hr1 => c_X6_spliceGoesOn hl F (p0 + 5) (K_X5_teams_k hk_p0) M r1 hr1) (K_X6_o (K_X5_teams_k hk_p0)) rfl rfl rfl rfl (Nat.le_of_ble_eq_true rfl) dX5_workAtFront_66 (zrm_ok rfl) (fun r1 hr1 hf => ?_)
  refine r_if_eq C0 81 dX5_workAtFront_69 (by decide) hf (fun hf => ?_) (fun hf => ?_)
  · refine r_aload_n C0 dX5_workAtFront_81 rfl 0 rfl ?_
    refine r_getI C0 (C := RX5) (T := TX5) cl_X5 (K_X5_o hk_p0) (k := 8) (by decide) qw_52 rfl dX5_workAtFront_82 ?_
    refine r_aload_n C0 dX5_workAtFront_85 rfl 2 rfl ?_
    refine r_getI C0 (C := RX9) (T := TX9) cl_X9 (K_X9_o hk_v2) (k := 1) (by decide) qw_163 rfl dX5_workAtFront_86 ?_
    refine r_icmp_ge C0 94 dX5_workAtFront_89 (by decide) hf (fun hf => ?_) (fun hf => ?_)
    · refine r_aload_n C0 dX5_workAtFront_94 rfl 0 rfl ?_
      refine r_getI C0 (C := RX5) (T := TX5) cl_X5 (K_X5_o hk_p0) (k := 8) (by decide) qw_52 rfl dX5_workAtFront_95 ?_
      refine r_aload_n C0 dX5_workAtFront_98 rfl 2 rfl ?_
      refine r_getI C0 (C := RX9) (T := TX9) cl_X9 (K_X9_o hk_v2) (k := 2) (by decide) qw_122 rfl dX5_workAtFront_99 ?_
      refine r_icmp_le C0 107 dX5_workAtFront_102 (by decide) hf (fun hf => ?_) (fun hf => ?_)
      · refine r_aload_n C0 dX5_workAtFront_107 rfl 0 rfl ?_
        refine r_getR C0 (C := RX5) (T := TX5) cl_X5 (K_X5_o hk_p0) (k := 2) (by decide) qw_31 rfl (K_X5_weather_r hk_p0) dX5_workAtFront_108 ?_
        refine r_aload_n C0 dX5_workAtFront_111 rfl 0 rfl ?_
        refine r_getI C0 (C := RX5) (T := TX5) cl_X5 (K_X5_o hk_p0) (k := 8) (by decide) qw_52 rfl dX5_workAtFront_112 ?_
        refine r_callVi C0 (st := []) [.int (M p0 8)] (p0 + 3) hf vs_24 (fun hl r2 hr2 => c_X8_on hl F (p0 + 3) (M p0 8) (K_X5_weather_k hk_p0) M r2 hr2) (K_X8_o (K_X5_weather_k hk_p0)) rfl rfl rfl rfl (Nat.le_of_ble_eq_true rfl) dX5_workAtFront_115 (zrm_ok rfl) (fun r2 hr2 hf => ?_)
        refine r_aload_n C0 dX5_workAtFront_118 rfl 1 rfl ?_
        refine r_getI C0 (C := RX3) (T := TX3) cl_X3 (K_X3_o hk_v1) (k := 2) (by decide) qw_168 rfl dX5_workAtFront_119 ?_
        refine r_icmp_le C0 127 dX5_workAtFront_122 (by decide) hf (fun hf => ?_) (fun hf => ?_)
        · refine r_aload_n C0 dX5_workAtFront_127 rfl 0 rfl ?_
          refine r_aload_n C0 dX5_workAtFront_128 rfl 1 rfl ?_
          refine r_aload_n C0 dX5_workAtFront_129 rfl 2 rfl ?_
          refine r_callVim C0 (st := []) [.ref v1, .ref v2] p0 hf vs_25 (fun hl r3 hr3 => c_X5_lay hl F p0 v1 v2 hk_p0 hk_v1 hk_v2 M r3 hr3) (K_X5_o hk_p0) rfl rfl rfl rfl (Nat.le_of_ble_eq_true rfl) dX5_workAtFront_130 (zrm_ok rfl) (fun r3 hr3 hf => ?_)
          obtain rfl := Option.some.inj hf
          exact r_iret C0 dX5_workAtFront_133
        · refine r_iconst (v := 3) C0 dX5_workAtFront_125 (by decide) ?_
          obtain rfl := Option.some.inj hf
          exact r_iret C0 dX5_workAtFront_126
      · refine r_iconst (v := 2) C0 dX5_workAtFront_105 (by decide) ?_
        obtain rfl := Option.some.inj hf
        exact r_iret C0 dX5_workAtFront_106
    · refine r_iconst (v := 1) C0 dX5_workAtFront_92 (by decide) ?_
      obtain rfl := Option.some.inj hf
      exact r_iret C0 dX5_workAtFront_93
  · refine r_aload_n C0 dX5_workAtFront_72 rfl 0 rfl ?_
    refine r_getR C0 (C := RX5) (T := TX5) cl_X5 (K_X5_o hk_p0) (k := 3) (by decide) qw_37 rfl (K_X5_teams_r hk_p0) dX5_workAtFront_73 ?_
    refine r_callVm C0 (st := []) [] (p0 + 5) hf vs_26 (fun hl r4 hr4 => c_X6_workOnSplice hl F (p0 + 5) (K_X5_teams_k hk_p0) M r4 hr4) (K_X6_o (K_X5_teams_k hk_p0)) rfl rfl rfl rfl (Nat.le_of_ble_eq_true rfl) dX5_workAtFront_76 (zrm_ok rfl) (fun r4 hr4 hf => ?_)
    refine r_iconst (v := 0) C0 dX5_workAtFront_79 (by decide) ?_
    obtain rfl := Option.some.inj hf
    exact r_iret C0 dX5_workAtFront_80
set_option maxHeartbeats 4000000 in
set_option maxRecDepth 100000 in
theorem c_X5_workAtFront {l : Launch} {E : zEn} {S : zSk} {X : zMl} {Z : Nat → Prop} (hl : l.stackTraces = false) (F : Nat) (p0 : Nat) (hk_p0 : K_X5 S p0) (M : zMi) (r : Int32 × zMi) (hf : f_X5_workAtFront F p0 M = some r) : zM l E yX5_workAtFront cX5_workAtFront 3 (Option.some Jvm.ClassFile.FieldType.int) { frames := 3, cells := 0, slots := 0, locals := 68 } 0 0 [.ref p0] S Z M X S Z (some (.int r.1)) r.2 X := by
  refine zM.intro (L0 := [(0, .ref p0)]) hl (by decide) (Nat.le_of_ble_eq_true rfl) rfl (fun Γ C0 _ => ?_)
  unfold f_X5_workAtFront at hf
  refine r_aload_n C0 dX5_workAtFront_0 rfl 0 rfl ?_
  refine r_aload_n C0 dX5_workAtFront_1 rfl 0 rfl ?_
  refine r_callVi C0 (st := [.ref p0]) [] p0 hf vs_19 (fun hl r1 hr1 => c_X5_numberAtFront hl F p0 hk_p0 M r1 hr1) (K_X5_o hk_p0) rfl rfl rfl rfl (Nat.le_of_ble_eq_true rfl) dX5_workAtFront_2 (zrm_ok rfl) (fun r1 hr1 hf => ?_)
  refine r_callVr C0 (st := []) [.int r1] p0 hf vs_27 (fun hl r2 hr2 => c_X5_shipNumbered hl F p0 r1 hk_p0 M r2 hr2) (K_X5_o hk_p0) rfl rfl rfl rfl (Nat.le_of_ble_eq_true rfl) dX5_workAtFront_5 (zrm_ok rfl) (fun r2 hr2 hf => ?_)
  refine r_opt hf (fun hf => ?_) (fun q3 eq3 hf => ?_)
  · refine r_astoreN_n (L' := [(1, .null), (0, .ref p0)]) C0 dX5_workAtFront_8 rfl (by decide) rfl ?_
    refine r_aload_n C0 dX5_workAtFront_9 rfl 1 rfl ?_
    refine r_aload_n C0 dX5_workAtFront_10 rfl 1 rfl ?_
    refine r_getI C0 (C := RX5) (T := TX5) cl_X5 (K_X5_o hk_p0) (k := 9) (by decide) qw_53 rfl dX5_workAtFront_11 ?_
    refine r_callVr C0 (st := []) [.int (M p0 9)] p0 hf vs_28 (fun hl r4 hr4 => c_X5_zoneNumbered hl F p0 (M p0 9) hk_p0 M r4 hr4) (K_X5_o hk_p0) rfl rfl rfl rfl (Nat.le_of_ble_eq_true rfl) dX5_workAtFront_14 (zrm_ok rfl) (fun r4 hr4 hf => ?_)
    refine r_opt hf (fun hf => ?_) (fun q5 eq5 hf => ?_)
    · refine r_astoreN_n (L' := [(2, .null), (1, .null), (0, .ref p0)]) C0 dX5_workAtFront_17 rfl (by decide) rfl ?_
      refine r_aloadN_n C0 dX5_workAtFront_18 rfl 1 rfl ?_
      refine r_ifnullN C0 26 dX5_workAtFront_19 (by decide) ?_
      refine r_bipush (v := 6) C0 dX5_workAtFront_26 (by decide) ?_
      obtain rfl := Option.some.inj hf
      exact r_iret C0 dX5_workAtFront_28
    · have hk_q5 := n_X5_zoneNumbered (by rw [← eq5]; exact hr4) hk_p0
      refine r_astore_n (L' := [(2, .ref q5), (1, .null), (0, .ref p0)]) C0 dX5_workAtFront_17 rfl (by decide) rfl ?_
      refine r_aloadN_n C0 dX5_workAtFront_18 rfl 1 rfl ?_
      refine r_ifnullN C0 26 dX5_workAtFront_19 (by decide) ?_
      refine r_bipush (v := 6) C0 dX5_workAtFront_26 (by decide) ?_
      obtain rfl := Option.some.inj hf
      exact r_iret C0 dX5_workAtFront_28
  · have hk_q3 := n_X5_shipNumbered (by rw [← eq3]; exact hr2) hk_p0
    refine r_astore_n (L' := [(1, .ref q3), (0, .ref p0)]) C0 dX5_workAtFront_8 rfl (by decide) rfl ?_
    refine r_aload_n C0 dX5_workAtFront_9 rfl 1 rfl ?_
    refine r_aload_n C0 dX5_workAtFront_10 rfl 1 rfl ?_
    refine r_getI C0 (C := RX5) (T := TX5) cl_X5 (K_X5_o hk_p0) (k := 9) (by decide) qw_53 rfl dX5_workAtFront_11 ?_
    refine r_callVr C0 (st := []) [.int (M p0 9)] p0 hf vs_28 (fun hl r6 hr6 => c_X5_zoneNumbered hl F p0 (M p0 9) hk_p0 M r6 hr6) (K_X5_o hk_p0) rfl rfl rfl rfl (Nat.le_of_ble_eq_true rfl) dX5_workAtFront_14 (zrm_ok rfl) (fun r6 hr6 hf => ?_)
    refine r_opt hf (fun hf => ?_) (fun q7 eq7 hf => ?_)
    · refine r_astoreN_n (L' := [(2, .null), (1, .ref q3), (0, .ref p0)]) C0 dX5_workAtFront_17 rfl (by decide) rfl ?_
      refine r_aload_n C0 dX5_workAtFront_18 rfl 1 rfl ?_
      refine r_ifnull C0 dX5_workAtFront_19 ?_
      refine r_aloadN_n C0 dX5_workAtFront_22 rfl 0 rfl ?_
      refine r_ifnonnullN C0 dX5_workAtFront_23 ?_
      refine r_bipush (v := 6) C0 dX5_workAtFront_26 (by decide) ?_
      obtain rfl := Option.some.inj hf
      exact r_iret C0 dX5_workAtFront_28
    · have hk_q7 := n_X5_zoneNumbered (by rw [← eq7]; exact hr6) hk_p0
      refine r_astore_n (L' := [(2, .ref q7), (1, .ref q3), (0, .ref p0)]) C0 dX5_workAtFront_17 rfl (by decide) rfl ?_
      refine r_aload_n C0 dX5_workAtFront_18 rfl 1 rfl ?_
      refine r_ifnull C0 dX5_workAtFront_19 ?_
      refine r_aload_n C0 dX5_workAtFront_22 rfl 0 rfl ?_
      refine r_ifnonnull C0 29 dX5_workAtFront_23 (by decide) ?_
      refine r_aload_n C0 dX5_workAtFront_29 rfl 2 rfl ?_
      refine r_getR C0 (C := RX5) (T := TX5) cl_X5 (K_X5_o hk_p0) (k := 3) (by decide) qw_37 rfl (K_X5_teams_r hk_p0) dX5_workAtFront_30 ?_
      refine r_getI C0 (C := RX6) (T := TX6) cl_X6 (K_X6_o (K_X5_teams_k hk_p0)) (k := 3) (by decide) qw_133 rfl dX5_workAtFront_33 ?_
      refine r_if_eq C0 62 dX5_workAtFront_36 (by decide) hf (fun hf => ?_) (fun hf => ?_)
      · refine r_sub (L' := [(0, .ref p0), (1, .ref q3), (2, .ref q7)]) [2, 1, 0] rfl ?_
        exact g_X5_workAtFront_62 C0 F p0 hk_p0 q3 q7 M _ hk_q3 hk_q7 hf
      · refine r_aload_n C0 dX5_workAtFront_39 rfl 2 rfl ?_
        refine r_getR C0 (C := RX5) (T := TX5) cl_X5 (K_X5_o hk_p0) (k := 3) (by decide) qw_37 rfl (K_X5_teams_r hk_p0) dX5_workAtFront_40 ?_
        refine r_aload_n C0 dX5_workAtFront_43 rfl 2 rfl ?_
        refine r_getR C0 (C := RX5) (T := TX5) cl_X5 (K_X5_o hk_p0) (k := 2) (by decide) qw_31 rfl (K_X5_weather_r hk_p0) dX5_workAtFront_44 ?_
        refine r_aload_n C0 dX5_workAtFront_47 rfl 2 rfl ?_
        refine r_getI C0 (C := RX5) (T := TX5) cl_X5 (K_X5_o hk_p0) (k := 8) (by decide) qw_52 rfl dX5_workAtFront_48 ?_
        refine r_callVi C0 (st := [.ref (p0 + 5)]) [.int (M p0 8)] (p0 + 3) hf vs_24 (fun hl r8 hr8 => c_X8_on hl F (p0 + 3) (M p0 8) (K_X5_weather_k hk_p0) M r8 hr8) (K_X8_o (K_X5_weather_k hk_p0)) rfl rfl rfl rfl (Nat.le_of_ble_eq_true rfl) dX5_workAtFront_51 (zrm_ok rfl) (fun r8 hr8 hf => ?_)
        refine r_callVim C0 (st := []) [.int r8] (p0 + 5) hf vs_29 (fun hl r9 hr9 => c_X6_beginSplice hl F (p0 + 5) r8 (K_X5_teams_k hk_p0) M r9 hr9) (K_X6_o (K_X5_teams_k hk_p0)) rfl rfl rfl rfl (Nat.le_of_ble_eq_true rfl) dX5_workAtFront_54 (zrm_ok rfl) (fun r9 hr9 hf => ?_)
        refine r_if_ne C0 62 dX5_workAtFront_57 (by decide) hf (fun hf => ?_) (fun hf => ?_)
        · refine r_sub (L' := [(0, .ref p0), (1, .ref q3), (2, .ref q7)]) [2, 1, 0] rfl ?_
          exact g_X5_workAtFront_62 C0 F p0 hk_p0 q3 q7 r9.2 _ hk_q3 hk_q7 hf
        · refine r_iconst (v := 5) C0 dX5_workAtFront_60 (by decide) ?_
          obtain rfl := Option.some.inj hf
          exact r_iret C0 dX5_workAtFront_61
set_option maxHeartbeats 4000000 in
set_option maxRecDepth 100000 in
theorem g_X5_bookDay_108 {Γ : zCx} {E : zEn} {S : zSk} {X : zMl} {Z : Nat → Prop} (C0 : zCt Γ E RX5 cX5_bookDay 6 (Option.none : Option Jvm.ClassFile.FieldType) [] { frames := 0, cells := 0, slots := 0, locals := 0 }) (F : Nat) (p0 : Nat) (k_49 : Int32 → Int32 → zMi → Option (zMi)) (hk_p0 : K_X5 S p0) (hk_k_49 : ∀ (v1_ : Int32) (v4_ : Int32) (M : zMi) (r : zMi), k_49 v1_ v4_ M = some r → zG Γ (zQ Γ E 0 0 S Z none r X) E 6 0 0 S Z M X 49 [(0, .ref p0), (1, .int v1_), (2, .ref (p0 + 2)), (3, .int (4 : Int32)), (4, .int v4_)] []) (v1 : Int32) (v4 : Int32) (v5 : Nat) (M : zMi) (r : zMi) (hk_v5 : K_X3 S v5) (hf : f_X5_bookDay_108 F p0 k_49 v1 v4 v5 M = some r) : zG Γ (zQ Γ E 0 0 S Z none r X) E 6 0 0 S Z M X 108 [(0, .ref p0), (1, .int v1), (2, .ref (p0 + 2)), (3, .int (4 : Int32)), (4, .int v4), (5, .ref v5)] [] := by
  unfold f_X5_bookDay_108 at hf
  refine r_aload_n C0 dX5_bookDay_108 rfl 0 rfl ?_
  refine r_getR C0 (C := RX5) (T := TX5) cl_X5 (K_X5_o hk_p0) (k := 4) (by decide) qw_43 rfl (K_X5_ledger_r hk_p0) dX5_bookDay_109 ?_
  refine r_dup C0 dX5_bookDay_112 rfl ?_
  refine r_getI C0 (C := RX1) (T := TX1) cl_X1 (K_X1_o (K_X5_ledger_k hk_p0)) (k := 4) (by decide) qw_189 rfl dX5_bookDay_113 ?_
  refine r_aload C0 dX5_bookDay_116 5 rfl ?_
  refine r_getI C0 (C := RX3) (T := TX3) cl_X3 (K_X3_o hk_v5) (k := 3) (by decide) qw_190 rfl dX5_bookDay_118 ?_
  refine r_iadd C0 dX5_bookDay_121 ?_
  refine r_putI C0 (C := RX1) (T := TX1) cl_X1 (K_X1_o (K_X5_ledger_k hk_p0)) (k := 4) (by decide) qw_189 rfl rfl rfl rfl hf dX5_bookDay_122 (fun M1 hf => ?_)
  refine r_iinc (j := 4) (v := (v4 + (1 : Int32))) (L' := [(4, .int (v4 + (1 : Int32))), (0, .ref p0), (1, .int v1), (2, .ref (p0 + 2)), (3, .int (4 : Int32)), (5, .ref v5)]) C0 dX5_bookDay_125 rfl rfl (by decide) rfl ?_
  refine r_goto C0 49 dX5_bookDay_128 (by decide) ?_
  refine r_sub (L' := [(0, .ref p0), (1, .int v1), (2, .ref (p0 + 2)), (3, .int (4 : Int32)), (4, .int (v4 + (1 : Int32)))]) [1, 2, 3, 4, 0] rfl ?_
  exact hk_k_49 v1 (v4 + (1 : Int32)) M1 _  hf
set_option maxHeartbeats 4000000 in
set_option maxRecDepth 100000 in
theorem g_X5_bookDay_86 {Γ : zCx} {E : zEn} {S : zSk} {X : zMl} {Z : Nat → Prop} (C0 : zCt Γ E RX5 cX5_bookDay 6 (Option.none : Option Jvm.ClassFile.FieldType) [] { frames := 0, cells := 0, slots := 0, locals := 0 }) (F : Nat) (p0 : Nat) (k_49 : Int32 → Int32 → zMi → Option (zMi)) (hk_p0 : K_X5 S p0) (hk_k_49 : ∀ (v1_ : Int32) (v4_ : Int32) (M : zMi) (r : zMi), k_49 v1_ v4_ M = some r → zG Γ (zQ Γ E 0 0 S Z none r X) E 6 0 0 S Z M X 49 [(0, .ref p0), (1, .int v1_), (2, .ref (p0 + 2)), (3, .int (4 : Int32)), (4, .int v4_)] []) (v1 : Int32) (v4 : Int32) (v5 : Nat) (M : zMi) (r : zMi) (hk_v5 : K_X3 S v5) (hf : f_X5_bookDay_86 F p0 k_49 v1 v4 v5 M = some r) : zG Γ (zQ Γ E 0 0 S Z none r X) E 6 0 0 S Z M X 86 [(0, .ref p0), (1, .int v1), (2, .ref (p0 + 2)), (3, .int (4 : Int32)), (4, .int v4), (5, .ref v5)] [] := by
  unfold f_X5_bookDay_86 at hf
  refine r_aload C0 dX5_bookDay_86 5 rfl ?_
  refine r_getI C0 (C := RX3) (T := TX3) cl_X3 (K_X3_o hk_v5) (k := 5) (by decide) qw_79 rfl dX5_bookDay_88 ?_
  refine r_iconst (v := 2) C0 dX5_bookDay_91 (by decide) ?_
  refine r_icmp_eq C0 108 dX5_bookDay_92 (by decide) hf (fun hf => ?_) (fun hf => ?_)
  · refine r_sub (L' := [(0, .ref p0), (1, .int v1), (2, .ref (p0 + 2)), (3, .int (4 : Int32)), (4, .int v4), (5, .ref v5)]) [0, 1, 2, 3, 4, 5] rfl ?_
    exact g_X5_bookDay_108 C0 F p0 k_49 hk_p0 hk_k_49 v1 v4 v5 M _ hk_v5 hf
  · refine r_aload C0 dX5_bookDay_95 5 rfl ?_
    refine r_getI C0 (C := RX3) (T := TX3) cl_X3 (K_X3_o hk_v5) (k := 5) (by decide) qw_79 rfl dX5_bookDay_97 ?_
    refine r_iconst (v := 3) C0 dX5_bookDay_100 (by decide) ?_
    refine r_icmp_ne C0 125 dX5_bookDay_101 (by decide) hf (fun hf => ?_) (fun hf => ?_)
    · refine r_iinc (j := 4) (v := (v4 + (1 : Int32))) (L' := [(4, .int (v4 + (1 : Int32))), (0, .ref p0), (1, .int v1), (2, .ref (p0 + 2)), (3, .int (4 : Int32)), (5, .ref v5)]) C0 dX5_bookDay_125 rfl rfl (by decide) rfl ?_
      refine r_goto C0 49 dX5_bookDay_128 (by decide) ?_
      refine r_sub (L' := [(0, .ref p0), (1, .int v1), (2, .ref (p0 + 2)), (3, .int (4 : Int32)), (4, .int (v4 + (1 : Int32)))]) [1, 2, 3, 4, 0] rfl ?_
      exact hk_k_49 v1 (v4 + (1 : Int32)) M _  hf
    · refine r_iload_n C0 dX5_bookDay_104 rfl 1 rfl ?_
      refine r_if_eq C0 125 dX5_bookDay_105 (by decide) hf (fun hf => ?_) (fun hf => ?_)
      · refine r_iinc (j := 4) (v := (v4 + (1 : Int32))) (L' := [(4, .int (v4 + (1 : Int32))), (0, .ref p0), (1, .int v1), (2, .ref (p0 + 2)), (3, .int (4 : Int32)), (5, .ref v5)]) C0 dX5_bookDay_125 rfl rfl (by decide) rfl ?_
        refine r_goto C0 49 dX5_bookDay_128 (by decide) ?_
        refine r_sub (L' := [(0, .ref p0), (1, .int v1), (2, .ref (p0 + 2)), (3, .int (4 : Int32)), (4, .int (v4 + (1 : Int32)))]) [1, 2, 3, 4, 0] rfl ?_
        exact hk_k_49 v1 (v4 + (1 : Int32)) M _  hf
      · refine r_sub (L' := [(0, .ref p0), (1, .int v1), (2, .ref (p0 + 2)), (3, .int (4 : Int32)), (4, .int v4), (5, .ref v5)]) [0, 1, 2, 3, 4, 5] rfl ?_
        exact g_X5_bookDay_108 C0 F p0 k_49 hk_p0 hk_k_49 v1 v4 v5 M _ hk_v5 hf
set_option maxHeartbeats 4000000 in
set_option maxRecDepth 100000 in
theorem g_X5_bookDay_49 {Γ : zCx} {E : zEn} {S : zSk} {X : zMl} {Z : Nat → Prop} (C0 : zCt Γ E RX5 cX5_bookDay 6 (Option.none : Option Jvm.ClassFile.FieldType) [] { frames := 0, cells := 0, slots := 0, locals := 0 }) (F : Nat) (p0 : Nat) (hk_p0 : K_X5 S p0) : ∀ (n : Nat) (v1 : Int32) (v4 : Int32) (M : zMi) (r : zMi) , f_X5_bookDay_49 F p0 n v1 v4 M = some r → zG Γ (zQ Γ E 0 0 S Z none r X) E 6 0 0 S Z M X 49 [(0, .ref p0), (1, .int v1), (2, .ref (p0 + 2)), (3, .int (4 : Int32)), (4, .int v4)] [] := by
  intro n
  induction n with
  | zero => intro v1 v4 M r; intro hf; cases hf
  | succ n ih =>
    intro v1 v4 M r hf
    refine r_iload C0 dX5_bookDay_49 4 rfl ?_
    refine r_iload_n C0 dX5_bookDay_51 rfl 3 rfl ?_
    refine r_icmp_ge C0 131 dX5_bookDay_52 (by decide) hf (fun hf => ?_) (fun hf => ?_)
    · obtain rfl := Option.some.inj hf
      exact r_vret C0 dX5_bookDay_131
    · refine r_aload_n C0 dX5_bookDay_55 rfl 2 rfl ?_
      refine r_iload C0 dX5_bookDay_56 4 rfl ?_
      refine r_aald C0 (g := fun j => p0 + 2 + 15 + 1 * j) ((K_X5_ships_k hk_p0)).1 (by decide) (by decide) rfl ((K_X5_ships_k hk_p0)).2.1 hf dX5_bookDay_58 (fun hi hf => ?_)
      refine r_nmA hf (fun q1 hq hf => ?_)
      have hk_q1 : K_X3 S q1 := by rw [hq]; exact ((K_X5_ships_k hk_p0)).2.2 _ hi
      refine r_astore (L' := [(5, .ref q1), (0, .ref p0), (1, .int v1), (2, .ref (p0 + 2)), (3, .int (4 : Int32)), (4, .int v4)]) C0 dX5_bookDay_59 (by decide) rfl ?_
      refine r_aload C0 dX5_bookDay_61 0 rfl ?_
      refine r_getI C0 (C := RX3) (T := TX3) cl_X3 (K_X3_o hk_q1) (k := 5) (by decide) qw_79 rfl dX5_bookDay_63 ?_
      refine r_if_eq C0 86 dX5_bookDay_66 (by decide) hf (fun hf => ?_) (fun hf => ?_)
      · refine r_sub (L' := [(0, .ref p0), (1, .int v1), (2, .ref (p0 + 2)), (3, .int (4 : Int32)), (4, .int v4), (5, .ref q1)]) [1, 2, 3, 4, 5, 0] rfl ?_
        exact g_X5_bookDay_86 C0 F p0 (f_X5_bookDay_49 F p0 n) hk_p0 ih v1 v4 q1 M _ hk_q1 hf
      · refine r_aload_n C0 dX5_bookDay_69 rfl 1 rfl ?_
        refine r_getR C0 (C := RX5) (T := TX5) cl_X5 (K_X5_o hk_p0) (k := 4) (by decide) qw_43 rfl (K_X5_ledger_r hk_p0) dX5_bookDay_70 ?_
        refine r_dup C0 dX5_bookDay_73 rfl ?_
        refine r_getI C0 (C := RX1) (T := TX1) cl_X1 (K_X1_o (K_X5_ledger_k hk_p0)) (k := 3) (by decide) qw_191 rfl dX5_bookDay_74 ?_
        refine r_aload C0 dX5_bookDay_77 0 rfl ?_
        refine r_getI C0 (C := RX3) (T := TX3) cl_X3 (K_X3_o hk_q1) (k := 3) (by decide) qw_190 rfl dX5_bookDay_79 ?_
        refine r_iadd C0 dX5_bookDay_82 ?_
        refine r_putI C0 (C := RX1) (T := TX1) cl_X1 (K_X1_o (K_X5_ledger_k hk_p0)) (k := 3) (by decide) qw_191 rfl rfl rfl rfl hf dX5_bookDay_83 (fun M2 hf => ?_)
        refine r_sub (L' := [(0, .ref p0), (1, .int v1), (2, .ref (p0 + 2)), (3, .int (4 : Int32)), (4, .int v4), (5, .ref q1)]) [1, 2, 3, 4, 5, 0] rfl ?_
        exact g_X5_bookDay_86 C0 F p0 (f_X5_bookDay_49 F p0 n) hk_p0 ih v1 v4 q1 M2 _ hk_q1 hf
set_option maxHeartbeats 4000000 in
set_option maxRecDepth 100000 in
theorem g_X5_bookDay_37 {Γ : zCx} {E : zEn} {S : zSk} {X : zMl} {Z : Nat → Prop} (C0 : zCt Γ E RX5 cX5_bookDay 6 (Option.none : Option Jvm.ClassFile.FieldType) [] { frames := 0, cells := 0, slots := 0, locals := 0 }) (F : Nat) (p0 : Nat) (hk_p0 : K_X5 S p0) (s0 : Int32) (M : zMi) (r : zMi)  (hf : f_X5_bookDay_37 F p0 s0 M = some r) : zG Γ (zQ Γ E 0 0 S Z none r X) E 6 0 0 S Z M X 37 [(0, .ref p0)] [.int s0] := by
  unfold f_X5_bookDay_37 at hf
  refine r_istore_n (L' := [(1, .int s0), (0, .ref p0)]) C0 dX5_bookDay_37 rfl (by decide) rfl ?_
  refine r_aload_n C0 dX5_bookDay_38 rfl 1 rfl ?_
  refine r_getR C0 (C := RX5) (T := TX5) cl_X5 (K_X5_o hk_p0) (k := 1) (by decide) qw_56 rfl (K_X5_ships_r hk_p0) dX5_bookDay_39 ?_
  refine r_astore_n (L' := [(2, .ref (p0 + 2)), (1, .int s0), (0, .ref p0)]) C0 dX5_bookDay_42 rfl (by decide) rfl ?_
  refine r_aload_n C0 dX5_bookDay_43 rfl 0 rfl ?_
  refine r_alen (v := 4) C0 ((K_X5_ships_k hk_p0)).1 (by decide) rfl dX5_bookDay_44 ?_
  refine r_istore_n (L' := [(3, .int (4 : Int32)), (2, .ref (p0 + 2)), (1, .int s0), (0, .ref p0)]) C0 dX5_bookDay_45 rfl (by decide) rfl ?_
  refine r_iconst (v := 0) C0 dX5_bookDay_46 (by decide) ?_
  refine r_istore (L' := [(4, .int (0 : Int32)), (3, .int (4 : Int32)), (2, .ref (p0 + 2)), (1, .int s0), (0, .ref p0)]) C0 dX5_bookDay_47 (by decide) rfl ?_
  refine r_sub (L' := [(0, .ref p0), (1, .int s0), (2, .ref (p0 + 2)), (3, .int (4 : Int32)), (4, .int (0 : Int32))]) [4, 3, 2, 1, 0] rfl ?_
  exact g_X5_bookDay_49 C0 F p0 hk_p0 F s0 (0 : Int32) M _  hf
set_option maxHeartbeats 4000000 in
set_option maxRecDepth 100000 in
theorem c_X5_bookDay {l : Launch} {E : zEn} {S : zSk} {X : zMl} {Z : Nat → Prop} (hl : l.stackTraces = false) (F : Nat) (p0 : Nat) (hk_p0 : K_X5 S p0) (M : zMi) (r : zMi) (hf : f_X5_bookDay F p0 M = some r) : zM l E yX5_bookDay cX5_bookDay 6 (Option.none : Option Jvm.ClassFile.FieldType) { frames := 0, cells := 0, slots := 0, locals := 0 } 0 0 [.ref p0] S Z M X S Z none r X := by
  refine zM.intro (L0 := [(0, .ref p0)]) hl (by decide) (Nat.le_of_ble_eq_true rfl) rfl (fun Γ C0 _ => ?_)
  unfold f_X5_bookDay at hf
  refine r_aload_n C0 dX5_bookDay_0 rfl 0 rfl ?_
  refine r_getI C0 (C := RX5) (T := TX5) cl_X5 (K_X5_o hk_p0) (k := 11) (by decide) qw_55 rfl dX5_bookDay_1 ?_
  refine r_iconst (v := 1) C0 dX5_bookDay_4 (by decide) ?_
  refine r_icmp_eq C0 32 dX5_bookDay_5 (by decide) hf (fun hf => ?_) (fun hf => ?_)
  · refine r_iconst (v := 1) C0 dX5_bookDay_32 (by decide) ?_
    refine r_goto C0 37 dX5_bookDay_33 (by decide) ?_
    refine r_sub (L' := [(0, .ref p0)]) [0] rfl ?_
    exact g_X5_bookDay_37 C0 F p0 hk_p0 (1 : Int32) M _  hf
  · refine r_aload_n C0 dX5_bookDay_8 rfl 0 rfl ?_
    refine r_getI C0 (C := RX5) (T := TX5) cl_X5 (K_X5_o hk_p0) (k := 11) (by decide) qw_55 rfl dX5_bookDay_9 ?_
    refine r_iconst (v := 2) C0 dX5_bookDay_12 (by decide) ?_
    refine r_icmp_eq C0 32 dX5_bookDay_13 (by decide) hf (fun hf => ?_) (fun hf => ?_)
    · refine r_iconst (v := 1) C0 dX5_bookDay_32 (by decide) ?_
      refine r_goto C0 37 dX5_bookDay_33 (by decide) ?_
      refine r_sub (L' := [(0, .ref p0)]) [0] rfl ?_
      exact g_X5_bookDay_37 C0 F p0 hk_p0 (1 : Int32) M _  hf
    · refine r_aload_n C0 dX5_bookDay_16 rfl 0 rfl ?_
      refine r_getI C0 (C := RX5) (T := TX5) cl_X5 (K_X5_o hk_p0) (k := 11) (by decide) qw_55 rfl dX5_bookDay_17 ?_
      refine r_iconst (v := 3) C0 dX5_bookDay_20 (by decide) ?_
      refine r_icmp_eq C0 32 dX5_bookDay_21 (by decide) hf (fun hf => ?_) (fun hf => ?_)
      · refine r_iconst (v := 1) C0 dX5_bookDay_32 (by decide) ?_
        refine r_goto C0 37 dX5_bookDay_33 (by decide) ?_
        refine r_sub (L' := [(0, .ref p0)]) [0] rfl ?_
        exact g_X5_bookDay_37 C0 F p0 hk_p0 (1 : Int32) M _  hf
      · refine r_aload_n C0 dX5_bookDay_24 rfl 0 rfl ?_
        refine r_getI C0 (C := RX5) (T := TX5) cl_X5 (K_X5_o hk_p0) (k := 11) (by decide) qw_55 rfl dX5_bookDay_25 ?_
        refine r_iconst (v := 5) C0 dX5_bookDay_28 (by decide) ?_
        refine r_icmp_ne C0 36 dX5_bookDay_29 (by decide) hf (fun hf => ?_) (fun hf => ?_)
        · refine r_iconst (v := 0) C0 dX5_bookDay_36 (by decide) ?_
          refine r_sub (L' := [(0, .ref p0)]) [0] rfl ?_
          exact g_X5_bookDay_37 C0 F p0 hk_p0 (0 : Int32) M _  hf
        · refine r_iconst (v := 1) C0 dX5_bookDay_32 (by decide) ?_
          refine r_goto C0 37 dX5_bookDay_33 (by decide) ?_
          refine r_sub (L' := [(0, .ref p0)]) [0] rfl ?_
          exact g_X5_bookDay_37 C0 F p0 hk_p0 (1 : Int32) M _  hf
set_option maxHeartbeats 4000000 in
set_option maxRecDepth 100000 in
theorem g_X6_restOneDay_2 {Γ : zCx} {E : zEn} {S : zSk} {X : zMl} {Z : Nat → Prop} (C0 : zCt Γ E RX6 cX6_restOneDay 2 (Option.none : Option Jvm.ClassFile.FieldType) [] { frames := 0, cells := 0, slots := 0, locals := 0 }) (F : Nat) (p0 : Nat) (hk_p0 : K_X6 S p0) : ∀ (n : Nat) (v1 : Int32) (M : zMi) (r : zMi) , f_X6_restOneDay_2 F p0 n v1 M = some r → zG Γ (zQ Γ E 0 0 S Z none r X) E 2 0 0 S Z M X 2 [(0, .ref p0), (1, .int v1)] [] := by
  intro n
  induction n with
  | zero => intro v1 M r; intro hf; cases hf
  | succ n ih =>
    intro v1 M r hf
    refine r_iload_n C0 dX6_restOneDay_2 rfl 1 rfl ?_
    refine r_aload_n C0 dX6_restOneDay_3 rfl 0 rfl ?_
    refine r_getR C0 (C := RX6) (T := TX6) cl_X6 (K_X6_o hk_p0) (k := 2) (by decide) qw_21 rfl (K_X6_rest_r hk_p0) dX6_restOneDay_4 ?_
    refine r_alen (v := 3) C0 (K_X6_rest_k hk_p0) (by decide) rfl dX6_restOneDay_7 ?_
    refine r_icmp_ge C0 36 dX6_restOneDay_8 (by decide) hf (fun hf => ?_) (fun hf => ?_)
    · obtain rfl := Option.some.inj hf
      exact r_vret C0 dX6_restOneDay_36
    · refine r_aload_n C0 dX6_restOneDay_11 rfl 0 rfl ?_
      refine r_getR C0 (C := RX6) (T := TX6) cl_X6 (K_X6_o hk_p0) (k := 2) (by decide) qw_21 rfl (K_X6_rest_r hk_p0) dX6_restOneDay_12 ?_
      refine r_iload_n C0 dX6_restOneDay_15 rfl 1 rfl ?_
      refine r_iald C0 (K_X6_rest_k hk_p0) hf dX6_restOneDay_16 (fun hf => ?_)
      refine r_if_le C0 30 dX6_restOneDay_17 (by decide) hf (fun hf => ?_) (fun hf => ?_)
      · refine r_iinc (j := 1) (v := (v1 + (1 : Int32))) (L' := [(1, .int (v1 + (1 : Int32))), (0, .ref p0)]) C0 dX6_restOneDay_30 rfl rfl (by decide) rfl ?_
        refine r_goto C0 2 dX6_restOneDay_33 (by decide) ?_
        refine r_sub (L' := [(0, .ref p0), (1, .int (v1 + (1 : Int32)))]) [1, 0] rfl ?_
        exact ih (v1 + (1 : Int32)) M _  hf
      · refine r_aload_n C0 dX6_restOneDay_20 rfl 0 rfl ?_
        refine r_getR C0 (C := RX6) (T := TX6) cl_X6 (K_X6_o hk_p0) (k := 2) (by decide) qw_21 rfl (K_X6_rest_r hk_p0) dX6_restOneDay_21 ?_
        refine r_iload_n C0 dX6_restOneDay_24 rfl 1 rfl ?_
        refine r_dup2 C0 dX6_restOneDay_25 rfl rfl ?_
        refine r_iald C0 (K_X6_rest_k hk_p0) hf dX6_restOneDay_26 (fun hf => ?_)
        refine r_iconst (v := 1) C0 dX6_restOneDay_27 (by decide) ?_
        refine r_isub C0 dX6_restOneDay_28 ?_
        refine r_iast C0 (K_X6_rest_k hk_p0) hf dX6_restOneDay_29 (fun M1 hf => ?_)
        refine r_iinc (j := 1) (v := (v1 + (1 : Int32))) (L' := [(1, .int (v1 + (1 : Int32))), (0, .ref p0)]) C0 dX6_restOneDay_30 rfl rfl (by decide) rfl ?_
        refine r_goto C0 2 dX6_restOneDay_33 (by decide) ?_
        refine r_sub (L' := [(0, .ref p0), (1, .int (v1 + (1 : Int32)))]) [1, 0] rfl ?_
        exact ih (v1 + (1 : Int32)) M1 _  hf
set_option maxHeartbeats 4000000 in
set_option maxRecDepth 100000 in
theorem c_X6_restOneDay {l : Launch} {E : zEn} {S : zSk} {X : zMl} {Z : Nat → Prop} (hl : l.stackTraces = false) (F : Nat) (p0 : Nat) (hk_p0 : K_X6 S p0) (M : zMi) (r : zMi) (hf : f_X6_restOneDay F p0 M = some r) : zM l E yX6_restOneDay cX6_restOneDay 2 (Option.none : Option Jvm.ClassFile.FieldType) { frames := 0, cells := 0, slots := 0, locals := 0 } 0 0 [.ref p0] S Z M X S Z none r X := by
  refine zM.intro (L0 := [(0, .ref p0)]) hl (by decide) (Nat.le_of_ble_eq_true rfl) rfl (fun Γ C0 _ => ?_)
  unfold f_X6_restOneDay at hf
  refine r_iconst (v := 0) C0 dX6_restOneDay_0 (by decide) ?_
  refine r_istore_n (L' := [(1, .int (0 : Int32)), (0, .ref p0)]) C0 dX6_restOneDay_1 rfl (by decide) rfl ?_
  refine r_sub (L' := [(0, .ref p0), (1, .int (0 : Int32))]) [1, 0] rfl ?_
  exact g_X6_restOneDay_2 C0 F p0 hk_p0 F (0 : Int32) M _  hf
set_option maxHeartbeats 4000000 in
set_option maxRecDepth 100000 in
theorem g_X5_passDay_58 {Γ : zCx} {E : zEn} {S : zSk} {X : zMl} {Z : Nat → Prop} (C0 : zCt Γ E RX5 cX5_passDay 5 (Option.none : Option Jvm.ClassFile.FieldType) [] { frames := 4, cells := 0, slots := 0, locals := 90 }) (F : Nat) (p0 : Nat) (hk_p0 : K_X5 S p0)  (M : zMi) (r : zMi)  (hf : f_X5_passDay_58 F p0  M = some r) : zG Γ (zQ Γ E 0 0 S Z none r X) E 5 0 0 S Z M X 58 [(0, .ref p0)] [] := by
  unfold f_X5_passDay_58 at hf
  refine r_aload_n C0 dX5_passDay_58 rfl 0 rfl ?_
  refine r_callVm C0 (st := []) [] p0 hf vs_30 (fun hl r1 hr1 => c_X5_bookDay hl F p0 hk_p0 M r1 hr1) (K_X5_o hk_p0) rfl rfl rfl rfl (Nat.le_of_ble_eq_true rfl) dX5_passDay_59 (zrm_ok rfl) (fun r1 hr1 hf => ?_)
  refine r_aload_n C0 dX5_passDay_62 rfl 0 rfl ?_
  refine r_getR C0 (C := RX5) (T := TX5) cl_X5 (K_X5_o hk_p0) (k := 3) (by decide) qw_37 rfl (K_X5_teams_r hk_p0) dX5_passDay_63 ?_
  refine r_callVm C0 (st := []) [] (p0 + 5) hf vs_31 (fun hl r2 hr2 => c_X6_restOneDay hl F (p0 + 5) (K_X5_teams_k hk_p0) r1 r2 hr2) (K_X6_o (K_X5_teams_k hk_p0)) rfl rfl rfl rfl (Nat.le_of_ble_eq_true rfl) dX5_passDay_66 (zrm_ok rfl) (fun r2 hr2 hf => ?_)
  refine r_aload_n C0 dX5_passDay_69 rfl 0 rfl ?_
  refine r_dup C0 dX5_passDay_70 rfl ?_
  refine r_getI C0 (C := RX5) (T := TX5) cl_X5 (K_X5_o hk_p0) (k := 8) (by decide) qw_52 rfl dX5_passDay_71 ?_
  refine r_iconst (v := 1) C0 dX5_passDay_74 (by decide) ?_
  refine r_iadd C0 dX5_passDay_75 ?_
  refine r_putI C0 (C := RX5) (T := TX5) cl_X5 (K_X5_o hk_p0) (k := 8) (by decide) qw_52 rfl rfl rfl rfl hf dX5_passDay_76 (fun M3 hf => ?_)
  obtain rfl := Option.some.inj hf
  exact r_vret C0 dX5_passDay_79
set_option maxHeartbeats 4000000 in
set_option maxRecDepth 100000 in
theorem g_X5_passDay_10 {Γ : zCx} {E : zEn} {S : zSk} {X : zMl} {Z : Nat → Prop} (C0 : zCt Γ E RX5 cX5_passDay 5 (Option.none : Option Jvm.ClassFile.FieldType) [] { frames := 4, cells := 0, slots := 0, locals := 90 }) (F : Nat) (p0 : Nat) (hk_p0 : K_X5 S p0) : ∀ (n : Nat) (v3 : Int32) (M : zMi) (r : zMi) , f_X5_passDay_10 F p0 n v3 M = some r → zG Γ (zQ Γ E 0 0 S Z none r X) E 5 0 0 S Z M X 10 [(0, .ref p0), (1, .ref (p0 + 2)), (2, .int (4 : Int32)), (3, .int v3)] [] := by
  intro n
  induction n with
  | zero => intro v3 M r; intro hf; cases hf
  | succ n ih =>
    intro v3 M r hf
    refine r_iload_n C0 dX5_passDay_10 rfl 3 rfl ?_
    refine r_iload_n C0 dX5_passDay_11 rfl 2 rfl ?_
    refine r_icmp_ge C0 31 dX5_passDay_12 (by decide) hf (fun hf => ?_) (fun hf => ?_)
    · refine r_aload_n C0 dX5_passDay_31 rfl 0 rfl ?_
      refine r_callVi C0 (st := []) [] p0 hf vs_9 (fun hl r1 hr1 => c_X5_isFinished hl F p0 hk_p0 M r1 hr1) (K_X5_o hk_p0) rfl rfl rfl rfl (Nat.le_of_ble_eq_true rfl) dX5_passDay_32 (zrm_ok rfl) (fun r1 hr1 hf => ?_)
      refine r_if_eq C0 46 dX5_passDay_35 (by decide) hf (fun hf => ?_) (fun hf => ?_)
      · refine r_aload_n C0 dX5_passDay_46 rfl 0 rfl ?_
        refine r_callVm C0 (st := []) [] p0 hf vs_32 (fun hl r2 hr2 => c_X5_comeToFront hl F p0 hk_p0 M r2 hr2) (K_X5_o hk_p0) rfl rfl rfl rfl (Nat.le_of_ble_eq_true rfl) dX5_passDay_47 (zrm_ok rfl) (fun r2 hr2 hf => ?_)
        refine r_aload_n C0 dX5_passDay_50 rfl 0 rfl ?_
        refine r_aload_n C0 dX5_passDay_51 rfl 0 rfl ?_
        refine r_callVim C0 (st := [.ref p0]) [] p0 hf vs_33 (fun hl r3 hr3 => c_X5_workAtFront hl F p0 hk_p0 r2 r3 hr3) (K_X5_o hk_p0) rfl rfl rfl rfl (Nat.le_of_ble_eq_true rfl) dX5_passDay_52 (zrm_ok rfl) (fun r3 hr3 hf => ?_)
        refine r_putI C0 (C := RX5) (T := TX5) cl_X5 (K_X5_o hk_p0) (k := 11) (by decide) qw_55 rfl rfl rfl rfl hf dX5_passDay_55 (fun M4 hf => ?_)
        refine r_sub (L' := [(0, .ref p0)]) [0] rfl ?_
        exact g_X5_passDay_58 C0 F p0 hk_p0  M4 _  hf
      · refine r_aload_n C0 dX5_passDay_38 rfl 0 rfl ?_
        refine r_iconst (v := 0) C0 dX5_passDay_39 (by decide) ?_
        refine r_putI C0 (C := RX5) (T := TX5) cl_X5 (K_X5_o hk_p0) (k := 11) (by decide) qw_55 rfl rfl rfl rfl hf dX5_passDay_40 (fun M5 hf => ?_)
        refine r_goto C0 58 dX5_passDay_43 (by decide) ?_
        refine r_sub (L' := [(0, .ref p0)]) [0] rfl ?_
        exact g_X5_passDay_58 C0 F p0 hk_p0  M5 _  hf
    · refine r_aload_n C0 dX5_passDay_15 rfl 1 rfl ?_
      refine r_iload_n C0 dX5_passDay_16 rfl 3 rfl ?_
      refine r_aald C0 (g := fun j => p0 + 2 + 15 + 1 * j) ((K_X5_ships_k hk_p0)).1 (by decide) (by decide) rfl ((K_X5_ships_k hk_p0)).2.1 hf dX5_passDay_17 (fun hi hf => ?_)
      refine r_nmA hf (fun q6 hq hf => ?_)
      have hk_q6 : K_X3 S q6 := by rw [hq]; exact ((K_X5_ships_k hk_p0)).2.2 _ hi
      refine r_astore (L' := [(4, .ref q6), (0, .ref p0), (1, .ref (p0 + 2)), (2, .int (4 : Int32)), (3, .int v3)]) C0 dX5_passDay_18 (by decide) rfl ?_
      refine r_aload C0 dX5_passDay_20 0 rfl ?_
      refine r_callVm C0 (st := []) [] q6 hf vs_34 (fun hl r7 hr7 => c_X3_sailOneDay hl F q6 hk_q6 M r7 hr7) (K_X3_o hk_q6) rfl rfl rfl rfl (Nat.le_of_ble_eq_true rfl) dX5_passDay_22 (zrm_ok rfl) (fun r7 hr7 hf => ?_)
      refine r_iinc (j := 4) (v := (v3 + (1 : Int32))) (L' := [(3, .int (v3 + (1 : Int32))), (4, .ref q6), (0, .ref p0), (1, .ref (p0 + 2)), (2, .int (4 : Int32))]) C0 dX5_passDay_25 rfl rfl (by decide) rfl ?_
      refine r_goto C0 10 dX5_passDay_28 (by decide) ?_
      refine r_sub (L' := [(0, .ref p0), (1, .ref (p0 + 2)), (2, .int (4 : Int32)), (3, .int (v3 + (1 : Int32)))]) [2, 3, 4, 0] rfl ?_
      exact ih (v3 + (1 : Int32)) r7 _  hf
set_option maxHeartbeats 4000000 in
set_option maxRecDepth 100000 in
theorem c_X5_passDay {l : Launch} {E : zEn} {S : zSk} {X : zMl} {Z : Nat → Prop} (hl : l.stackTraces = false) (F : Nat) (p0 : Nat) (hk_p0 : K_X5 S p0) (M : zMi) (r : zMi) (hf : f_X5_passDay F p0 M = some r) : zM l E yX5_passDay cX5_passDay 5 (Option.none : Option Jvm.ClassFile.FieldType) { frames := 4, cells := 0, slots := 0, locals := 90 } 0 0 [.ref p0] S Z M X S Z none r X := by
  refine zM.intro (L0 := [(0, .ref p0)]) hl (by decide) (Nat.le_of_ble_eq_true rfl) rfl (fun Γ C0 _ => ?_)
  unfold f_X5_passDay at hf
  refine r_aload_n C0 dX5_passDay_0 rfl 0 rfl ?_
  refine r_getR C0 (C := RX5) (T := TX5) cl_X5 (K_X5_o hk_p0) (k := 1) (by decide) qw_56 rfl (K_X5_ships_r hk_p0) dX5_passDay_1 ?_
  refine r_astore_n (L' := [(1, .ref (p0 + 2)), (0, .ref p0)]) C0 dX5_passDay_4 rfl (by decide) rfl ?_
  refine r_aload_n C0 dX5_passDay_5 rfl 0 rfl ?_
  refine r_alen (v := 4) C0 ((K_X5_ships_k hk_p0)).1 (by decide) rfl dX5_passDay_6 ?_
  refine r_istore_n (L' := [(2, .int (4 : Int32)), (1, .ref (p0 + 2)), (0, .ref p0)]) C0 dX5_passDay_7 rfl (by decide) rfl ?_
  refine r_iconst (v := 0) C0 dX5_passDay_8 (by decide) ?_
  refine r_istore_n (L' := [(3, .int (0 : Int32)), (2, .int (4 : Int32)), (1, .ref (p0 + 2)), (0, .ref p0)]) C0 dX5_passDay_9 rfl (by decide) rfl ?_
  refine r_sub (L' := [(0, .ref p0), (1, .ref (p0 + 2)), (2, .int (4 : Int32)), (3, .int (0 : Int32))]) [3, 2, 1, 0] rfl ?_
  exact g_X5_passDay_10 C0 F p0 hk_p0 F (0 : Int32) M _  hf
