set_option maxHeartbeats 4000000 in
set_option maxRecDepth 100000 in
theorem g_X6_freeTeams_4 {Γ : zCx} {E : zEn} {S : zSk} {X : zMl} {Z : Nat → Prop} {M : zMi} (C0 : zCt Γ E RX6 cX6_freeTeams 3 (Option.some Jvm.ClassFile.FieldType.int) [] { frames := 1, cells := 0, slots := 0, locals := 21 }) (F : Nat) (p0 : Nat) (hk_p0 : K_X6 S p0) : ∀ (n : Nat) (v1 : Int32) (v2 : Int32) (r : Int32) , f_X6_freeTeams_4 F p0 n v1 v2 M = some r → zG Γ (zQ Γ E 0 0 S Z (some (.int r)) M X) E 3 0 0 S Z M X 4 [(0, .ref p0), (1, .int v1), (2, .int v2)] [] := by
  intro n
  induction n with
  | zero => intro v1 v2 r; intro hf; cases hf
  | succ n ih =>
    intro v1 v2 r hf
    refine r_iload_n C0 dX6_freeTeams_4 rfl 2 rfl ?_
    refine r_aload_n C0 dX6_freeTeams_5 rfl 0 rfl ?_
    refine r_getR C0 (C := RX6) (T := TX6) cl_X6 (K_X6_o hk_p0) (k := 2) (by decide) qw_21 rfl (K_X6_rest_r hk_p0) dX6_freeTeams_6 ?_
    refine r_alen (v := 3) C0 (K_X6_rest_k hk_p0) (by decide) rfl dX6_freeTeams_9 ?_
    refine r_icmp_ge C0 30 dX6_freeTeams_10 (by decide) hf (fun hf => ?_) (fun hf => ?_)
    · refine r_iload_n C0 dX6_freeTeams_30 rfl 1 rfl ?_
      obtain rfl := Option.some.inj hf
      exact r_iret C0 dX6_freeTeams_31
    · refine r_aload_n C0 dX6_freeTeams_13 rfl 0 rfl ?_
      refine r_iload_n C0 dX6_freeTeams_14 rfl 2 rfl ?_
      refine r_callVi C0 (st := []) [.int v2] p0 hf vs_20 (fun hl r1 hr1 => c_X6_isFree hl F p0 v2 hk_p0 M r1 hr1) (K_X6_o hk_p0) rfl rfl rfl rfl (Nat.le_of_ble_eq_true rfl) dX6_freeTeams_15 (zrm_ok rfl) (fun r1 hr1 hf => ?_)
      refine r_if_eq C0 24 dX6_freeTeams_18 (by decide) hf (fun hf => ?_) (fun hf => ?_)
      · refine r_iinc (j := 2) (v := (v2 + (1 : Int32))) (L' := [(2, .int (v2 + (1 : Int32))), (0, .ref p0), (1, .int v1)]) C0 dX6_freeTeams_24 rfl rfl (by decide) rfl ?_
        refine r_goto C0 4 dX6_freeTeams_27 (by decide) ?_
        refine r_sub (L' := [(0, .ref p0), (1, .int v1), (2, .int (v2 + (1 : Int32)))]) [1, 2, 0] rfl ?_
        exact ih v1 (v2 + (1 : Int32)) _  hf
      · refine r_iinc (j := 1) (v := (v1 + (1 : Int32))) (L' := [(1, .int (v1 + (1 : Int32))), (0, .ref p0), (2, .int v2)]) C0 dX6_freeTeams_21 rfl rfl (by decide) rfl ?_
        refine r_iinc (j := 2) (v := (v2 + (1 : Int32))) (L' := [(2, .int (v2 + (1 : Int32))), (1, .int (v1 + (1 : Int32))), (0, .ref p0)]) C0 dX6_freeTeams_24 rfl rfl (by decide) rfl ?_
        refine r_goto C0 4 dX6_freeTeams_27 (by decide) ?_
        refine r_sub (L' := [(0, .ref p0), (1, .int (v1 + (1 : Int32))), (2, .int (v2 + (1 : Int32)))]) [2, 1, 0] rfl ?_
        exact ih (v1 + (1 : Int32)) (v2 + (1 : Int32)) _  hf
set_option maxHeartbeats 4000000 in
set_option maxRecDepth 100000 in
theorem c_X6_freeTeams {l : Launch} {E : zEn} {S : zSk} {X : zMl} {Z : Nat → Prop} (hl : l.stackTraces = false) (F : Nat) (p0 : Nat) (hk_p0 : K_X6 S p0) (M : zMi) (r : Int32) (hf : f_X6_freeTeams F p0 M = some r) : zM l E yX6_freeTeams cX6_freeTeams 3 (Option.some Jvm.ClassFile.FieldType.int) { frames := 1, cells := 0, slots := 0, locals := 21 } 0 0 [.ref p0] S Z M X S Z (some (.int r)) M X := by
  refine zM.intro (L0 := [(0, .ref p0)]) hl (by decide) (Nat.le_of_ble_eq_true rfl) rfl (fun Γ C0 _ => ?_)
  unfold f_X6_freeTeams at hf
  refine r_iconst (v := 0) C0 dX6_freeTeams_0 (by decide) ?_
  refine r_istore_n (L' := [(1, .int (0 : Int32)), (0, .ref p0)]) C0 dX6_freeTeams_1 rfl (by decide) rfl ?_
  refine r_iconst (v := 0) C0 dX6_freeTeams_2 (by decide) ?_
  refine r_istore_n (L' := [(2, .int (0 : Int32)), (1, .int (0 : Int32)), (0, .ref p0)]) C0 dX6_freeTeams_3 rfl (by decide) rfl ?_
  refine r_sub (L' := [(0, .ref p0), (1, .int (0 : Int32)), (2, .int (0 : Int32))]) [2, 1, 0] rfl ?_
  exact g_X6_freeTeams_4 C0 F p0 hk_p0 F (0 : Int32) (0 : Int32) _  hf
set_option maxHeartbeats 4000000 in
set_option maxRecDepth 100000 in
theorem c_X7_hasRoom {l : Launch} {E : zEn} {S : zSk} {X : zMl} {Z : Nat → Prop} (hl : l.stackTraces = false) (F : Nat) (p0 : Nat) (hk_p0 : K_X7 S p0) (M : zMi) (r : Int32) (hf : f_X7_hasRoom F p0 M = some r) : zM l E yX7_hasRoom cX7_hasRoom 1 (Option.some Jvm.ClassFile.FieldType.boolean) { frames := 0, cells := 0, slots := 0, locals := 0 } 0 0 [.ref p0] S Z M X S Z (some (.int r)) M X := by
  refine zM.intro (L0 := [(0, .ref p0)]) hl (by decide) (Nat.le_of_ble_eq_true rfl) rfl (fun Γ C0 _ => ?_)
  unfold f_X7_hasRoom at hf
  refine r_aload_n C0 dX7_hasRoom_0 rfl 0 rfl ?_
  refine r_getI C0 (C := RX7) (T := TX7) cl_X7 (K_X7_o hk_p0) (k := 1) (by decide) qw_281 rfl dX7_hasRoom_1 ?_
  refine r_if_lt C0 23 dX7_hasRoom_4 (by decide) hf (fun hf => ?_) (fun hf => ?_)
  · refine r_iconst (v := 0) C0 dX7_hasRoom_23 (by decide) ?_
    obtain rfl := Option.some.inj hf
    exact r_zret C0 rfl dX7_hasRoom_24
  · refine r_aload_n C0 dX7_hasRoom_7 rfl 0 rfl ?_
    refine r_getI C0 (C := RX7) (T := TX7) cl_X7 (K_X7_o hk_p0) (k := 1) (by decide) qw_281 rfl dX7_hasRoom_8 ?_
    refine r_aload_n C0 dX7_hasRoom_11 rfl 0 rfl ?_
    refine r_getR C0 (C := RX7) (T := TX7) cl_X7 (K_X7_o hk_p0) (k := 0) (by decide) qw_282 rfl (K_X7_signs_r hk_p0) dX7_hasRoom_12 ?_
    refine r_alen (v := 160) C0 (K_X7_signs_k hk_p0) (by decide) rfl dX7_hasRoom_15 ?_
    refine r_icmp_ge C0 23 dX7_hasRoom_16 (by decide) hf (fun hf => ?_) (fun hf => ?_)
    · refine r_iconst (v := 0) C0 dX7_hasRoom_23 (by decide) ?_
      obtain rfl := Option.some.inj hf
      exact r_zret C0 rfl dX7_hasRoom_24
    · refine r_iconst (v := 1) C0 dX7_hasRoom_19 (by decide) ?_
      refine r_goto C0 24 dX7_hasRoom_20 (by decide) ?_
      obtain rfl := Option.some.inj hf
      exact r_zret C0 rfl dX7_hasRoom_24
set_option maxHeartbeats 4000000 in
set_option maxRecDepth 100000 in
theorem c_X7_add {l : Launch} {E : zEn} {S : zSk} {X : zMl} {Z : Nat → Prop} (hl : l.stackTraces = false) (F : Nat) (p0 : Nat) (p1 : Int32) (hk_p0 : K_X7 S p0) (M : zMi) (r : Int32 × zMi) (hf : f_X7_add F p0 p1 M = some r) : zM l E yX7_add cX7_add 2 (Option.some Jvm.ClassFile.FieldType.int) { frames := 1, cells := 0, slots := 0, locals := 20 } 0 0 [.ref p0, .int p1] S Z M X S Z (some (.int r.1)) r.2 X := by
  refine zM.intro (L0 := [(0, .ref p0), (1, .int p1)]) hl (by decide) (Nat.le_of_ble_eq_true rfl) rfl (fun Γ C0 _ => ?_)
  unfold f_X7_add at hf
  refine r_aload_n C0 dX7_add_0 rfl 0 rfl ?_
  refine r_callVi C0 (st := []) [] p0 hf vs_56 (fun hl r1 hr1 => c_X7_hasRoom hl F p0 hk_p0 M r1 hr1) (K_X7_o hk_p0) rfl rfl rfl rfl (Nat.le_of_ble_eq_true rfl) dX7_add_1 (zrm_ok rfl) (fun r1 hr1 hf => ?_)
  refine r_if_eq C0 27 dX7_add_4 (by decide) hf (fun hf => ?_) (fun hf => ?_)
  · refine r_aload_n C0 dX7_add_27 rfl 0 rfl ?_
    refine r_getI C0 (C := RX7) (T := TX7) cl_X7 (K_X7_o hk_p0) (k := 1) (by decide) qw_281 rfl dX7_add_28 ?_
    obtain rfl := Option.some.inj hf
    exact r_iret C0 dX7_add_31
  · refine r_aload_n C0 dX7_add_7 rfl 0 rfl ?_
    refine r_getR C0 (C := RX7) (T := TX7) cl_X7 (K_X7_o hk_p0) (k := 0) (by decide) qw_282 rfl (K_X7_signs_r hk_p0) dX7_add_8 ?_
    refine r_aload_n C0 dX7_add_11 rfl 0 rfl ?_
    refine r_getI C0 (C := RX7) (T := TX7) cl_X7 (K_X7_o hk_p0) (k := 1) (by decide) qw_281 rfl dX7_add_12 ?_
    refine r_iload_n C0 dX7_add_15 rfl 1 rfl ?_
    refine r_cast C0 (K_X7_signs_k hk_p0) hf dX7_add_16 (fun M2 hf => ?_)
    refine r_aload_n C0 dX7_add_17 rfl 0 rfl ?_
    refine r_dup C0 dX7_add_18 rfl ?_
    refine r_getI C0 (C := RX7) (T := TX7) cl_X7 (K_X7_o hk_p0) (k := 1) (by decide) qw_281 rfl dX7_add_19 ?_
    refine r_iconst (v := 1) C0 dX7_add_22 (by decide) ?_
    refine r_iadd C0 dX7_add_23 ?_
    refine r_putI C0 (C := RX7) (T := TX7) cl_X7 (K_X7_o hk_p0) (k := 1) (by decide) qw_281 rfl rfl rfl rfl hf dX7_add_24 (fun M3 hf => ?_)
    refine r_aload_n C0 dX7_add_27 rfl 0 rfl ?_
    refine r_getI C0 (C := RX7) (T := TX7) cl_X7 (K_X7_o hk_p0) (k := 1) (by decide) qw_281 rfl dX7_add_28 ?_
    obtain rfl := Option.some.inj hf
    exact r_iret C0 dX7_add_31
set_option maxHeartbeats 4000000 in
set_option maxRecDepth 100000 in
theorem c_X7_clear {l : Launch} {E : zEn} {S : zSk} {X : zMl} {Z : Nat → Prop} (hl : l.stackTraces = false) (F : Nat) (p0 : Nat) (hk_p0 : K_X7 S p0) (M : zMi) (r : Int32 × zMi) (hf : f_X7_clear F p0 M = some r) : zM l E yX7_clear cX7_clear 2 (Option.some Jvm.ClassFile.FieldType.int) { frames := 0, cells := 0, slots := 0, locals := 0 } 0 0 [.ref p0] S Z M X S Z (some (.int r.1)) r.2 X := by
  refine zM.intro (L0 := [(0, .ref p0)]) hl (by decide) (Nat.le_of_ble_eq_true rfl) rfl (fun Γ C0 _ => ?_)
  unfold f_X7_clear at hf
  refine r_aload_n C0 dX7_clear_0 rfl 0 rfl ?_
  refine r_getI C0 (C := RX7) (T := TX7) cl_X7 (K_X7_o hk_p0) (k := 1) (by decide) qw_281 rfl dX7_clear_1 ?_
  refine r_nm hf (fun x1 hf => ?_)
  refine r_istore_n (L' := [(1, .int x1), (0, .ref p0)]) C0 dX7_clear_4 rfl (by decide) rfl ?_
  refine r_aload_n C0 dX7_clear_5 rfl 1 rfl ?_
  refine r_iconst (v := 0) C0 dX7_clear_6 (by decide) ?_
  refine r_putI C0 (C := RX7) (T := TX7) cl_X7 (K_X7_o hk_p0) (k := 1) (by decide) qw_281 rfl rfl rfl rfl hf dX7_clear_7 (fun M2 hf => ?_)
  refine r_iload_n C0 dX7_clear_10 rfl 0 rfl ?_
  obtain rfl := Option.some.inj hf
  exact r_iret C0 dX7_clear_11
set_option maxHeartbeats 4000000 in
set_option maxRecDepth 100000 in
theorem c_X7_nextIs {l : Launch} {E : zEn} {S : zSk} {X : zMl} {Z : Nat → Prop} (hl : l.stackTraces = false) (F : Nat) (p0 : Nat) (p1 : Int32) (hk_p0 : K_X7 S p0) (M : zMi) (r : Int32) (hf : f_X7_nextIs F p0 p1 M = some r) : zM l E yX7_nextIs cX7_nextIs 2 (Option.some Jvm.ClassFile.FieldType.boolean) { frames := 0, cells := 0, slots := 0, locals := 0 } 0 0 [.ref p0, .int p1] S Z M X S Z (some (.int r)) M X := by
  refine zM.intro (L0 := [(0, .ref p0), (1, .int p1)]) hl (by decide) (Nat.le_of_ble_eq_true rfl) rfl (fun Γ C0 _ => ?_)
  unfold f_X7_nextIs at hf
  refine r_aload_n C0 dX7_nextIs_0 rfl 0 rfl ?_
  refine r_getI C0 (C := RX7) (T := TX7) cl_X7 (K_X7_o hk_p0) (k := 2) (by decide) qw_288 rfl dX7_nextIs_1 ?_
  refine r_if_lt C0 47 dX7_nextIs_4 (by decide) hf (fun hf => ?_) (fun hf => ?_)
  · refine r_iconst (v := 0) C0 dX7_nextIs_47 (by decide) ?_
    obtain rfl := Option.some.inj hf
    exact r_zret C0 rfl dX7_nextIs_48
  · refine r_aload_n C0 dX7_nextIs_7 rfl 0 rfl ?_
    refine r_getI C0 (C := RX7) (T := TX7) cl_X7 (K_X7_o hk_p0) (k := 2) (by decide) qw_288 rfl dX7_nextIs_8 ?_
    refine r_aload_n C0 dX7_nextIs_11 rfl 0 rfl ?_
    refine r_getI C0 (C := RX7) (T := TX7) cl_X7 (K_X7_o hk_p0) (k := 1) (by decide) qw_281 rfl dX7_nextIs_12 ?_
    refine r_icmp_ge C0 47 dX7_nextIs_15 (by decide) hf (fun hf => ?_) (fun hf => ?_)
    · refine r_iconst (v := 0) C0 dX7_nextIs_47 (by decide) ?_
      obtain rfl := Option.some.inj hf
      exact r_zret C0 rfl dX7_nextIs_48
    · refine r_aload_n C0 dX7_nextIs_18 rfl 0 rfl ?_
      refine r_getI C0 (C := RX7) (T := TX7) cl_X7 (K_X7_o hk_p0) (k := 2) (by decide) qw_288 rfl dX7_nextIs_19 ?_
      refine r_aload_n C0 dX7_nextIs_22 rfl 0 rfl ?_
      refine r_getR C0 (C := RX7) (T := TX7) cl_X7 (K_X7_o hk_p0) (k := 0) (by decide) qw_282 rfl (K_X7_signs_r hk_p0) dX7_nextIs_23 ?_
      refine r_alen (v := 160) C0 (K_X7_signs_k hk_p0) (by decide) rfl dX7_nextIs_26 ?_
      refine r_icmp_ge C0 47 dX7_nextIs_27 (by decide) hf (fun hf => ?_) (fun hf => ?_)
      · refine r_iconst (v := 0) C0 dX7_nextIs_47 (by decide) ?_
        obtain rfl := Option.some.inj hf
        exact r_zret C0 rfl dX7_nextIs_48
      · refine r_aload_n C0 dX7_nextIs_30 rfl 0 rfl ?_
        refine r_getR C0 (C := RX7) (T := TX7) cl_X7 (K_X7_o hk_p0) (k := 0) (by decide) qw_282 rfl (K_X7_signs_r hk_p0) dX7_nextIs_31 ?_
        refine r_aload_n C0 dX7_nextIs_34 rfl 0 rfl ?_
        refine r_getI C0 (C := RX7) (T := TX7) cl_X7 (K_X7_o hk_p0) (k := 2) (by decide) qw_288 rfl dX7_nextIs_35 ?_
        refine r_cald C0 (K_X7_signs_k hk_p0) hf dX7_nextIs_38 (fun hf => ?_)
        refine r_iload_n C0 dX7_nextIs_39 rfl 1 rfl ?_
        refine r_icmp_ne C0 47 dX7_nextIs_40 (by decide) hf (fun hf => ?_) (fun hf => ?_)
        · refine r_iconst (v := 0) C0 dX7_nextIs_47 (by decide) ?_
          obtain rfl := Option.some.inj hf
          exact r_zret C0 rfl dX7_nextIs_48
        · refine r_iconst (v := 1) C0 dX7_nextIs_43 (by decide) ?_
          refine r_goto C0 48 dX7_nextIs_44 (by decide) ?_
          obtain rfl := Option.some.inj hf
          exact r_zret C0 rfl dX7_nextIs_48
set_option maxHeartbeats 4000000 in
set_option maxRecDepth 100000 in
theorem g_X7_readLetter_21 {Γ : zCx} {E : zEn} {S : zSk} {X : zMl} {Z : Nat → Prop} (C0 : zCt Γ E RX7 cX7_readLetter 2 (Option.none : Option Jvm.ClassFile.FieldType) [] { frames := 1, cells := 0, slots := 0, locals := 21 }) (F : Nat) (p0 : Nat) (p1 : Int32) (hk_p0 : K_X7 S p0) (s0 : Int32) (M : zMi) (r : zMi)  (hf : f_X7_readLetter_21 F p0 p1 s0 M = some r) : zG Γ (zQ Γ E 0 0 S Z none r X) E 2 0 0 S Z M X 21 [(0, .ref p0)] [.int s0, .ref p0] := by
  unfold f_X7_readLetter_21 at hf
  refine r_putZ C0 (C := RX7) (T := TX7) cl_X7 (K_X7_o hk_p0) (k := 3) (by decide) qw_289 rfl rfl rfl hf dX7_readLetter_21 (fun M1 hf => ?_)
  refine r_aload_n C0 dX7_readLetter_24 rfl 0 rfl ?_
  refine r_getI C0 (C := RX7) (T := TX7) cl_X7 (K_X7_o hk_p0) (k := 3) (by decide) qw_289 rfl dX7_readLetter_25 ?_
  refine r_if_eq C0 41 dX7_readLetter_28 (by decide) hf (fun hf => ?_) (fun hf => ?_)
  · obtain rfl := Option.some.inj hf
    exact r_vret C0 dX7_readLetter_41
  · refine r_aload_n C0 dX7_readLetter_31 rfl 0 rfl ?_
    refine r_dup C0 dX7_readLetter_32 rfl ?_
    refine r_getI C0 (C := RX7) (T := TX7) cl_X7 (K_X7_o hk_p0) (k := 2) (by decide) qw_288 rfl dX7_readLetter_33 ?_
    refine r_iconst (v := 1) C0 dX7_readLetter_36 (by decide) ?_
    refine r_iadd C0 dX7_readLetter_37 ?_
    refine r_putI C0 (C := RX7) (T := TX7) cl_X7 (K_X7_o hk_p0) (k := 2) (by decide) qw_288 rfl rfl rfl rfl hf dX7_readLetter_38 (fun M2 hf => ?_)
    obtain rfl := Option.some.inj hf
    exact r_vret C0 dX7_readLetter_41
set_option maxHeartbeats 4000000 in
set_option maxRecDepth 100000 in
theorem c_X7_readLetter {l : Launch} {E : zEn} {S : zSk} {X : zMl} {Z : Nat → Prop} (hl : l.stackTraces = false) (F : Nat) (p0 : Nat) (p1 : Int32) (hk_p0 : K_X7 S p0) (M : zMi) (r : zMi) (hf : f_X7_readLetter F p0 p1 M = some r) : zM l E yX7_readLetter cX7_readLetter 2 (Option.none : Option Jvm.ClassFile.FieldType) { frames := 1, cells := 0, slots := 0, locals := 21 } 0 0 [.ref p0, .int p1] S Z M X S Z none r X := by
  refine zM.intro (L0 := [(0, .ref p0), (1, .int p1)]) hl (by decide) (Nat.le_of_ble_eq_true rfl) rfl (fun Γ C0 _ => ?_)
  unfold f_X7_readLetter at hf
  refine r_aload_n C0 dX7_readLetter_0 rfl 0 rfl ?_
  refine r_aload_n C0 dX7_readLetter_1 rfl 0 rfl ?_
  refine r_getI C0 (C := RX7) (T := TX7) cl_X7 (K_X7_o hk_p0) (k := 3) (by decide) qw_289 rfl dX7_readLetter_2 ?_
  refine r_if_eq C0 20 dX7_readLetter_5 (by decide) hf (fun hf => ?_) (fun hf => ?_)
  · refine r_iconst (v := 0) C0 dX7_readLetter_20 (by decide) ?_
    refine r_sub (L' := [(0, .ref p0)]) [0] rfl ?_
    exact g_X7_readLetter_21 C0 F p0 p1 hk_p0 (0 : Int32) M _  hf
  · refine r_aload_n C0 dX7_readLetter_8 rfl 0 rfl ?_
    refine r_iload_n C0 dX7_readLetter_9 rfl 1 rfl ?_
    refine r_callVi C0 (st := [.ref p0]) [.int p1] p0 hf vs_57 (fun hl r1 hr1 => c_X7_nextIs hl F p0 p1 hk_p0 M r1 hr1) (K_X7_o hk_p0) rfl rfl rfl rfl (Nat.le_of_ble_eq_true rfl) dX7_readLetter_10 (zrm_ok rfl) (fun r1 hr1 hf => ?_)
    refine r_if_eq C0 20 dX7_readLetter_13 (by decide) hf (fun hf => ?_) (fun hf => ?_)
    · refine r_iconst (v := 0) C0 dX7_readLetter_20 (by decide) ?_
      refine r_sub (L' := [(0, .ref p0)]) [0] rfl ?_
      exact g_X7_readLetter_21 C0 F p0 p1 hk_p0 (0 : Int32) M _  hf
    · refine r_iconst (v := 1) C0 dX7_readLetter_16 (by decide) ?_
      refine r_goto C0 21 dX7_readLetter_17 (by decide) ?_
      refine r_sub (L' := [(0, .ref p0)]) [0] rfl ?_
      exact g_X7_readLetter_21 C0 F p0 p1 hk_p0 (1 : Int32) M _  hf
set_option maxHeartbeats 4000000 in
set_option maxRecDepth 100000 in
theorem c_X7_nextDigit {l : Launch} {E : zEn} {S : zSk} {X : zMl} {Z : Nat → Prop} (hl : l.stackTraces = false) (F : Nat) (p0 : Nat) (hk_p0 : K_X7 S p0) (M : zMi) (r : Int32) (hf : f_X7_nextDigit F p0 M = some r) : zM l E yX7_nextDigit cX7_nextDigit 2 (Option.some Jvm.ClassFile.FieldType.int) { frames := 0, cells := 0, slots := 0, locals := 0 } 0 0 [.ref p0] S Z M X S Z (some (.int r)) M X := by
  refine zM.intro (L0 := [(0, .ref p0)]) hl (by decide) (Nat.le_of_ble_eq_true rfl) rfl (fun Γ C0 _ => ?_)
  unfold f_X7_nextDigit at hf
  refine r_aload_n C0 dX7_nextDigit_0 rfl 0 rfl ?_
  refine r_getI C0 (C := RX7) (T := TX7) cl_X7 (K_X7_o hk_p0) (k := 2) (by decide) qw_288 rfl dX7_nextDigit_1 ?_
  refine r_if_lt C0 30 dX7_nextDigit_4 (by decide) hf (fun hf => ?_) (fun hf => ?_)
  · refine r_bipush (v := -9) C0 dX7_nextDigit_30 (by decide) ?_
    obtain rfl := Option.some.inj hf
    exact r_iret C0 dX7_nextDigit_32
  · refine r_aload_n C0 dX7_nextDigit_7 rfl 0 rfl ?_
    refine r_getI C0 (C := RX7) (T := TX7) cl_X7 (K_X7_o hk_p0) (k := 2) (by decide) qw_288 rfl dX7_nextDigit_8 ?_
    refine r_aload_n C0 dX7_nextDigit_11 rfl 0 rfl ?_
    refine r_getI C0 (C := RX7) (T := TX7) cl_X7 (K_X7_o hk_p0) (k := 1) (by decide) qw_281 rfl dX7_nextDigit_12 ?_
    refine r_icmp_ge C0 30 dX7_nextDigit_15 (by decide) hf (fun hf => ?_) (fun hf => ?_)
    · refine r_bipush (v := -9) C0 dX7_nextDigit_30 (by decide) ?_
      obtain rfl := Option.some.inj hf
      exact r_iret C0 dX7_nextDigit_32
    · refine r_aload_n C0 dX7_nextDigit_18 rfl 0 rfl ?_
      refine r_getI C0 (C := RX7) (T := TX7) cl_X7 (K_X7_o hk_p0) (k := 2) (by decide) qw_288 rfl dX7_nextDigit_19 ?_
      refine r_aload_n C0 dX7_nextDigit_22 rfl 0 rfl ?_
      refine r_getR C0 (C := RX7) (T := TX7) cl_X7 (K_X7_o hk_p0) (k := 0) (by decide) qw_282 rfl (K_X7_signs_r hk_p0) dX7_nextDigit_23 ?_
      refine r_alen (v := 160) C0 (K_X7_signs_k hk_p0) (by decide) rfl dX7_nextDigit_26 ?_
      refine r_icmp_lt C0 33 dX7_nextDigit_27 (by decide) hf (fun hf => ?_) (fun hf => ?_)
      · refine r_aload_n C0 dX7_nextDigit_33 rfl 0 rfl ?_
        refine r_getR C0 (C := RX7) (T := TX7) cl_X7 (K_X7_o hk_p0) (k := 0) (by decide) qw_282 rfl (K_X7_signs_r hk_p0) dX7_nextDigit_34 ?_
        refine r_aload_n C0 dX7_nextDigit_37 rfl 0 rfl ?_
        refine r_getI C0 (C := RX7) (T := TX7) cl_X7 (K_X7_o hk_p0) (k := 2) (by decide) qw_288 rfl dX7_nextDigit_38 ?_
        refine r_cald C0 (K_X7_signs_k hk_p0) hf dX7_nextDigit_41 (fun hf => ?_)
        refine r_nm hf (fun x1 hf => ?_)
        refine r_istore_n (L' := [(1, .int x1), (0, .ref p0)]) C0 dX7_nextDigit_42 rfl (by decide) rfl ?_
        refine r_iload_n C0 dX7_nextDigit_43 rfl 0 rfl ?_
        refine r_bipush (v := 48) C0 dX7_nextDigit_44 (by decide) ?_
        refine r_icmp_lt C0 62 dX7_nextDigit_46 (by decide) hf (fun hf => ?_) (fun hf => ?_)
        · refine r_bipush (v := -9) C0 dX7_nextDigit_62 (by decide) ?_
          obtain rfl := Option.some.inj hf
          exact r_iret C0 dX7_nextDigit_64
        · refine r_iload_n C0 dX7_nextDigit_49 rfl 0 rfl ?_
          refine r_bipush (v := 57) C0 dX7_nextDigit_50 (by decide) ?_
          refine r_icmp_gt C0 62 dX7_nextDigit_52 (by decide) hf (fun hf => ?_) (fun hf => ?_)
          · refine r_bipush (v := -9) C0 dX7_nextDigit_62 (by decide) ?_
            obtain rfl := Option.some.inj hf
            exact r_iret C0 dX7_nextDigit_64
          · refine r_iload_n C0 dX7_nextDigit_55 rfl 0 rfl ?_
            refine r_bipush (v := 48) C0 dX7_nextDigit_56 (by decide) ?_
            refine r_isub C0 dX7_nextDigit_58 ?_
            refine r_goto C0 64 dX7_nextDigit_59 (by decide) ?_
            obtain rfl := Option.some.inj hf
            exact r_iret C0 dX7_nextDigit_64
      · refine r_bipush (v := -9) C0 dX7_nextDigit_30 (by decide) ?_
        obtain rfl := Option.some.inj hf
        exact r_iret C0 dX7_nextDigit_32
set_option maxHeartbeats 4000000 in
set_option maxRecDepth 100000 in
theorem g_X7_readNumber_98 {Γ : zCx} {E : zEn} {S : zSk} {X : zMl} {Z : Nat → Prop} (C0 : zCt Γ E RX7 cX7_readNumber 9 (Option.some Jvm.ClassFile.FieldType.int) [] { frames := 1, cells := 0, slots := 0, locals := 21 }) (F : Nat) (p0 : Nat) (p1 : Int32) (p2 : Int32) (p3 : Int32) (k_31 : Int32 → Int32 → Int32 → zMi → Option (Int32 × zMi)) (hk_p0 : K_X7 S p0) (hk_k_31 : ∀ (v4_ : Int32) (v5_ : Int32) (v6_ : Int32) (M : zMi) (r : Int32 × zMi), k_31 v4_ v5_ v6_ M = some r → zG Γ (zQ Γ E 0 0 S Z (some (.int r.1)) r.2 X) E 9 0 0 S Z M X 31 [(0, .ref p0), (1, .int p1), (2, .int p2), (3, .int p3), (4, .int v4_), (5, .int v5_), (6, .int v6_)] []) (v4 : Int32) (v5 : Int32) (v6 : Int32) (v7 : Int32) (s0 : Int32) (M : zMi) (r : Int32 × zMi)  (hf : f_X7_readNumber_98 F p0 p1 p2 p3 k_31 v4 v5 v6 v7 s0 M = some r) : zG Γ (zQ Γ E 0 0 S Z (some (.int r.1)) r.2 X) E 9 0 0 S Z M X 98 [(0, .ref p0), (1, .int p1), (2, .int p2), (3, .int p3), (4, .int v4), (5, .int v5), (6, .int v6), (7, .int v7)] [.int s0, .ref p0] := by
  unfold f_X7_readNumber_98 at hf
  refine r_putZ C0 (C := RX7) (T := TX7) cl_X7 (K_X7_o hk_p0) (k := 3) (by decide) qw_289 rfl rfl rfl hf dX7_readNumber_98 (fun M1 hf => ?_)
  refine r_aload_n C0 dX7_readNumber_101 rfl 0 rfl ?_
  refine r_getI C0 (C := RX7) (T := TX7) cl_X7 (K_X7_o hk_p0) (k := 3) (by decide) qw_289 rfl dX7_readNumber_102 ?_
  refine r_if_eq C0 128 dX7_readNumber_105 (by decide) hf (fun hf => ?_) (fun hf => ?_)
  · refine r_iinc (j := 6) (v := (v6 + (1 : Int32))) (L' := [(6, .int (v6 + (1 : Int32))), (0, .ref p0), (1, .int p1), (2, .int p2), (3, .int p3), (4, .int v4), (5, .int v5), (7, .int v7)]) C0 dX7_readNumber_128 rfl rfl (by decide) rfl ?_
    refine r_goto C0 31 dX7_readNumber_131 (by decide) ?_
    refine r_sub (L' := [(0, .ref p0), (1, .int p1), (2, .int p2), (3, .int p3), (4, .int v4), (5, .int v5), (6, .int (v6 + (1 : Int32)))]) [1, 2, 3, 4, 5, 6, 0] rfl ?_
    exact hk_k_31 v4 v5 (v6 + (1 : Int32)) M1 _  hf
  · refine r_iload C0 dX7_readNumber_108 5 rfl ?_
    refine r_bipush (v := 10) C0 dX7_readNumber_110 (by decide) ?_
    refine r_imul C0 dX7_readNumber_112 ?_
    refine r_iload C0 dX7_readNumber_113 7 rfl ?_
    refine r_iadd C0 dX7_readNumber_115 ?_
    refine r_nm hf (fun x2 hf => ?_)
    refine r_istore (L' := [(5, .int x2), (0, .ref p0), (1, .int p1), (2, .int p2), (3, .int p3), (4, .int v4), (6, .int v6), (7, .int v7)]) C0 dX7_readNumber_116 (by decide) rfl ?_
    refine r_aload_n C0 dX7_readNumber_118 rfl 1 rfl ?_
    refine r_dup C0 dX7_readNumber_119 rfl ?_
    refine r_getI C0 (C := RX7) (T := TX7) cl_X7 (K_X7_o hk_p0) (k := 2) (by decide) qw_288 rfl dX7_readNumber_120 ?_
    refine r_iconst (v := 1) C0 dX7_readNumber_123 (by decide) ?_
    refine r_iadd C0 dX7_readNumber_124 ?_
    refine r_putI C0 (C := RX7) (T := TX7) cl_X7 (K_X7_o hk_p0) (k := 2) (by decide) qw_288 rfl rfl rfl rfl hf dX7_readNumber_125 (fun M3 hf => ?_)
    refine r_iinc (j := 6) (v := (v6 + (1 : Int32))) (L' := [(6, .int (v6 + (1 : Int32))), (5, .int x2), (0, .ref p0), (1, .int p1), (2, .int p2), (3, .int p3), (4, .int v4), (7, .int v7)]) C0 dX7_readNumber_128 rfl rfl (by decide) rfl ?_
    refine r_goto C0 31 dX7_readNumber_131 (by decide) ?_
    refine r_sub (L' := [(0, .ref p0), (1, .int p1), (2, .int p2), (3, .int p3), (4, .int v4), (5, .int x2), (6, .int (v6 + (1 : Int32)))]) [2, 3, 4, 5, 6, 1, 0] rfl ?_
    exact hk_k_31 v4 x2 (v6 + (1 : Int32)) M3 _  hf
set_option maxHeartbeats 4000000 in
set_option maxRecDepth 100000 in
theorem g_X7_readNumber_31 {Γ : zCx} {E : zEn} {S : zSk} {X : zMl} {Z : Nat → Prop} (C0 : zCt Γ E RX7 cX7_readNumber 9 (Option.some Jvm.ClassFile.FieldType.int) [] { frames := 1, cells := 0, slots := 0, locals := 21 }) (F : Nat) (p0 : Nat) (p1 : Int32) (p2 : Int32) (p3 : Int32) (hk_p0 : K_X7 S p0) : ∀ (n : Nat) (v4 : Int32) (v5 : Int32) (v6 : Int32) (M : zMi) (r : Int32 × zMi) , f_X7_readNumber_31 F p0 p1 p2 p3 n v4 v5 v6 M = some r → zG Γ (zQ Γ E 0 0 S Z (some (.int r.1)) r.2 X) E 9 0 0 S Z M X 31 [(0, .ref p0), (1, .int p1), (2, .int p2), (3, .int p3), (4, .int v4), (5, .int v5), (6, .int v6)] [] := by
  intro n
  induction n with
  | zero => intro v4 v5 v6 M r; intro hf; cases hf
  | succ n ih =>
    intro v4 v5 v6 M r hf
    refine r_iload C0 dX7_readNumber_31 6 rfl ?_
    refine r_iload_n C0 dX7_readNumber_33 rfl 1 rfl ?_
    refine r_icmp_ge C0 134 dX7_readNumber_34 (by decide) hf (fun hf => ?_) (fun hf => ?_)
    · refine r_iload C0 dX7_readNumber_134 5 rfl ?_
      obtain rfl := Option.some.inj hf
      exact r_iret C0 dX7_readNumber_136
    · refine r_aload_n C0 dX7_readNumber_37 rfl 0 rfl ?_
      refine r_getI C0 (C := RX7) (T := TX7) cl_X7 (K_X7_o hk_p0) (k := 3) (by decide) qw_289 rfl dX7_readNumber_38 ?_
      refine r_if_eq C0 134 dX7_readNumber_41 (by decide) hf (fun hf => ?_) (fun hf => ?_)
      · refine r_iload C0 dX7_readNumber_134 5 rfl ?_
        obtain rfl := Option.some.inj hf
        exact r_iret C0 dX7_readNumber_136
      · refine r_aload_n C0 dX7_readNumber_44 rfl 0 rfl ?_
        refine r_callVi C0 (st := []) [] p0 hf vs_58 (fun hl r1 hr1 => c_X7_nextDigit hl F p0 hk_p0 M r1 hr1) (K_X7_o hk_p0) rfl rfl rfl rfl (Nat.le_of_ble_eq_true rfl) dX7_readNumber_45 (zrm_ok rfl) (fun r1 hr1 hf => ?_)
        refine r_istore (L' := [(7, .int r1), (0, .ref p0), (1, .int p1), (2, .int p2), (3, .int p3), (4, .int v4), (5, .int v5), (6, .int v6)]) C0 dX7_readNumber_48 (by decide) rfl ?_
        refine r_iload C0 dX7_readNumber_50 5 rfl ?_
        refine r_bipush (v := 10) C0 dX7_readNumber_52 (by decide) ?_
        refine r_idiv' C0 dX7_readNumber_54 (by decide) ?_
        refine r_nm hf (fun x2 hf => ?_)
        refine r_istore (L' := [(4, .int x2), (7, .int r1), (0, .ref p0), (1, .int p1), (2, .int p2), (3, .int p3), (5, .int v5), (6, .int v6)]) C0 dX7_readNumber_55 (by decide) rfl ?_
        refine r_iload C0 dX7_readNumber_57 6 rfl ?_
        refine r_bipush (v := 10) C0 dX7_readNumber_59 (by decide) ?_
        refine r_imul C0 dX7_readNumber_61 ?_
        refine r_iload C0 dX7_readNumber_62 1 rfl ?_
        refine r_iadd C0 dX7_readNumber_64 ?_
        refine r_iload C0 dX7_readNumber_65 0 rfl ?_
        refine r_imul C0 dX7_readNumber_67 ?_
        refine r_nm hf (fun x3 hf => ?_)
        refine r_istore (L' := [(8, .int x3), (4, .int x2), (7, .int r1), (0, .ref p0), (1, .int p1), (2, .int p2), (3, .int p3), (5, .int v5), (6, .int v6)]) C0 dX7_readNumber_68 (by decide) rfl ?_
        refine r_aload_n C0 dX7_readNumber_70 rfl 3 rfl ?_
        refine r_iload C0 dX7_readNumber_71 2 rfl ?_
        refine r_if_lt C0 97 dX7_readNumber_73 (by decide) hf (fun hf => ?_) (fun hf => ?_)
        · refine r_iconst (v := 0) C0 dX7_readNumber_97 (by decide) ?_
          refine r_sub (L' := [(0, .ref p0), (1, .int p1), (2, .int p2), (3, .int p3), (4, .int x2), (5, .int v5), (6, .int v6), (7, .int r1)]) [3, 4, 5, 6, 1, 7, 8, 2] rfl ?_
          exact g_X7_readNumber_98 C0 F p0 p1 p2 p3 (f_X7_readNumber_31 F p0 p1 p2 p3 n) hk_p0 ih x2 v5 v6 r1 (0 : Int32) M _  hf
        · refine r_iload C0 dX7_readNumber_76 0 rfl ?_
          refine r_iload_n C0 dX7_readNumber_78 rfl 6 rfl ?_
          refine r_icmp_gt C0 97 dX7_readNumber_79 (by decide) hf (fun hf => ?_) (fun hf => ?_)
          · refine r_iconst (v := 0) C0 dX7_readNumber_97 (by decide) ?_
            refine r_sub (L' := [(0, .ref p0), (1, .int p1), (2, .int p2), (3, .int p3), (4, .int x2), (5, .int v5), (6, .int v6), (7, .int r1)]) [3, 4, 5, 6, 1, 7, 8, 2] rfl ?_
            exact g_X7_readNumber_98 C0 F p0 p1 p2 p3 (f_X7_readNumber_31 F p0 p1 p2 p3 n) hk_p0 ih x2 v5 v6 r1 (0 : Int32) M _  hf
          · refine r_iload C0 dX7_readNumber_82 0 rfl ?_
            refine r_iload C0 dX7_readNumber_84 1 rfl ?_
            refine r_iadd C0 dX7_readNumber_86 ?_
            refine r_iconst (v := 1) C0 dX7_readNumber_87 (by decide) ?_
            refine r_isub C0 dX7_readNumber_88 ?_
            refine r_iload_n C0 dX7_readNumber_89 rfl 5 rfl ?_
            refine r_icmp_lt C0 97 dX7_readNumber_90 (by decide) hf (fun hf => ?_) (fun hf => ?_)
            · refine r_iconst (v := 0) C0 dX7_readNumber_97 (by decide) ?_
              refine r_sub (L' := [(0, .ref p0), (1, .int p1), (2, .int p2), (3, .int p3), (4, .int x2), (5, .int v5), (6, .int v6), (7, .int r1)]) [3, 4, 5, 6, 1, 7, 8, 2] rfl ?_
              exact g_X7_readNumber_98 C0 F p0 p1 p2 p3 (f_X7_readNumber_31 F p0 p1 p2 p3 n) hk_p0 ih x2 v5 v6 r1 (0 : Int32) M _  hf
            · refine r_iconst (v := 1) C0 dX7_readNumber_93 (by decide) ?_
              refine r_goto C0 98 dX7_readNumber_94 (by decide) ?_
              refine r_sub (L' := [(0, .ref p0), (1, .int p1), (2, .int p2), (3, .int p3), (4, .int x2), (5, .int v5), (6, .int v6), (7, .int r1)]) [3, 4, 5, 6, 1, 7, 8, 2] rfl ?_
              exact g_X7_readNumber_98 C0 F p0 p1 p2 p3 (f_X7_readNumber_31 F p0 p1 p2 p3 n) hk_p0 ih x2 v5 v6 r1 (1 : Int32) M _  hf
set_option maxHeartbeats 4000000 in
set_option maxRecDepth 100000 in
theorem g_X7_readNumber_6 {Γ : zCx} {E : zEn} {S : zSk} {X : zMl} {Z : Nat → Prop} (C0 : zCt Γ E RX7 cX7_readNumber 9 (Option.some Jvm.ClassFile.FieldType.int) [] { frames := 1, cells := 0, slots := 0, locals := 21 }) (F : Nat) (p0 : Nat) (p1 : Int32) (p2 : Int32) (p3 : Int32) (hk_p0 : K_X7 S p0) : ∀ (n : Nat) (v4 : Int32) (v5 : Int32) (M : zMi) (r : Int32 × zMi) , f_X7_readNumber_6 F p0 p1 p2 p3 n v4 v5 M = some r → zG Γ (zQ Γ E 0 0 S Z (some (.int r.1)) r.2 X) E 9 0 0 S Z M X 6 [(0, .ref p0), (1, .int p1), (2, .int p2), (3, .int p3), (4, .int v4), (5, .int v5)] [] := by
  intro n
  induction n with
  | zero => intro v4 v5 M r; intro hf; cases hf
  | succ n ih =>
    intro v4 v5 M r hf
    refine r_iload C0 dX7_readNumber_6 5 rfl ?_
    refine r_iload_n C0 dX7_readNumber_8 rfl 1 rfl ?_
    refine r_icmp_ge C0 25 dX7_readNumber_9 (by decide) hf (fun hf => ?_) (fun hf => ?_)
    · refine r_iconst (v := 0) C0 dX7_readNumber_25 (by decide) ?_
      refine r_istore (L' := [(5, .int (0 : Int32)), (0, .ref p0), (1, .int p1), (2, .int p2), (3, .int p3), (4, .int v4)]) C0 dX7_readNumber_26 (by decide) rfl ?_
      refine r_iconst (v := 0) C0 dX7_readNumber_28 (by decide) ?_
      refine r_istore (L' := [(6, .int (0 : Int32)), (5, .int (0 : Int32)), (0, .ref p0), (1, .int p1), (2, .int p2), (3, .int p3), (4, .int v4)]) C0 dX7_readNumber_29 (by decide) rfl ?_
      refine r_sub (L' := [(0, .ref p0), (1, .int p1), (2, .int p2), (3, .int p3), (4, .int v4), (5, .int (0 : Int32)), (6, .int (0 : Int32))]) [2, 3, 4, 5, 6, 1, 0] rfl ?_
      exact g_X7_readNumber_31 C0 F p0 p1 p2 p3 hk_p0 F v4 (0 : Int32) (0 : Int32) M _  hf
    · refine r_iload C0 dX7_readNumber_12 4 rfl ?_
      refine r_bipush (v := 10) C0 dX7_readNumber_14 (by decide) ?_
      refine r_imul C0 dX7_readNumber_16 ?_
      refine r_nm hf (fun x1 hf => ?_)
      refine r_istore (L' := [(4, .int x1), (0, .ref p0), (1, .int p1), (2, .int p2), (3, .int p3), (5, .int v5)]) C0 dX7_readNumber_17 (by decide) rfl ?_
      refine r_iinc (j := 5) (v := (v5 + (1 : Int32))) (L' := [(5, .int (v5 + (1 : Int32))), (4, .int x1), (0, .ref p0), (1, .int p1), (2, .int p2), (3, .int p3)]) C0 dX7_readNumber_19 rfl rfl (by decide) rfl ?_
      refine r_goto C0 6 dX7_readNumber_22 (by decide) ?_
      refine r_sub (L' := [(0, .ref p0), (1, .int p1), (2, .int p2), (3, .int p3), (4, .int x1), (5, .int (v5 + (1 : Int32)))]) [2, 3, 4, 5, 1, 0] rfl ?_
      exact ih x1 (v5 + (1 : Int32)) M _  hf
set_option maxHeartbeats 4000000 in
set_option maxRecDepth 100000 in
theorem c_X7_readNumber {l : Launch} {E : zEn} {S : zSk} {X : zMl} {Z : Nat → Prop} (hl : l.stackTraces = false) (F : Nat) (p0 : Nat) (p1 : Int32) (p2 : Int32) (p3 : Int32) (hk_p0 : K_X7 S p0) (M : zMi) (r : Int32 × zMi) (hf : f_X7_readNumber F p0 p1 p2 p3 M = some r) : zM l E yX7_readNumber cX7_readNumber 9 (Option.some Jvm.ClassFile.FieldType.int) { frames := 1, cells := 0, slots := 0, locals := 21 } 0 0 [.ref p0, .int p1, .int p2, .int p3] S Z M X S Z (some (.int r.1)) r.2 X := by
  refine zM.intro (L0 := [(0, .ref p0), (1, .int p1), (2, .int p2), (3, .int p3)]) hl (by decide) (Nat.le_of_ble_eq_true rfl) rfl (fun Γ C0 _ => ?_)
  unfold f_X7_readNumber at hf
  refine r_iconst (v := 1) C0 dX7_readNumber_0 (by decide) ?_
  refine r_istore (L' := [(4, .int (1 : Int32)), (0, .ref p0), (1, .int p1), (2, .int p2), (3, .int p3)]) C0 dX7_readNumber_1 (by decide) rfl ?_
  refine r_iconst (v := 0) C0 dX7_readNumber_3 (by decide) ?_
  refine r_istore (L' := [(5, .int (0 : Int32)), (4, .int (1 : Int32)), (0, .ref p0), (1, .int p1), (2, .int p2), (3, .int p3)]) C0 dX7_readNumber_4 (by decide) rfl ?_
  refine r_sub (L' := [(0, .ref p0), (1, .int p1), (2, .int p2), (3, .int p3), (4, .int (1 : Int32)), (5, .int (0 : Int32))]) [2, 3, 4, 5, 1, 0] rfl ?_
  exact g_X7_readNumber_6 C0 F p0 p1 p2 p3 hk_p0 F (1 : Int32) (0 : Int32) M _  hf
set_option maxHeartbeats 4000000 in
set_option maxRecDepth 100000 in
theorem c_X7_readHead {l : Launch} {E : zEn} {S : zSk} {X : zMl} {Z : Nat → Prop} (hl : l.stackTraces = false) (F : Nat) (p0 : Nat) (p1 : Nat) (hk_p0 : K_X7 S p0) (hk_p1 : K_X5 S p1) (M : zMi) (r : zMi) (hf : f_X7_readHead F p0 p1 M = some r) : zM l E yX7_readHead cX7_readHead 4 (Option.none : Option Jvm.ClassFile.FieldType) { frames := 2, cells := 0, slots := 0, locals := 51 } 0 0 [.ref p0, .ref p1] S Z M X S Z none r X := by
  refine zM.intro (L0 := [(0, .ref p0), (1, .ref p1)]) hl (by decide) (Nat.le_of_ble_eq_true rfl) rfl (fun Γ C0 _ => ?_)
  unfold f_X7_readHead at hf
  refine r_aload_n C0 dX7_readHead_0 rfl 0 rfl ?_
  refine r_bipush (v := 67) C0 dX7_readHead_1 (by decide) ?_
  refine r_callVm C0 (st := []) [.int (67 : Int32)] p0 hf vs_59 (fun hl r1 hr1 => c_X7_readLetter hl F p0 (67 : Int32) hk_p0 M r1 hr1) (K_X7_o hk_p0) rfl rfl rfl rfl (Nat.le_of_ble_eq_true rfl) dX7_readHead_3 (zrm_ok rfl) (fun r1 hr1 hf => ?_)
  refine r_aload_n C0 dX7_readHead_6 rfl 0 rfl ?_
  refine r_iconst (v := 1) C0 dX7_readHead_7 (by decide) ?_
  refine r_iconst (v := 1) C0 dX7_readHead_8 (by decide) ?_
  refine r_iconst (v := 3) C0 dX7_readHead_9 (by decide) ?_
  refine r_callVim C0 (st := []) [.int (1 : Int32), .int (1 : Int32), .int (3 : Int32)] p0 hf vs_60 (fun hl r2 hr2 => c_X7_readNumber hl F p0 (1 : Int32) (1 : Int32) (3 : Int32) hk_p0 r1 r2 hr2) (K_X7_o hk_p0) rfl rfl rfl rfl (Nat.le_of_ble_eq_true rfl) dX7_readHead_10 (zrm_ok rfl) (fun r2 hr2 hf => ?_)
  refine r_istore_n (L' := [(2, .int r2.1), (0, .ref p0), (1, .ref p1)]) C0 dX7_readHead_13 rfl (by decide) rfl ?_
  refine r_aload_n C0 dX7_readHead_14 rfl 1 rfl ?_
  refine r_iconst (v := 1) C0 dX7_readHead_15 (by decide) ?_
  refine r_iconst (v := 1) C0 dX7_readHead_16 (by decide) ?_
  refine r_iconst (v := 3) C0 dX7_readHead_17 (by decide) ?_
  refine r_callVim C0 (st := []) [.int (1 : Int32), .int (1 : Int32), .int (3 : Int32)] p0 hf vs_60 (fun hl r3 hr3 => c_X7_readNumber hl F p0 (1 : Int32) (1 : Int32) (3 : Int32) hk_p0 r2.2 r3 hr3) (K_X7_o hk_p0) rfl rfl rfl rfl (Nat.le_of_ble_eq_true rfl) dX7_readHead_18 (zrm_ok rfl) (fun r3 hr3 hf => ?_)
  refine r_istore_n (L' := [(3, .int r3.1), (2, .int r2.1), (0, .ref p0), (1, .ref p1)]) C0 dX7_readHead_21 rfl (by decide) rfl ?_
  refine r_aload_n C0 dX7_readHead_22 rfl 3 rfl ?_
  refine r_iload_n C0 dX7_readHead_23 rfl 1 rfl ?_
  refine r_iload_n C0 dX7_readHead_24 rfl 0 rfl ?_
  refine r_aload_n C0 dX7_readHead_25 rfl 2 rfl ?_
  refine r_iconst (v := 4) C0 dX7_readHead_26 (by decide) ?_
  refine r_iconst (v := 0) C0 dX7_readHead_27 (by decide) ?_
  refine r_sipush (v := 9999) C0 dX7_readHead_28 (by decide) ?_
  refine r_callVim C0 (st := [.int r3.1, .int r2.1, .ref p1]) [.int (4 : Int32), .int (0 : Int32), .int (9999 : Int32)] p0 hf vs_60 (fun hl r4 hr4 => c_X7_readNumber hl F p0 (4 : Int32) (0 : Int32) (9999 : Int32) hk_p0 r3.2 r4 hr4) (K_X7_o hk_p0) rfl rfl rfl rfl (Nat.le_of_ble_eq_true rfl) dX7_readHead_31 (zrm_ok rfl) (fun r4 hr4 hf => ?_)
  refine r_callVm C0 (st := []) [.int r2.1, .int r3.1, .int r4.1] p1 hf vs_61 (fun hl r5 hr5 => c_X5_begin hl F p1 r2.1 r3.1 r4.1 hk_p1 r4.2 r5 hr5) (K_X5_o hk_p1) rfl rfl rfl rfl (Nat.le_of_ble_eq_true rfl) dX7_readHead_34 (zrm_ok rfl) (fun r5 hr5 hf => ?_)
  obtain rfl := Option.some.inj hf
  exact r_vret C0 dX7_readHead_37
set_option maxHeartbeats 4000000 in
set_option maxRecDepth 100000 in
theorem c_X7_readZone {l : Launch} {E : zEn} {S : zSk} {X : zMl} {Z : Nat → Prop} (hl : l.stackTraces = false) (F : Nat) (p0 : Nat) (p1 : Nat) (hk_p0 : K_X7 S p0) (hk_p1 : K_X5 S p1) (M : zMi) (r : zMi) (hf : f_X7_readZone F p0 p1 M = some r) : zM l E yX7_readZone cX7_readZone 5 (Option.none : Option Jvm.ClassFile.FieldType) { frames := 2, cells := 0, slots := 0, locals := 49 } 0 0 [.ref p0, .ref p1] S Z M X S Z none r X := by
  refine zM.intro (L0 := [(0, .ref p0), (1, .ref p1)]) hl (by decide) (Nat.le_of_ble_eq_true rfl) rfl (fun Γ C0 _ => ?_)
  unfold f_X7_readZone at hf
  refine r_aload_n C0 dX7_readZone_0 rfl 0 rfl ?_
  refine r_bipush (v := 122) C0 dX7_readZone_1 (by decide) ?_
  refine r_callVm C0 (st := []) [.int (122 : Int32)] p0 hf vs_59 (fun hl r1 hr1 => c_X7_readLetter hl F p0 (122 : Int32) hk_p0 M r1 hr1) (K_X7_o hk_p0) rfl rfl rfl rfl (Nat.le_of_ble_eq_true rfl) dX7_readZone_3 (zrm_ok rfl) (fun r1 hr1 hf => ?_)
  refine r_aload_n C0 dX7_readZone_6 rfl 0 rfl ?_
  refine r_iconst (v := 2) C0 dX7_readZone_7 (by decide) ?_
  refine r_iconst (v := 1) C0 dX7_readZone_8 (by decide) ?_
  refine r_bipush (v := 99) C0 dX7_readZone_9 (by decide) ?_
  refine r_callVim C0 (st := []) [.int (2 : Int32), .int (1 : Int32), .int (99 : Int32)] p0 hf vs_60 (fun hl r2 hr2 => c_X7_readNumber hl F p0 (2 : Int32) (1 : Int32) (99 : Int32) hk_p0 r1 r2 hr2) (K_X7_o hk_p0) rfl rfl rfl rfl (Nat.le_of_ble_eq_true rfl) dX7_readZone_11 (zrm_ok rfl) (fun r2 hr2 hf => ?_)
  refine r_istore_n (L' := [(2, .int r2.1), (0, .ref p0), (1, .ref p1)]) C0 dX7_readZone_14 rfl (by decide) rfl ?_
  refine r_aload_n C0 dX7_readZone_15 rfl 1 rfl ?_
  refine r_iconst (v := 2) C0 dX7_readZone_16 (by decide) ?_
  refine r_iconst (v := 0) C0 dX7_readZone_17 (by decide) ?_
  refine r_bipush (v := 99) C0 dX7_readZone_18 (by decide) ?_
  refine r_callVim C0 (st := []) [.int (2 : Int32), .int (0 : Int32), .int (99 : Int32)] p0 hf vs_60 (fun hl r3 hr3 => c_X7_readNumber hl F p0 (2 : Int32) (0 : Int32) (99 : Int32) hk_p0 r2.2 r3 hr3) (K_X7_o hk_p0) rfl rfl rfl rfl (Nat.le_of_ble_eq_true rfl) dX7_readZone_20 (zrm_ok rfl) (fun r3 hr3 hf => ?_)
  refine r_istore_n (L' := [(3, .int r3.1), (2, .int r2.1), (0, .ref p0), (1, .ref p1)]) C0 dX7_readZone_23 rfl (by decide) rfl ?_
  refine r_aload_n C0 dX7_readZone_24 rfl 2 rfl ?_
  refine r_iconst (v := 2) C0 dX7_readZone_25 (by decide) ?_
  refine r_iload_n C0 dX7_readZone_26 rfl 0 rfl ?_
  refine r_bipush (v := 99) C0 dX7_readZone_27 (by decide) ?_
  refine r_callVim C0 (st := []) [.int (2 : Int32), .int r3.1, .int (99 : Int32)] p0 hf vs_60 (fun hl r4 hr4 => c_X7_readNumber hl F p0 (2 : Int32) r3.1 (99 : Int32) hk_p0 r3.2 r4 hr4) (K_X7_o hk_p0) rfl rfl rfl rfl (Nat.le_of_ble_eq_true rfl) dX7_readZone_29 (zrm_ok rfl) (fun r4 hr4 hf => ?_)
  refine r_istore (L' := [(4, .int r4.1), (3, .int r3.1), (2, .int r2.1), (0, .ref p0), (1, .ref p1)]) C0 dX7_readZone_32 (by decide) rfl ?_
  refine r_aload_n C0 dX7_readZone_34 rfl 4 rfl ?_
  refine r_iload_n C0 dX7_readZone_35 rfl 2 rfl ?_
  refine r_iload_n C0 dX7_readZone_36 rfl 1 rfl ?_
  refine r_iload C0 dX7_readZone_37 0 rfl ?_
  refine r_aload_n C0 dX7_readZone_39 rfl 3 rfl ?_
  refine r_iconst (v := 1) C0 dX7_readZone_40 (by decide) ?_
  refine r_iconst (v := 0) C0 dX7_readZone_41 (by decide) ?_
  refine r_bipush (v := 9) C0 dX7_readZone_42 (by decide) ?_
  refine r_callVim C0 (st := [.int r4.1, .int r3.1, .int r2.1, .ref p1]) [.int (1 : Int32), .int (0 : Int32), .int (9 : Int32)] p0 hf vs_60 (fun hl r5 hr5 => c_X7_readNumber hl F p0 (1 : Int32) (0 : Int32) (9 : Int32) hk_p0 r4.2 r5 hr5) (K_X7_o hk_p0) rfl rfl rfl rfl (Nat.le_of_ble_eq_true rfl) dX7_readZone_44 (zrm_ok rfl) (fun r5 hr5 hf => ?_)
  refine r_callVm C0 (st := []) [.int r2.1, .int r3.1, .int r4.1, .int r5.1] p1 hf vs_62 (fun hl r6 hr6 => c_X5_addZone hl F p1 r2.1 r3.1 r4.1 r5.1 hk_p1 r5.2 r6 hr6) (K_X5_o hk_p1) rfl rfl rfl rfl (Nat.le_of_ble_eq_true rfl) dX7_readZone_47 (zrm_ok rfl) (fun r6 hr6 hf => ?_)
  obtain rfl := Option.some.inj hf
  exact r_vret C0 dX7_readZone_50
set_option maxHeartbeats 4000000 in
set_option maxRecDepth 100000 in
theorem c_X7_readShip {l : Launch} {E : zEn} {S : zSk} {X : zMl} {Z : Nat → Prop} (hl : l.stackTraces = false) (F : Nat) (p0 : Nat) (p1 : Nat) (hk_p0 : K_X7 S p0) (hk_p1 : K_X5 S p1) (M : zMi) (r : zMi) (hf : f_X7_readShip F p0 p1 M = some r) : zM l E yX7_readShip cX7_readShip 5 (Option.none : Option Jvm.ClassFile.FieldType) { frames := 2, cells := 0, slots := 0, locals := 49 } 0 0 [.ref p0, .ref p1] S Z M X S Z none r X := by
  refine zM.intro (L0 := [(0, .ref p0), (1, .ref p1)]) hl (by decide) (Nat.le_of_ble_eq_true rfl) rfl (fun Γ C0 _ => ?_)
  unfold f_X7_readShip at hf
  refine r_aload_n C0 dX7_readShip_0 rfl 0 rfl ?_
  refine r_bipush (v := 115) C0 dX7_readShip_1 (by decide) ?_
  refine r_callVm C0 (st := []) [.int (115 : Int32)] p0 hf vs_59 (fun hl r1 hr1 => c_X7_readLetter hl F p0 (115 : Int32) hk_p0 M r1 hr1) (K_X7_o hk_p0) rfl rfl rfl rfl (Nat.le_of_ble_eq_true rfl) dX7_readShip_3 (zrm_ok rfl) (fun r1 hr1 hf => ?_)
  refine r_aload_n C0 dX7_readShip_6 rfl 0 rfl ?_
  refine r_iconst (v := 3) C0 dX7_readShip_7 (by decide) ?_
  refine r_bipush (v := 10) C0 dX7_readShip_8 (by decide) ?_
  refine r_sipush (v := 999) C0 dX7_readShip_10 (by decide) ?_
  refine r_callVim C0 (st := []) [.int (3 : Int32), .int (10 : Int32), .int (999 : Int32)] p0 hf vs_60 (fun hl r2 hr2 => c_X7_readNumber hl F p0 (3 : Int32) (10 : Int32) (999 : Int32) hk_p0 r1 r2 hr2) (K_X7_o hk_p0) rfl rfl rfl rfl (Nat.le_of_ble_eq_true rfl) dX7_readShip_13 (zrm_ok rfl) (fun r2 hr2 hf => ?_)
  refine r_istore_n (L' := [(2, .int r2.1), (0, .ref p0), (1, .ref p1)]) C0 dX7_readShip_16 rfl (by decide) rfl ?_
  refine r_aload_n C0 dX7_readShip_17 rfl 1 rfl ?_
  refine r_iconst (v := 2) C0 dX7_readShip_18 (by decide) ?_
  refine r_iconst (v := 1) C0 dX7_readShip_19 (by decide) ?_
  refine r_bipush (v := 20) C0 dX7_readShip_20 (by decide) ?_
  refine r_callVim C0 (st := []) [.int (2 : Int32), .int (1 : Int32), .int (20 : Int32)] p0 hf vs_60 (fun hl r3 hr3 => c_X7_readNumber hl F p0 (2 : Int32) (1 : Int32) (20 : Int32) hk_p0 r2.2 r3 hr3) (K_X7_o hk_p0) rfl rfl rfl rfl (Nat.le_of_ble_eq_true rfl) dX7_readShip_22 (zrm_ok rfl) (fun r3 hr3 hf => ?_)
  refine r_istore_n (L' := [(3, .int r3.1), (2, .int r2.1), (0, .ref p0), (1, .ref p1)]) C0 dX7_readShip_25 rfl (by decide) rfl ?_
  refine r_aload_n C0 dX7_readShip_26 rfl 2 rfl ?_
  refine r_iconst (v := 1) C0 dX7_readShip_27 (by decide) ?_
  refine r_iconst (v := 1) C0 dX7_readShip_28 (by decide) ?_
  refine r_bipush (v := 9) C0 dX7_readShip_29 (by decide) ?_
  refine r_callVim C0 (st := []) [.int (1 : Int32), .int (1 : Int32), .int (9 : Int32)] p0 hf vs_60 (fun hl r4 hr4 => c_X7_readNumber hl F p0 (1 : Int32) (1 : Int32) (9 : Int32) hk_p0 r3.2 r4 hr4) (K_X7_o hk_p0) rfl rfl rfl rfl (Nat.le_of_ble_eq_true rfl) dX7_readShip_31 (zrm_ok rfl) (fun r4 hr4 hf => ?_)
  refine r_istore (L' := [(4, .int r4.1), (3, .int r3.1), (2, .int r2.1), (0, .ref p0), (1, .ref p1)]) C0 dX7_readShip_34 (by decide) rfl ?_
  refine r_aload_n C0 dX7_readShip_36 rfl 4 rfl ?_
  refine r_iload_n C0 dX7_readShip_37 rfl 2 rfl ?_
  refine r_iload_n C0 dX7_readShip_38 rfl 1 rfl ?_
  refine r_iload C0 dX7_readShip_39 0 rfl ?_
  refine r_aload_n C0 dX7_readShip_41 rfl 3 rfl ?_
  refine r_iconst (v := 2) C0 dX7_readShip_42 (by decide) ?_
  refine r_iconst (v := 1) C0 dX7_readShip_43 (by decide) ?_
  refine r_bipush (v := 99) C0 dX7_readShip_44 (by decide) ?_
  refine r_callVim C0 (st := [.int r4.1, .int r3.1, .int r2.1, .ref p1]) [.int (2 : Int32), .int (1 : Int32), .int (99 : Int32)] p0 hf vs_60 (fun hl r5 hr5 => c_X7_readNumber hl F p0 (2 : Int32) (1 : Int32) (99 : Int32) hk_p0 r4.2 r5 hr5) (K_X7_o hk_p0) rfl rfl rfl rfl (Nat.le_of_ble_eq_true rfl) dX7_readShip_46 (zrm_ok rfl) (fun r5 hr5 hf => ?_)
  refine r_callVm C0 (st := []) [.int r2.1, .int r3.1, .int r4.1, .int r5.1] p1 hf vs_63 (fun hl r6 hr6 => c_X5_addShip hl F p1 r2.1 r3.1 r4.1 r5.1 hk_p1 r5.2 r6 hr6) (K_X5_o hk_p1) rfl rfl rfl rfl (Nat.le_of_ble_eq_true rfl) dX7_readShip_49 (zrm_ok rfl) (fun r6 hr6 hf => ?_)
  obtain rfl := Option.some.inj hf
  exact r_vret C0 dX7_readShip_52
set_option maxHeartbeats 4000000 in
set_option maxRecDepth 100000 in
theorem c_X8_add {l : Launch} {E : zEn} {S : zSk} {X : zMl} {Z : Nat → Prop} (hl : l.stackTraces = false) (F : Nat) (p0 : Nat) (p1 : Int32) (hk_p0 : K_X8 S p0) (M : zMi) (r : zMi) (hf : f_X8_add F p0 p1 M = some r) : zM l E yX8_add cX8_add 2 (Option.none : Option Jvm.ClassFile.FieldType) { frames := 0, cells := 0, slots := 0, locals := 0 } 0 0 [.ref p0, .int p1] S Z M X S Z none r X := by
  refine zM.intro (L0 := [(0, .ref p0), (1, .int p1)]) hl (by decide) (Nat.le_of_ble_eq_true rfl) rfl (fun Γ C0 _ => ?_)
  unfold f_X8_add at hf
  refine r_aload_n C0 dX8_add_0 rfl 0 rfl ?_
  refine r_getI C0 (C := RX8) (T := TX8) cl_X8 (K_X8_o hk_p0) (k := 0) (by decide) qw_16 rfl dX8_add_1 ?_
  refine r_if_lt C0 39 dX8_add_4 (by decide) hf (fun hf => ?_) (fun hf => ?_)
  · obtain rfl := Option.some.inj hf
    exact r_vret C0 dX8_add_39
  · refine r_aload_n C0 dX8_add_7 rfl 0 rfl ?_
    refine r_getI C0 (C := RX8) (T := TX8) cl_X8 (K_X8_o hk_p0) (k := 0) (by decide) qw_16 rfl dX8_add_8 ?_
    refine r_aload_n C0 dX8_add_11 rfl 0 rfl ?_
    refine r_getR C0 (C := RX8) (T := TX8) cl_X8 (K_X8_o hk_p0) (k := 1) (by decide) qw_15 rfl (K_X8_row_r hk_p0) dX8_add_12 ?_
    refine r_alen (v := 30) C0 (K_X8_row_k hk_p0) (by decide) rfl dX8_add_15 ?_
    refine r_icmp_ge C0 39 dX8_add_16 (by decide) hf (fun hf => ?_) (fun hf => ?_)
    · obtain rfl := Option.some.inj hf
      exact r_vret C0 dX8_add_39
    · refine r_aload_n C0 dX8_add_19 rfl 0 rfl ?_
      refine r_getR C0 (C := RX8) (T := TX8) cl_X8 (K_X8_o hk_p0) (k := 1) (by decide) qw_15 rfl (K_X8_row_r hk_p0) dX8_add_20 ?_
      refine r_aload_n C0 dX8_add_23 rfl 0 rfl ?_
      refine r_getI C0 (C := RX8) (T := TX8) cl_X8 (K_X8_o hk_p0) (k := 0) (by decide) qw_16 rfl dX8_add_24 ?_
      refine r_iload_n C0 dX8_add_27 rfl 1 rfl ?_
      refine r_iast C0 (K_X8_row_k hk_p0) hf dX8_add_28 (fun M1 hf => ?_)
      refine r_aload_n C0 dX8_add_29 rfl 0 rfl ?_
      refine r_dup C0 dX8_add_30 rfl ?_
      refine r_getI C0 (C := RX8) (T := TX8) cl_X8 (K_X8_o hk_p0) (k := 0) (by decide) qw_16 rfl dX8_add_31 ?_
      refine r_iconst (v := 1) C0 dX8_add_34 (by decide) ?_
      refine r_iadd C0 dX8_add_35 ?_
      refine r_putI C0 (C := RX8) (T := TX8) cl_X8 (K_X8_o hk_p0) (k := 0) (by decide) qw_16 rfl rfl rfl rfl hf dX8_add_36 (fun M2 hf => ?_)
      obtain rfl := Option.some.inj hf
      exact r_vret C0 dX8_add_39
set_option maxHeartbeats 4000000 in
set_option maxRecDepth 100000 in
theorem g_X7_readWeather_57 {Γ : zCx} {E : zEn} {S : zSk} {X : zMl} {Z : Nat → Prop} (C0 : zCt Γ E RX7 cX7_readWeather 3 (Option.none : Option Jvm.ClassFile.FieldType) [] { frames := 2, cells := 0, slots := 0, locals := 49 }) (F : Nat) (p0 : Nat) (p1 : Nat) (hk_p0 : K_X7 S p0) (hk_p1 : K_X5 S p1)  (M : zMi) (r : zMi)  (hf : f_X7_readWeather_57 F p0 p1  M = some r) : zG Γ (zQ Γ E 0 0 S Z none r X) E 3 0 0 S Z M X 57 [(0, .ref p0)] [] := by
  unfold f_X7_readWeather_57 at hf
  refine r_aload_n C0 dX7_readWeather_57 rfl 0 rfl ?_
  refine r_aload_n C0 dX7_readWeather_58 rfl 0 rfl ?_
  refine r_getI C0 (C := RX7) (T := TX7) cl_X7 (K_X7_o hk_p0) (k := 3) (by decide) qw_289 rfl dX7_readWeather_59 ?_
  refine r_if_eq C0 80 dX7_readWeather_62 (by decide) hf (fun hf => ?_) (fun hf => ?_)
  · refine r_iconst (v := 0) C0 dX7_readWeather_80 (by decide) ?_
    refine r_putI C0 (C := RX7) (T := TX7) cl_X7 (K_X7_o hk_p0) (k := 3) (by decide) qw_289 rfl rfl rfl rfl hf dX7_readWeather_81 (fun M1 hf => ?_)
    obtain rfl := Option.some.inj hf
    exact r_vret C0 dX7_readWeather_84
  · refine r_aload_n C0 dX7_readWeather_65 rfl 0 rfl ?_
    refine r_getI C0 (C := RX7) (T := TX7) cl_X7 (K_X7_o hk_p0) (k := 2) (by decide) qw_288 rfl dX7_readWeather_66 ?_
    refine r_aload_n C0 dX7_readWeather_69 rfl 0 rfl ?_
    refine r_getI C0 (C := RX7) (T := TX7) cl_X7 (K_X7_o hk_p0) (k := 1) (by decide) qw_281 rfl dX7_readWeather_70 ?_
    refine r_icmp_ne C0 80 dX7_readWeather_73 (by decide) hf (fun hf => ?_) (fun hf => ?_)
    · refine r_iconst (v := 0) C0 dX7_readWeather_80 (by decide) ?_
      refine r_putI C0 (C := RX7) (T := TX7) cl_X7 (K_X7_o hk_p0) (k := 3) (by decide) qw_289 rfl rfl rfl rfl hf dX7_readWeather_81 (fun M2 hf => ?_)
      obtain rfl := Option.some.inj hf
      exact r_vret C0 dX7_readWeather_84
    · refine r_iconst (v := 1) C0 dX7_readWeather_76 (by decide) ?_
      refine r_goto C0 81 dX7_readWeather_77 (by decide) ?_
      refine r_putI C0 (C := RX7) (T := TX7) cl_X7 (K_X7_o hk_p0) (k := 3) (by decide) qw_289 rfl rfl rfl rfl hf dX7_readWeather_81 (fun M3 hf => ?_)
      obtain rfl := Option.some.inj hf
      exact r_vret C0 dX7_readWeather_84
set_option maxHeartbeats 4000000 in
set_option maxRecDepth 100000 in
theorem g_X7_readWeather_36 {Γ : zCx} {E : zEn} {S : zSk} {X : zMl} {Z : Nat → Prop} (C0 : zCt Γ E RX7 cX7_readWeather 3 (Option.none : Option Jvm.ClassFile.FieldType) [] { frames := 2, cells := 0, slots := 0, locals := 49 }) (F : Nat) (p0 : Nat) (p1 : Nat) (k_8 : Int32 → zMi → Option (zMi)) (hk_p0 : K_X7 S p0) (hk_p1 : K_X5 S p1) (hk_k_8 : ∀ (v2_ : Int32) (M : zMi) (r : zMi), k_8 v2_ M = some r → zG Γ (zQ Γ E 0 0 S Z none r X) E 3 0 0 S Z M X 8 [(0, .ref p0), (1, .ref p1), (2, .int v2_)] []) (v2 : Int32) (M : zMi) (r : zMi)  (hf : f_X7_readWeather_36 F p0 p1 k_8 v2 M = some r) : zG Γ (zQ Γ E 0 0 S Z none r X) E 3 0 0 S Z M X 36 [(0, .ref p0), (1, .ref p1), (2, .int v2)] [] := by
  unfold f_X7_readWeather_36 at hf
  refine r_aload_n C0 dX7_readWeather_36 rfl 1 rfl ?_
  refine r_getR C0 (C := RX5) (T := TX5) cl_X5 (K_X5_o hk_p1) (k := 2) (by decide) qw_318 rfl (K_X5_weather_r hk_p1) dX7_readWeather_37 ?_
  refine r_aload_n C0 dX7_readWeather_40 rfl 0 rfl ?_
  refine r_iconst (v := 1) C0 dX7_readWeather_41 (by decide) ?_
  refine r_iconst (v := 0) C0 dX7_readWeather_42 (by decide) ?_
  refine r_bipush (v := 9) C0 dX7_readWeather_43 (by decide) ?_
  refine r_callVim C0 (st := [.ref (p1 + 3)]) [.int (1 : Int32), .int (0 : Int32), .int (9 : Int32)] p0 hf vs_60 (fun hl r1 hr1 => c_X7_readNumber hl F p0 (1 : Int32) (0 : Int32) (9 : Int32) hk_p0 M r1 hr1) (K_X7_o hk_p0) rfl rfl rfl rfl (Nat.le_of_ble_eq_true rfl) dX7_readWeather_45 (zrm_ok rfl) (fun r1 hr1 hf => ?_)
  refine r_callVm C0 (st := []) [.int r1.1] (p1 + 3) hf vs_64 (fun hl r2 hr2 => c_X8_add hl F (p1 + 3) r1.1 (K_X5_weather_k hk_p1) r1.2 r2 hr2) (K_X8_o (K_X5_weather_k hk_p1)) rfl rfl rfl rfl (Nat.le_of_ble_eq_true rfl) dX7_readWeather_48 (zrm_ok rfl) (fun r2 hr2 hf => ?_)
  refine r_iinc (j := 2) (v := (v2 + (1 : Int32))) (L' := [(2, .int (v2 + (1 : Int32))), (0, .ref p0), (1, .ref p1)]) C0 dX7_readWeather_51 rfl rfl (by decide) rfl ?_
  refine r_goto C0 8 dX7_readWeather_54 (by decide) ?_
  refine r_sub (L' := [(0, .ref p0), (1, .ref p1), (2, .int (v2 + (1 : Int32)))]) [1, 2, 0] rfl ?_
  exact hk_k_8 (v2 + (1 : Int32)) r2 _  hf
set_option maxHeartbeats 4000000 in
set_option maxRecDepth 100000 in
theorem g_X7_readWeather_8 {Γ : zCx} {E : zEn} {S : zSk} {X : zMl} {Z : Nat → Prop} (C0 : zCt Γ E RX7 cX7_readWeather 3 (Option.none : Option Jvm.ClassFile.FieldType) [] { frames := 2, cells := 0, slots := 0, locals := 49 }) (F : Nat) (p0 : Nat) (p1 : Nat) (hk_p0 : K_X7 S p0) (hk_p1 : K_X5 S p1) : ∀ (n : Nat) (v2 : Int32) (M : zMi) (r : zMi) , f_X7_readWeather_8 F p0 p1 n v2 M = some r → zG Γ (zQ Γ E 0 0 S Z none r X) E 3 0 0 S Z M X 8 [(0, .ref p0), (1, .ref p1), (2, .int v2)] [] := by
  intro n
  induction n with
  | zero => intro v2 M r; intro hf; cases hf
  | succ n ih =>
    intro v2 M r hf
    refine r_aload_n C0 dX7_readWeather_8 rfl 0 rfl ?_
    refine r_getI C0 (C := RX7) (T := TX7) cl_X7 (K_X7_o hk_p0) (k := 3) (by decide) qw_289 rfl dX7_readWeather_9 ?_
    refine r_if_eq C0 57 dX7_readWeather_12 (by decide) hf (fun hf => ?_) (fun hf => ?_)
    · refine r_sub (L' := [(0, .ref p0)]) [0] rfl ?_
      exact g_X7_readWeather_57 C0 F p0 p1 hk_p0 hk_p1  M _  hf
    · refine r_iload_n C0 dX7_readWeather_15 rfl 2 rfl ?_
      refine r_bipush (v := 30) C0 dX7_readWeather_16 (by decide) ?_
      refine r_icmp_ge C0 57 dX7_readWeather_18 (by decide) hf (fun hf => ?_) (fun hf => ?_)
      · refine r_sub (L' := [(0, .ref p0)]) [0] rfl ?_
        exact g_X7_readWeather_57 C0 F p0 p1 hk_p0 hk_p1  M _  hf
      · refine r_iload_n C0 dX7_readWeather_21 rfl 2 rfl ?_
        refine r_if_eq C0 36 dX7_readWeather_22 (by decide) hf (fun hf => ?_) (fun hf => ?_)
        · refine r_sub (L' := [(0, .ref p0), (1, .ref p1), (2, .int v2)]) [0, 1, 2] rfl ?_
          exact g_X7_readWeather_36 C0 F p0 p1 (f_X7_readWeather_8 F p0 p1 n) hk_p0 hk_p1 ih v2 M _  hf
        · refine r_aload_n C0 dX7_readWeather_25 rfl 0 rfl ?_
          refine r_getI C0 (C := RX7) (T := TX7) cl_X7 (K_X7_o hk_p0) (k := 2) (by decide) qw_288 rfl dX7_readWeather_26 ?_
          refine r_aload_n C0 dX7_readWeather_29 rfl 0 rfl ?_
          refine r_getI C0 (C := RX7) (T := TX7) cl_X7 (K_X7_o hk_p0) (k := 1) (by decide) qw_281 rfl dX7_readWeather_30 ?_
          refine r_icmp_ge C0 57 dX7_readWeather_33 (by decide) hf (fun hf => ?_) (fun hf => ?_)
          · refine r_sub (L' := [(0, .ref p0)]) [0] rfl ?_
            exact g_X7_readWeather_57 C0 F p0 p1 hk_p0 hk_p1  M _  hf
          · refine r_sub (L' := [(0, .ref p0), (1, .ref p1), (2, .int v2)]) [0, 1, 2] rfl ?_
            exact g_X7_readWeather_36 C0 F p0 p1 (f_X7_readWeather_8 F p0 p1 n) hk_p0 hk_p1 ih v2 M _  hf
set_option maxHeartbeats 4000000 in
set_option maxRecDepth 100000 in
theorem c_X7_readWeather {l : Launch} {E : zEn} {S : zSk} {X : zMl} {Z : Nat → Prop} (hl : l.stackTraces = false) (F : Nat) (p0 : Nat) (p1 : Nat) (hk_p0 : K_X7 S p0) (hk_p1 : K_X5 S p1) (M : zMi) (r : zMi) (hf : f_X7_readWeather F p0 p1 M = some r) : zM l E yX7_readWeather cX7_readWeather 3 (Option.none : Option Jvm.ClassFile.FieldType) { frames := 2, cells := 0, slots := 0, locals := 49 } 0 0 [.ref p0, .ref p1] S Z M X S Z none r X := by
  refine zM.intro (L0 := [(0, .ref p0), (1, .ref p1)]) hl (by decide) (Nat.le_of_ble_eq_true rfl) rfl (fun Γ C0 _ => ?_)
  unfold f_X7_readWeather at hf
  refine r_aload_n C0 dX7_readWeather_0 rfl 0 rfl ?_
  refine r_bipush (v := 119) C0 dX7_readWeather_1 (by decide) ?_
  refine r_callVm C0 (st := []) [.int (119 : Int32)] p0 hf vs_59 (fun hl r1 hr1 => c_X7_readLetter hl F p0 (119 : Int32) hk_p0 M r1 hr1) (K_X7_o hk_p0) rfl rfl rfl rfl (Nat.le_of_ble_eq_true rfl) dX7_readWeather_3 (zrm_ok rfl) (fun r1 hr1 hf => ?_)
  refine r_iconst (v := 0) C0 dX7_readWeather_6 (by decide) ?_
  refine r_istore_n (L' := [(2, .int (0 : Int32)), (0, .ref p0), (1, .ref p1)]) C0 dX7_readWeather_7 rfl (by decide) rfl ?_
  refine r_sub (L' := [(0, .ref p0), (1, .ref p1), (2, .int (0 : Int32))]) [1, 2, 0] rfl ?_
  exact g_X7_readWeather_8 C0 F p0 p1 hk_p0 hk_p1 F (0 : Int32) r1 _  hf
set_option maxHeartbeats 4000000 in
set_option maxRecDepth 100000 in
theorem g_X7_readInto_92 {Γ : zCx} {E : zEn} {S : zSk} {X : zMl} {Z : Nat → Prop} (C0 : zCt Γ E RX7 cX7_readInto 3 (Option.some Jvm.ClassFile.FieldType.int) [] { frames := 3, cells := 0, slots := 0, locals := 74 }) (F : Nat) (p0 : Nat) (p1 : Nat) (hk_p0 : K_X7 S p0) (hk_p1 : K_X5 S p1)  (M : zMi) (r : Int32 × zMi)  (hf : f_X7_readInto_92 F p0 p1  M = some r) : zG Γ (zQ Γ E 0 0 S Z (some (.int r.1)) r.2 X) E 3 0 0 S Z M X 92 [(0, .ref p0), (1, .ref p1)] [] := by
  unfold f_X7_readInto_92 at hf
  refine r_aload_n C0 dX7_readInto_92 rfl 0 rfl ?_
  refine r_aload_n C0 dX7_readInto_93 rfl 1 rfl ?_
  refine r_callVm C0 (st := []) [.ref p1] p0 hf vs_65 (fun hl r1 hr1 => c_X7_readWeather hl F p0 p1 hk_p0 hk_p1 M r1 hr1) (K_X7_o hk_p0) rfl rfl rfl rfl (Nat.le_of_ble_eq_true rfl) dX7_readInto_94 (zrm_ok rfl) (fun r1 hr1 hf => ?_)
  refine r_aload_n C0 dX7_readInto_97 rfl 0 rfl ?_
  refine r_getI C0 (C := RX7) (T := TX7) cl_X7 (K_X7_o hk_p0) (k := 3) (by decide) qw_289 rfl dX7_readInto_98 ?_
  refine r_if_eq C0 109 dX7_readInto_101 (by decide) hf (fun hf => ?_) (fun hf => ?_)
  · refine r_aload_n C0 dX7_readInto_109 rfl 0 rfl ?_
    refine r_getI C0 (C := RX7) (T := TX7) cl_X7 (K_X7_o hk_p0) (k := 2) (by decide) qw_288 rfl dX7_readInto_110 ?_
    obtain rfl := Option.some.inj hf
    exact r_iret C0 dX7_readInto_113
  · refine r_bipush (v := -9) C0 dX7_readInto_104 (by decide) ?_
    refine r_goto C0 113 dX7_readInto_106 (by decide) ?_
    obtain rfl := Option.some.inj hf
    exact r_iret C0 dX7_readInto_113
set_option maxHeartbeats 4000000 in
set_option maxRecDepth 100000 in
theorem g_X7_readInto_56 {Γ : zCx} {E : zEn} {S : zSk} {X : zMl} {Z : Nat → Prop} (C0 : zCt Γ E RX7 cX7_readInto 3 (Option.some Jvm.ClassFile.FieldType.int) [] { frames := 3, cells := 0, slots := 0, locals := 74 }) (F : Nat) (p0 : Nat) (p1 : Nat) (hk_p0 : K_X7 S p0) (hk_p1 : K_X5 S p1) : ∀ (n : Nat) (v2 : Int32) (M : zMi) (r : Int32 × zMi) , f_X7_readInto_56 F p0 p1 n v2 M = some r → zG Γ (zQ Γ E 0 0 S Z (some (.int r.1)) r.2 X) E 3 0 0 S Z M X 56 [(0, .ref p0), (1, .ref p1), (2, .int v2)] [] := by
  intro n
  induction n with
  | zero => intro v2 M r; intro hf; cases hf
  | succ n ih =>
    intro v2 M r hf
    refine r_aload_n C0 dX7_readInto_56 rfl 0 rfl ?_
    refine r_getI C0 (C := RX7) (T := TX7) cl_X7 (K_X7_o hk_p0) (k := 3) (by decide) qw_289 rfl dX7_readInto_57 ?_
    refine r_if_eq C0 92 dX7_readInto_60 (by decide) hf (fun hf => ?_) (fun hf => ?_)
    · refine r_sub (L' := [(0, .ref p0), (1, .ref p1)]) [0, 1] rfl ?_
      exact g_X7_readInto_92 C0 F p0 p1 hk_p0 hk_p1  M _  hf
    · refine r_iload_n C0 dX7_readInto_63 rfl 2 rfl ?_
      refine r_iconst (v := 4) C0 dX7_readInto_64 (by decide) ?_
      refine r_icmp_ge C0 92 dX7_readInto_65 (by decide) hf (fun hf => ?_) (fun hf => ?_)
      · refine r_sub (L' := [(0, .ref p0), (1, .ref p1)]) [0, 1] rfl ?_
        exact g_X7_readInto_92 C0 F p0 p1 hk_p0 hk_p1  M _  hf
      · refine r_iload_n C0 dX7_readInto_68 rfl 2 rfl ?_
        refine r_if_eq C0 81 dX7_readInto_69 (by decide) hf (fun hf => ?_) (fun hf => ?_)
        · refine r_aload_n C0 dX7_readInto_81 rfl 0 rfl ?_
          refine r_aload_n C0 dX7_readInto_82 rfl 1 rfl ?_
          refine r_callVm C0 (st := []) [.ref p1] p0 hf vs_66 (fun hl r1 hr1 => c_X7_readShip hl F p0 p1 hk_p0 hk_p1 M r1 hr1) (K_X7_o hk_p0) rfl rfl rfl rfl (Nat.le_of_ble_eq_true rfl) dX7_readInto_83 (zrm_ok rfl) (fun r1 hr1 hf => ?_)
          refine r_iinc (j := 2) (v := (v2 + (1 : Int32))) (L' := [(2, .int (v2 + (1 : Int32))), (0, .ref p0), (1, .ref p1)]) C0 dX7_readInto_86 rfl rfl (by decide) rfl ?_
          refine r_goto C0 56 dX7_readInto_89 (by decide) ?_
          refine r_sub (L' := [(0, .ref p0), (1, .ref p1), (2, .int (v2 + (1 : Int32)))]) [1, 2, 0] rfl ?_
          exact ih (v2 + (1 : Int32)) r1 _  hf
        · refine r_aload_n C0 dX7_readInto_72 rfl 0 rfl ?_
          refine r_bipush (v := 115) C0 dX7_readInto_73 (by decide) ?_
          refine r_callVi C0 (st := []) [.int (115 : Int32)] p0 hf vs_57 (fun hl r2 hr2 => c_X7_nextIs hl F p0 (115 : Int32) hk_p0 M r2 hr2) (K_X7_o hk_p0) rfl rfl rfl rfl (Nat.le_of_ble_eq_true rfl) dX7_readInto_75 (zrm_ok rfl) (fun r2 hr2 hf => ?_)
          refine r_if_eq C0 92 dX7_readInto_78 (by decide) hf (fun hf => ?_) (fun hf => ?_)
          · refine r_sub (L' := [(0, .ref p0), (1, .ref p1)]) [0, 1] rfl ?_
            exact g_X7_readInto_92 C0 F p0 p1 hk_p0 hk_p1  M _  hf
          · refine r_aload_n C0 dX7_readInto_81 rfl 0 rfl ?_
            refine r_aload_n C0 dX7_readInto_82 rfl 1 rfl ?_
            refine r_callVm C0 (st := []) [.ref p1] p0 hf vs_66 (fun hl r3 hr3 => c_X7_readShip hl F p0 p1 hk_p0 hk_p1 M r3 hr3) (K_X7_o hk_p0) rfl rfl rfl rfl (Nat.le_of_ble_eq_true rfl) dX7_readInto_83 (zrm_ok rfl) (fun r3 hr3 hf => ?_)
            refine r_iinc (j := 2) (v := (v2 + (1 : Int32))) (L' := [(2, .int (v2 + (1 : Int32))), (0, .ref p0), (1, .ref p1)]) C0 dX7_readInto_86 rfl rfl (by decide) rfl ?_
            refine r_goto C0 56 dX7_readInto_89 (by decide) ?_
            refine r_sub (L' := [(0, .ref p0), (1, .ref p1), (2, .int (v2 + (1 : Int32)))]) [1, 2, 0] rfl ?_
            exact ih (v2 + (1 : Int32)) r3 _  hf
set_option maxHeartbeats 4000000 in
set_option maxRecDepth 100000 in
theorem g_X7_readInto_17 {Γ : zCx} {E : zEn} {S : zSk} {X : zMl} {Z : Nat → Prop} (C0 : zCt Γ E RX7 cX7_readInto 3 (Option.some Jvm.ClassFile.FieldType.int) [] { frames := 3, cells := 0, slots := 0, locals := 74 }) (F : Nat) (p0 : Nat) (p1 : Nat) (hk_p0 : K_X7 S p0) (hk_p1 : K_X5 S p1) : ∀ (n : Nat) (v2 : Int32) (M : zMi) (r : Int32 × zMi) , f_X7_readInto_17 F p0 p1 n v2 M = some r → zG Γ (zQ Γ E 0 0 S Z (some (.int r.1)) r.2 X) E 3 0 0 S Z M X 17 [(0, .ref p0), (1, .ref p1), (2, .int v2)] [] := by
  intro n
  induction n with
  | zero => intro v2 M r; intro hf; cases hf
  | succ n ih =>
    intro v2 M r hf
    refine r_aload_n C0 dX7_readInto_17 rfl 0 rfl ?_
    refine r_getI C0 (C := RX7) (T := TX7) cl_X7 (K_X7_o hk_p0) (k := 3) (by decide) qw_289 rfl dX7_readInto_18 ?_
    refine r_if_eq C0 54 dX7_readInto_21 (by decide) hf (fun hf => ?_) (fun hf => ?_)
    · refine r_iconst (v := 0) C0 dX7_readInto_54 (by decide) ?_
      refine r_istore_n (L' := [(2, .int (0 : Int32)), (0, .ref p0), (1, .ref p1)]) C0 dX7_readInto_55 rfl (by decide) rfl ?_
      refine r_sub (L' := [(0, .ref p0), (1, .ref p1), (2, .int (0 : Int32))]) [1, 2, 0] rfl ?_
      exact g_X7_readInto_56 C0 F p0 p1 hk_p0 hk_p1 F (0 : Int32) M _  hf
    · refine r_iload_n C0 dX7_readInto_24 rfl 2 rfl ?_
      refine r_bipush (v := 9) C0 dX7_readInto_25 (by decide) ?_
      refine r_icmp_ge C0 54 dX7_readInto_27 (by decide) hf (fun hf => ?_) (fun hf => ?_)
      · refine r_iconst (v := 0) C0 dX7_readInto_54 (by decide) ?_
        refine r_istore_n (L' := [(2, .int (0 : Int32)), (0, .ref p0), (1, .ref p1)]) C0 dX7_readInto_55 rfl (by decide) rfl ?_
        refine r_sub (L' := [(0, .ref p0), (1, .ref p1), (2, .int (0 : Int32))]) [1, 2, 0] rfl ?_
        exact g_X7_readInto_56 C0 F p0 p1 hk_p0 hk_p1 F (0 : Int32) M _  hf
      · refine r_iload_n C0 dX7_readInto_30 rfl 2 rfl ?_
        refine r_if_eq C0 43 dX7_readInto_31 (by decide) hf (fun hf => ?_) (fun hf => ?_)
        · refine r_aload_n C0 dX7_readInto_43 rfl 0 rfl ?_
          refine r_aload_n C0 dX7_readInto_44 rfl 1 rfl ?_
          refine r_callVm C0 (st := []) [.ref p1] p0 hf vs_67 (fun hl r1 hr1 => c_X7_readZone hl F p0 p1 hk_p0 hk_p1 M r1 hr1) (K_X7_o hk_p0) rfl rfl rfl rfl (Nat.le_of_ble_eq_true rfl) dX7_readInto_45 (zrm_ok rfl) (fun r1 hr1 hf => ?_)
          refine r_iinc (j := 2) (v := (v2 + (1 : Int32))) (L' := [(2, .int (v2 + (1 : Int32))), (0, .ref p0), (1, .ref p1)]) C0 dX7_readInto_48 rfl rfl (by decide) rfl ?_
          refine r_goto C0 17 dX7_readInto_51 (by decide) ?_
          refine r_sub (L' := [(0, .ref p0), (1, .ref p1), (2, .int (v2 + (1 : Int32)))]) [1, 2, 0] rfl ?_
          exact ih (v2 + (1 : Int32)) r1 _  hf
        · refine r_aload_n C0 dX7_readInto_34 rfl 0 rfl ?_
          refine r_bipush (v := 122) C0 dX7_readInto_35 (by decide) ?_
          refine r_callVi C0 (st := []) [.int (122 : Int32)] p0 hf vs_57 (fun hl r2 hr2 => c_X7_nextIs hl F p0 (122 : Int32) hk_p0 M r2 hr2) (K_X7_o hk_p0) rfl rfl rfl rfl (Nat.le_of_ble_eq_true rfl) dX7_readInto_37 (zrm_ok rfl) (fun r2 hr2 hf => ?_)
          refine r_if_eq C0 54 dX7_readInto_40 (by decide) hf (fun hf => ?_) (fun hf => ?_)
          · refine r_iconst (v := 0) C0 dX7_readInto_54 (by decide) ?_
            refine r_istore_n (L' := [(2, .int (0 : Int32)), (0, .ref p0), (1, .ref p1)]) C0 dX7_readInto_55 rfl (by decide) rfl ?_
            refine r_sub (L' := [(0, .ref p0), (1, .ref p1), (2, .int (0 : Int32))]) [1, 2, 0] rfl ?_
            exact g_X7_readInto_56 C0 F p0 p1 hk_p0 hk_p1 F (0 : Int32) M _  hf
          · refine r_aload_n C0 dX7_readInto_43 rfl 0 rfl ?_
            refine r_aload_n C0 dX7_readInto_44 rfl 1 rfl ?_
            refine r_callVm C0 (st := []) [.ref p1] p0 hf vs_67 (fun hl r3 hr3 => c_X7_readZone hl F p0 p1 hk_p0 hk_p1 M r3 hr3) (K_X7_o hk_p0) rfl rfl rfl rfl (Nat.le_of_ble_eq_true rfl) dX7_readInto_45 (zrm_ok rfl) (fun r3 hr3 hf => ?_)
            refine r_iinc (j := 2) (v := (v2 + (1 : Int32))) (L' := [(2, .int (v2 + (1 : Int32))), (0, .ref p0), (1, .ref p1)]) C0 dX7_readInto_48 rfl rfl (by decide) rfl ?_
            refine r_goto C0 17 dX7_readInto_51 (by decide) ?_
            refine r_sub (L' := [(0, .ref p0), (1, .ref p1), (2, .int (v2 + (1 : Int32)))]) [1, 2, 0] rfl ?_
            exact ih (v2 + (1 : Int32)) r3 _  hf
set_option maxHeartbeats 4000000 in
set_option maxRecDepth 100000 in
theorem c_X7_readInto {l : Launch} {E : zEn} {S : zSk} {X : zMl} {Z : Nat → Prop} (hl : l.stackTraces = false) (F : Nat) (p0 : Nat) (p1 : Nat) (hk_p0 : K_X7 S p0) (hk_p1 : K_X5 S p1) (M : zMi) (r : Int32 × zMi) (hf : f_X7_readInto F p0 p1 M = some r) : zM l E yX7_readInto cX7_readInto 3 (Option.some Jvm.ClassFile.FieldType.int) { frames := 3, cells := 0, slots := 0, locals := 74 } 0 0 [.ref p0, .ref p1] S Z M X S Z (some (.int r.1)) r.2 X := by
  refine zM.intro (L0 := [(0, .ref p0), (1, .ref p1)]) hl (by decide) (Nat.le_of_ble_eq_true rfl) rfl (fun Γ C0 _ => ?_)
  unfold f_X7_readInto at hf
  refine r_aload_n C0 dX7_readInto_0 rfl 0 rfl ?_
  refine r_iconst (v := 0) C0 dX7_readInto_1 (by decide) ?_
  refine r_putI C0 (C := RX7) (T := TX7) cl_X7 (K_X7_o hk_p0) (k := 2) (by decide) qw_288 rfl rfl rfl rfl hf dX7_readInto_2 (fun M1 hf => ?_)
  refine r_aload_n C0 dX7_readInto_5 rfl 0 rfl ?_
  refine r_iconst (v := 1) C0 dX7_readInto_6 (by decide) ?_
  refine r_putI C0 (C := RX7) (T := TX7) cl_X7 (K_X7_o hk_p0) (k := 3) (by decide) qw_289 rfl rfl rfl rfl hf dX7_readInto_7 (fun M2 hf => ?_)
  refine r_aload_n C0 dX7_readInto_10 rfl 0 rfl ?_
  refine r_aload_n C0 dX7_readInto_11 rfl 1 rfl ?_
  refine r_callVm C0 (st := []) [.ref p1] p0 hf vs_68 (fun hl r3 hr3 => c_X7_readHead hl F p0 p1 hk_p0 hk_p1 M2 r3 hr3) (K_X7_o hk_p0) rfl rfl rfl rfl (Nat.le_of_ble_eq_true rfl) dX7_readInto_12 (zrm_ok rfl) (fun r3 hr3 hf => ?_)
  refine r_iconst (v := 0) C0 dX7_readInto_15 (by decide) ?_
  refine r_istore_n (L' := [(2, .int (0 : Int32)), (0, .ref p0), (1, .ref p1)]) C0 dX7_readInto_16 rfl (by decide) rfl ?_
  refine r_sub (L' := [(0, .ref p0), (1, .ref p1), (2, .int (0 : Int32))]) [1, 2, 0] rfl ?_
  exact g_X7_readInto_17 C0 F p0 p1 hk_p0 hk_p1 F (0 : Int32) r3 _  hf
set_option maxHeartbeats 4000000 in
set_option maxRecDepth 100000 in
theorem c_X10_requireRange {l : Launch} {E : zEn} {S : zSk} {X : zMl} (hl : l.stackTraces = false) (F : Nat) (p0 : Int32) (p1 : Int32) (p2 : Int32) (M : zMi) (r : Nat ⊕ Unit) (hf : f_X10_requireRange F p0 p1 p2 M = some r) : zMX l E yX10_requireRange cX10_requireRange 3 (Option.none : Option Jvm.ClassFile.FieldType) { frames := 6, cells := 1, slots := 6, locals := 90 } 1 6 [.int p0, .int p1, .int p2] S M X (Sum.map id (fun _ => none) r, M) := by
  refine zMX.intro (L0 := [(0, .int p0), (1, .int p1), (2, .int p2)]) hl (by decide) (Nat.le_of_ble_eq_true rfl) rfl (fun Γ C0 => ?_)
  unfold f_X10_requireRange at hf
  refine r_iload_n C0 dX10_requireRange_0 rfl 0 rfl ?_
  refine r_iload_n C0 dX10_requireRange_1 rfl 1 rfl ?_
  refine r_icmp_lt C0 10 dX10_requireRange_2 (by decide) hf (fun hf => ?_) (fun hf => ?_)
  · obtain rfl := Option.some.inj hf
    exact rX_throwSW C0 (e := 1) (text := "out of range") (by decide +kernel) qw_339 qw_340 (by decide +kernel) ht_69_a ht_69_b dX10_requireRange_10 dX10_requireRange_13 dX10_requireRange_14 dX10_requireRange_17 dX10_requireRange_20 rfl (Nat.le_of_ble_eq_true rfl) (Nat.le_of_ble_eq_true rfl) (Nat.le_of_ble_eq_true rfl) (Nat.le_of_ble_eq_true rfl) (Nat.le_of_ble_eq_true rfl) (Nat.le_of_ble_eq_true rfl)
  · refine r_iload_n C0 dX10_requireRange_5 rfl 0 rfl ?_
    refine r_iload_n C0 dX10_requireRange_6 rfl 2 rfl ?_
    refine r_icmp_le C0 21 dX10_requireRange_7 (by decide) hf (fun hf => ?_) (fun hf => ?_)
    · obtain rfl := Option.some.inj hf
      refine r_widen (k1 := 1) (s1 := 6) (by decide) (by decide) ?_
      exact rX_vret C0 rfl dX10_requireRange_21
    · obtain rfl := Option.some.inj hf
      exact rX_throwSW C0 (e := 1) (text := "out of range") (by decide +kernel) qw_339 qw_340 (by decide +kernel) ht_69_a ht_69_b dX10_requireRange_10 dX10_requireRange_13 dX10_requireRange_14 dX10_requireRange_17 dX10_requireRange_20 rfl (Nat.le_of_ble_eq_true rfl) (Nat.le_of_ble_eq_true rfl) (Nat.le_of_ble_eq_true rfl) (Nat.le_of_ble_eq_true rfl) (Nat.le_of_ble_eq_true rfl) (Nat.le_of_ble_eq_true rfl)
set_option maxHeartbeats 4000000 in
set_option maxRecDepth 100000 in
theorem c_X10_require {l : Launch} {E : zEn} {S : zSk} {X : zMl} (hl : l.stackTraces = false) (F : Nat) (p0 : Int32) (M : zMi) (r : Nat ⊕ Unit) (hf : f_X10_require F p0 M = some r) : zMX l E yX10_require cX10_require 1 (Option.none : Option Jvm.ClassFile.FieldType) { frames := 6, cells := 1, slots := 6, locals := 90 } 1 6 [.int p0] S M X (Sum.map id (fun _ => none) r, M) := by
  refine zMX.intro (L0 := [(0, .int p0)]) hl (by decide) (Nat.le_of_ble_eq_true rfl) rfl (fun Γ C0 => ?_)
  unfold f_X10_require at hf
  refine r_iload_n C0 dX10_require_0 rfl 0 rfl ?_
  refine r_if_ne C0 15 dX10_require_1 (by decide) hf (fun hf => ?_) (fun hf => ?_)
  · obtain rfl := Option.some.inj hf
    refine r_widen (k1 := 1) (s1 := 6) (by decide) (by decide) ?_
    exact rX_vret C0 rfl dX10_require_15
  · obtain rfl := Option.some.inj hf
    exact rX_throwSW C0 (e := 2) (text := "not allowed now") (by decide +kernel) qw_341 qw_342 (by decide +kernel) ht_70_a ht_70_b dX10_require_4 dX10_require_7 dX10_require_8 dX10_require_11 dX10_require_14 rfl (Nat.le_of_ble_eq_true rfl) (Nat.le_of_ble_eq_true rfl) (Nat.le_of_ble_eq_true rfl) (Nat.le_of_ble_eq_true rfl) (Nat.le_of_ble_eq_true rfl) (Nat.le_of_ble_eq_true rfl)
set_option maxHeartbeats 4000000 in
set_option maxRecDepth 100000 in
theorem c_X10_append {l : Launch} {E : zEn} {S : zSk} {X : zMl} (hl : l.stackTraces = false) (F : Nat) (p0 : Nat) (p1 : Int32) (hk_p0 : K_X10 S p0) (M : zMi) (r : (Nat ⊕ Int32) × zMi) (hf : f_X10_append F p0 p1 M = some r) : zMX l E yX10_append cX10_append 2 (Option.some Jvm.ClassFile.FieldType.int) { frames := 7, cells := 2, slots := 12, locals := 112 } 2 12 [.ref p0, .int p1] S M X (Sum.map id (fun v => some (Value.int v)) r.1, r.2) := by
  refine zMX.intro (L0 := [(0, .ref p0), (1, .int p1)]) hl (by decide) (Nat.le_of_ble_eq_true rfl) rfl (fun Γ C0 => ?_)
  unfold f_X10_append at hf
  refine r_iload_n C0 dX10_append_0 rfl 1 rfl ?_
  refine r_iconst (v := 0) C0 dX10_append_1 (by decide) ?_
  refine r_sipush (v := 255) C0 dX10_append_2 (by decide) ?_
  refine rX_callSp C0 (st := []) (fun _ => none) [.int p1, .int (0 : Int32), .int (255 : Int32)] hf vs_71 (fun hl r9 h9 => c_X10_requireRange hl F p1 (0 : Int32) (255 : Int32) M r9 h9) rfl rfl (Nat.le_of_ble_eq_true rfl) dX10_append_5 (zrm_ok rfl) (fun e hf => ?_) (fun x2 hx2 hf => ?_)
  · obtain rfl := Option.some.inj hf
    exact rX_out C0 rfl (by decide) (by decide)
  refine r_eqst (st1 := []) rfl ?_
  refine r_aload_n C0 dX10_append_8 rfl 0 rfl ?_
  refine r_getR C0 (C := RX10) (T := TX10) cl_X10 (K_X10_o hk_p0) (k := 0) (by decide) qw_347 rfl (K_X10_text_r hk_p0) dX10_append_9 ?_
  refine r_callVi C0 (st := []) [] (p0 + 1) hf vs_72 (fun hl r3 hr3 => c_X7_hasRoom hl F (p0 + 1) (K_X10_text_k hk_p0) M r3 hr3) (K_X7_o (K_X10_text_k hk_p0)) rfl rfl rfl rfl (Nat.le_of_ble_eq_true rfl) dX10_append_12 (zrm_ok rfl) (fun r3 hr3 hf => ?_)
  refine rX_callSp C0 (st := []) (fun _ => none) [.int r3] hf vs_73 (fun hl r9 h9 => c_X10_require hl F r3 M r9 h9) rfl rfl (Nat.le_of_ble_eq_true rfl) dX10_append_15 (zrm_ok rfl) (fun e hf => ?_) (fun x5 hx5 hf => ?_)
  · obtain rfl := Option.some.inj hf
    exact rX_out C0 rfl (by decide) (by decide)
  refine r_eqst (st1 := []) rfl ?_
  refine r_aload_n C0 dX10_append_18 rfl 0 rfl ?_
  refine r_getR C0 (C := RX10) (T := TX10) cl_X10 (K_X10_o hk_p0) (k := 0) (by decide) qw_347 rfl (K_X10_text_r hk_p0) dX10_append_19 ?_
  refine r_iload_n C0 dX10_append_22 rfl 1 rfl ?_
  refine r_i2c C0 dX10_append_23 ?_
  refine r_callVim C0 (st := []) [.int (zi2c p1)] (p0 + 1) hf vs_74 (fun hl r6 hr6 => c_X7_add hl F (p0 + 1) (zi2c p1) (K_X10_text_k hk_p0) M r6 hr6) (K_X7_o (K_X10_text_k hk_p0)) rfl rfl rfl rfl (Nat.le_of_ble_eq_true rfl) dX10_append_24 (zrm_ok rfl) (fun r6 hr6 hf => ?_)
  obtain rfl := Option.some.inj hf
  exact rX_iret C0 rfl dX10_append_27
set_option maxHeartbeats 4000000 in
set_option maxRecDepth 100000 in
theorem c_X10_clearText {l : Launch} {E : zEn} {S : zSk} {X : zMl} {Z : Nat → Prop} (hl : l.stackTraces = false) (F : Nat) (p0 : Nat) (hk_p0 : K_X10 S p0) (M : zMi) (r : Int32 × zMi) (hf : f_X10_clearText F p0 M = some r) : zM l E yX10_clearText cX10_clearText 1 (Option.some Jvm.ClassFile.FieldType.int) { frames := 1, cells := 0, slots := 0, locals := 21 } 0 0 [.ref p0] S Z M X S Z (some (.int r.1)) r.2 X := by
  refine zM.intro (L0 := [(0, .ref p0)]) hl (by decide) (Nat.le_of_ble_eq_true rfl) rfl (fun Γ C0 _ => ?_)
  unfold f_X10_clearText at hf
  refine r_aload_n C0 dX10_clearText_0 rfl 0 rfl ?_
  refine r_getR C0 (C := RX10) (T := TX10) cl_X10 (K_X10_o hk_p0) (k := 0) (by decide) qw_347 rfl (K_X10_text_r hk_p0) dX10_clearText_1 ?_
  refine r_callVim C0 (st := []) [] (p0 + 1) hf vs_75 (fun hl r1 hr1 => c_X7_clear hl F (p0 + 1) (K_X10_text_k hk_p0) M r1 hr1) (K_X7_o (K_X10_text_k hk_p0)) rfl rfl rfl rfl (Nat.le_of_ble_eq_true rfl) dX10_clearText_4 (zrm_ok rfl) (fun r1 hr1 hf => ?_)
  obtain rfl := Option.some.inj hf
  exact r_iret C0 dX10_clearText_7
set_option maxHeartbeats 4000000 in
set_option maxRecDepth 100000 in
theorem c_X10_errorPosition {l : Launch} {E : zEn} {S : zSk} {X : zMl} {Z : Nat → Prop} (hl : l.stackTraces = false) (F : Nat) (p0 : Nat) (hk_p0 : K_X10 S p0) (M : zMi) (r : Int32 × zMi) (hf : f_X10_errorPosition F p0 M = some r) : zM l E yX10_errorPosition cX10_errorPosition 1 (Option.some Jvm.ClassFile.FieldType.int) { frames := 4, cells := 0, slots := 0, locals := 96 } 0 0 [.ref p0] S Z M X S Z (some (.int r.1)) r.2 X := by
  refine zM.intro (L0 := [(0, .ref p0)]) hl (by decide) (Nat.le_of_ble_eq_true rfl) rfl (fun Γ C0 _ => ?_)
  unfold f_X10_errorPosition at hf
  refine r_aload_n C0 dX10_errorPosition_0 rfl 0 rfl ?_
  refine r_getR C0 (C := RX10) (T := TX10) cl_X10 (K_X10_o hk_p0) (k := 0) (by decide) qw_347 rfl (K_X10_text_r hk_p0) dX10_errorPosition_1 ?_
  refine r_aload_n C0 dX10_errorPosition_4 rfl 0 rfl ?_
  refine r_getR C0 (C := RX10) (T := TX10) cl_X10 (K_X10_o hk_p0) (k := 2) (by decide) qw_360 rfl (K_X10_trial_r hk_p0) dX10_errorPosition_5 ?_
  refine r_callVim C0 (st := []) [.ref (p0 + 24)] (p0 + 1) hf vs_76 (fun hl r1 hr1 => c_X7_readInto hl F (p0 + 1) (p0 + 24) (K_X10_text_k hk_p0) (K_X10_trial_k hk_p0) M r1 hr1) (K_X7_o (K_X10_text_k hk_p0)) rfl rfl rfl rfl (Nat.le_of_ble_eq_true rfl) dX10_errorPosition_8 (zrm_ok rfl) (fun r1 hr1 hf => ?_)
  obtain rfl := Option.some.inj hf
  exact r_iret C0 dX10_errorPosition_11
set_option maxHeartbeats 4000000 in
set_option maxRecDepth 100000 in
theorem g_X10_load_52 {Γ : zCx} {E : zEn} {S : zSk} {X : zMl} (C0 : zCt Γ E RX10 cX10_load 5 (Option.some Jvm.ClassFile.FieldType.int) [] { frames := 7, cells := 1, slots := 6, locals := 110 }) (F : Nat) (p0 : Nat) (hk_p0 : K_X10 S p0) : ∀ (n : Nat) (v3 : Int32) (M : zMi) (r : (Nat ⊕ Int32) × zMi) , f_X10_load_52 F p0 n v3 M = some r → zG Γ (zQX Γ E 1 6 S (Sum.map id (fun v => some (Value.int v)) r.1, r.2) X) E 5 1 6 S ZT M X 52 [(0, .ref p0), (1, .ref (p0 + 341)), (2, .int (2 : Int32)), (3, .int v3)] [] := by
  intro n
  induction n with
  | zero => intro v3 M r; intro hf; cases hf
  | succ n ih =>
    intro v3 M r hf
    refine r_iload_n C0 dX10_load_52 rfl 3 rfl ?_
    refine r_iload_n C0 dX10_load_53 rfl 2 rfl ?_
    refine r_icmp_ge C0 74 dX10_load_54 (by decide) hf (fun hf => ?_) (fun hf => ?_)
    · refine r_aload_n C0 dX10_load_74 rfl 0 rfl ?_
      refine r_getR C0 (C := RX10) (T := TX10) cl_X10 (K_X10_o hk_p0) (k := 1) (by decide) qw_365 rfl (K_X10_now_r hk_p0) dX10_load_75 ?_
      refine r_getI C0 (C := RX5) (T := TX5) cl_X5 (K_X5_o (K_X10_now_k hk_p0)) (k := 5) (by decide) qw_366 rfl dX10_load_78 ?_
      obtain rfl := Option.some.inj hf
      exact rX_iret C0 rfl dX10_load_81
    · refine r_aload_n C0 dX10_load_57 rfl 1 rfl ?_
      refine r_iload_n C0 dX10_load_58 rfl 3 rfl ?_
      refine r_aald C0 (g := fun j => p0 + 341 + 1 + 22 * j) ((K_X10_slots_k hk_p0)).1 (by decide) (by decide) rfl ((K_X10_slots_k hk_p0)).2.1 hf dX10_load_59 (fun hi hf => ?_)
      refine r_nmA hf (fun q1 hq hf => ?_)
      have hk_q1 : K_X4 S q1 := by rw [hq]; exact ((K_X10_slots_k hk_p0)).2.2 _ hi
      refine r_astore (L' := [(4, .ref q1), (0, .ref p0), (1, .ref (p0 + 341)), (2, .int (2 : Int32)), (3, .int v3)]) C0 dX10_load_60 (by decide) rfl ?_
      refine r_aload C0 dX10_load_62 0 rfl ?_
      refine r_iconst (v := 0) C0 dX10_load_64 (by decide) ?_
      refine r_putI C0 (C := RX4) (T := TX4) cl_X4 (K_X4_o hk_q1) (k := 1) (by decide) qw_367 rfl rfl rfl rfl hf dX10_load_65 (fun M2 hf => ?_)
      refine r_iinc (j := 4) (v := (v3 + (1 : Int32))) (L' := [(3, .int (v3 + (1 : Int32))), (4, .ref q1), (0, .ref p0), (1, .ref (p0 + 341)), (2, .int (2 : Int32))]) C0 dX10_load_68 rfl rfl (by decide) rfl ?_
      refine r_goto C0 52 dX10_load_71 (by decide) ?_
      refine r_sub (L' := [(0, .ref p0), (1, .ref (p0 + 341)), (2, .int (2 : Int32)), (3, .int (v3 + (1 : Int32)))]) [2, 3, 4, 0] rfl ?_
      exact ih (v3 + (1 : Int32)) M2 _  hf
set_option maxHeartbeats 4000000 in
set_option maxRecDepth 100000 in
theorem g_X10_load_21 {Γ : zCx} {E : zEn} {S : zSk} {X : zMl} (C0 : zCt Γ E RX10 cX10_load 5 (Option.some Jvm.ClassFile.FieldType.int) [] { frames := 7, cells := 1, slots := 6, locals := 110 }) (F : Nat) (p0 : Nat) (hk_p0 : K_X10 S p0) (s0 : Int32) (M : zMi) (r : (Nat ⊕ Int32) × zMi)  (hf : f_X10_load_21 F p0 s0 M = some r) : zG Γ (zQX Γ E 1 6 S (Sum.map id (fun v => some (Value.int v)) r.1, r.2) X) E 5 0 0 S ZT M X 21 [(0, .ref p0)] [.int s0] := by
  unfold f_X10_load_21 at hf
  refine rX_callSp C0 (st := []) (fun _ => none) [.int s0] hf vs_73 (fun hl r9 h9 => c_X10_require hl F s0 M r9 h9) rfl rfl (Nat.le_of_ble_eq_true rfl) dX10_load_21 (zrm_ok rfl) (fun e hf => ?_) (fun x2 hx2 hf => ?_)
  · obtain rfl := Option.some.inj hf
    exact rX_out C0 rfl (by decide) (by decide)
  refine r_eqst (st1 := []) rfl ?_
  refine r_aload_n C0 dX10_load_24 rfl 0 rfl ?_
  refine r_getR C0 (C := RX10) (T := TX10) cl_X10 (K_X10_o hk_p0) (k := 1) (by decide) qw_365 rfl (K_X10_now_r hk_p0) dX10_load_25 ?_
  refine r_aload_n C0 dX10_load_28 rfl 0 rfl ?_
  refine r_getR C0 (C := RX10) (T := TX10) cl_X10 (K_X10_o hk_p0) (k := 2) (by decide) qw_360 rfl (K_X10_trial_r hk_p0) dX10_load_29 ?_
  refine r_callVm C0 (st := []) [.ref (p0 + 24)] (p0 + 3) hf vs_77 (fun hl r3 hr3 => c_X5_copyFrom hl F (p0 + 3) (p0 + 24) (K_X10_now_k hk_p0) (K_X10_trial_k hk_p0) M r3 hr3) (K_X5_o (K_X10_now_k hk_p0)) rfl rfl rfl rfl (Nat.le_of_ble_eq_true rfl) dX10_load_32 (zrm_ok rfl) (fun r3 hr3 hf => ?_)
  refine r_aload_n C0 dX10_load_35 rfl 0 rfl ?_
  refine r_getR C0 (C := RX10) (T := TX10) cl_X10 (K_X10_o hk_p0) (k := 3) (by decide) qw_369 rfl (K_X10_history_r hk_p0) dX10_load_36 ?_
  refine r_callVm C0 (st := []) [] (p0 + 45) hf vs_78 (fun hl r4 hr4 => c_X0_clear hl F (p0 + 45) (K_X10_history_k hk_p0) r3 r4 hr4) (K_X0_o (K_X10_history_k hk_p0)) rfl rfl rfl rfl (Nat.le_of_ble_eq_true rfl) dX10_load_39 (zrm_ok rfl) (fun r4 hr4 hf => ?_)
  refine r_aload_n C0 dX10_load_42 rfl 0 rfl ?_
  refine r_getR C0 (C := RX10) (T := TX10) cl_X10 (K_X10_o hk_p0) (k := 4) (by decide) qw_374 rfl (K_X10_slots_r hk_p0) dX10_load_43 ?_
  refine r_astore_n (L' := [(1, .ref (p0 + 341)), (0, .ref p0)]) C0 dX10_load_46 rfl (by decide) rfl ?_
  refine r_aload_n C0 dX10_load_47 rfl 0 rfl ?_
  refine r_alen (v := 2) C0 ((K_X10_slots_k hk_p0)).1 (by decide) rfl dX10_load_48 ?_
  refine r_istore_n (L' := [(2, .int (2 : Int32)), (1, .ref (p0 + 341)), (0, .ref p0)]) C0 dX10_load_49 rfl (by decide) rfl ?_
  refine r_iconst (v := 0) C0 dX10_load_50 (by decide) ?_
  refine r_istore_n (L' := [(3, .int (0 : Int32)), (2, .int (2 : Int32)), (1, .ref (p0 + 341)), (0, .ref p0)]) C0 dX10_load_51 rfl (by decide) rfl ?_
  refine r_sub (L' := [(0, .ref p0), (1, .ref (p0 + 341)), (2, .int (2 : Int32)), (3, .int (0 : Int32))]) [3, 2, 1, 0] rfl ?_
  exact g_X10_load_52 C0 F p0 hk_p0 F (0 : Int32) r4 _  hf
set_option maxHeartbeats 4000000 in
set_option maxRecDepth 100000 in
theorem c_X10_load {l : Launch} {E : zEn} {S : zSk} {X : zMl} (hl : l.stackTraces = false) (F : Nat) (p0 : Nat) (hk_p0 : K_X10 S p0) (M : zMi) (r : (Nat ⊕ Int32) × zMi) (hf : f_X10_load F p0 M = some r) : zMX l E yX10_load cX10_load 5 (Option.some Jvm.ClassFile.FieldType.int) { frames := 7, cells := 1, slots := 6, locals := 110 } 1 6 [.ref p0] S M X (Sum.map id (fun v => some (Value.int v)) r.1, r.2) := by
  refine zMX.intro (L0 := [(0, .ref p0)]) hl (by decide) (Nat.le_of_ble_eq_true rfl) rfl (fun Γ C0 => ?_)
  unfold f_X10_load at hf
  refine r_aload_n C0 dX10_load_0 rfl 0 rfl ?_
  refine r_getR C0 (C := RX10) (T := TX10) cl_X10 (K_X10_o hk_p0) (k := 0) (by decide) qw_347 rfl (K_X10_text_r hk_p0) dX10_load_1 ?_
  refine r_aload_n C0 dX10_load_4 rfl 0 rfl ?_
  refine r_getR C0 (C := RX10) (T := TX10) cl_X10 (K_X10_o hk_p0) (k := 2) (by decide) qw_360 rfl (K_X10_trial_r hk_p0) dX10_load_5 ?_
  refine r_callVim C0 (st := []) [.ref (p0 + 24)] (p0 + 1) hf vs_76 (fun hl r1 hr1 => c_X7_readInto hl F (p0 + 1) (p0 + 24) (K_X10_text_k hk_p0) (K_X10_trial_k hk_p0) M r1 hr1) (K_X7_o (K_X10_text_k hk_p0)) rfl rfl rfl rfl (Nat.le_of_ble_eq_true rfl) dX10_load_8 (zrm_ok rfl) (fun r1 hr1 hf => ?_)
  refine r_bipush (v := -9) C0 dX10_load_11 (by decide) ?_
  refine r_icmp_ne C0 20 dX10_load_13 (by decide) hf (fun hf => ?_) (fun hf => ?_)
  · refine r_iconst (v := 0) C0 dX10_load_20 (by decide) ?_
    refine r_sub (L' := [(0, .ref p0)]) [0] rfl ?_
    exact g_X10_load_21 C0 F p0 hk_p0 (0 : Int32) r1.2 _  hf
  · refine r_iconst (v := 1) C0 dX10_load_16 (by decide) ?_
    refine r_goto C0 21 dX10_load_17 (by decide) ?_
    refine r_sub (L' := [(0, .ref p0)]) [0] rfl ?_
    exact g_X10_load_21 C0 F p0 hk_p0 (1 : Int32) r1.2 _  hf
set_option maxHeartbeats 4000000 in
set_option maxRecDepth 100000 in
theorem c_X10_about {l : Launch} {E : zEn} {S : zSk} {X : zMl} (hl : l.stackTraces = false) (F : Nat) (p0 : Nat) (p1 : Int32) (hk_p0 : K_X10 S p0) (M : zMi) (r : Nat ⊕ Int32) (hf : f_X10_about F p0 p1 M = some r) : zMX l E yX10_about cX10_about 3 (Option.some Jvm.ClassFile.FieldType.int) { frames := 6, cells := 1, slots := 6, locals := 90 } 1 6 [.ref p0, .int p1] S M X (Sum.map id (fun v => some (Value.int v)) r, M) := by
  refine zMX.intro (L0 := [(0, .ref p0), (1, .int p1)]) hl (by decide) (Nat.le_of_ble_eq_true rfl) rfl (fun Γ C0 => ?_)
  unfold f_X10_about at hf
  refine r_aload_n C0 dX10_about_0 rfl 0 rfl ?_
  refine r_getR C0 (C := RX10) (T := TX10) cl_X10 (K_X10_o hk_p0) (k := 1) (by decide) qw_365 rfl (K_X10_now_r hk_p0) dX10_about_1 ?_
  refine r_getR C0 (C := RX5) (T := TX5) cl_X5 (K_X5_o (K_X10_now_k hk_p0)) (k := 3) (by decide) qw_375 rfl (K_X5_teams_r (K_X10_now_k hk_p0)) dX10_about_4 ?_
  refine r_astore_n (L' := [(2, .ref ((p0 + 3) + 5)), (0, .ref p0), (1, .int p1)]) C0 dX10_about_7 rfl (by decide) rfl ?_
  refine r_iload_n C0 dX10_about_8 rfl 2 rfl ?_
  refine z_ite hf (fun hx hf => ?_) (fun hx0 hf => ?_)
  · refine r_tsIn (off := 71) C0 80 dX10_about_9 (by rw [hx]; decide) (by rw [hx]; decide) (by rw [hx]; decide) (by decide) ?_
    refine r_aload_n C0 dX10_about_80 rfl 1 rfl ?_
    refine r_getR C0 (C := RX10) (T := TX10) cl_X10 (K_X10_o hk_p0) (k := 1) (by decide) qw_365 rfl (K_X10_now_r hk_p0) dX10_about_81 ?_
    refine r_getI C0 (C := RX5) (T := TX5) cl_X5 (K_X5_o (K_X10_now_k hk_p0)) (k := 5) (by decide) qw_366 rfl dX10_about_84 ?_
    obtain rfl := Option.some.inj hf
    refine r_widen (k1 := 1) (s1 := 6) (by decide) (by decide) ?_
    exact rX_iret C0 rfl dX10_about_87
  refine z_ite hf (fun hx hf => ?_) (fun hx1 hf => ?_)
  · refine r_tsIn (off := 79) C0 88 dX10_about_9 (by rw [hx]; decide) (by rw [hx]; decide) (by rw [hx]; decide) (by decide) ?_
    refine r_aload_n C0 dX10_about_88 rfl 1 rfl ?_
    refine r_getR C0 (C := RX10) (T := TX10) cl_X10 (K_X10_o hk_p0) (k := 1) (by decide) qw_365 rfl (K_X10_now_r hk_p0) dX10_about_89 ?_
    refine r_getI C0 (C := RX5) (T := TX5) cl_X5 (K_X5_o (K_X10_now_k hk_p0)) (k := 6) (by decide) qw_376 rfl dX10_about_92 ?_
    obtain rfl := Option.some.inj hf
    refine r_widen (k1 := 1) (s1 := 6) (by decide) (by decide) ?_
    exact rX_iret C0 rfl dX10_about_95
  refine z_ite hf (fun hx hf => ?_) (fun hx2 hf => ?_)
  · refine r_tsIn (off := 87) C0 96 dX10_about_9 (by rw [hx]; decide) (by rw [hx]; decide) (by rw [hx]; decide) (by decide) ?_
    refine r_aload_n C0 dX10_about_96 rfl 0 rfl ?_
    refine r_getI C0 (C := RX6) (T := TX6) cl_X6 (K_X6_o (K_X5_teams_k (K_X10_now_k hk_p0))) (k := 0) (by decide) qw_377 rfl dX10_about_97 ?_
    obtain rfl := Option.some.inj hf
    refine r_widen (k1 := 1) (s1 := 6) (by decide) (by decide) ?_
    exact rX_iret C0 rfl dX10_about_100
  refine z_ite hf (fun hx hf => ?_) (fun hx3 hf => ?_)
  · refine r_tsIn (off := 92) C0 101 dX10_about_9 (by rw [hx]; decide) (by rw [hx]; decide) (by rw [hx]; decide) (by decide) ?_
    refine r_aload_n C0 dX10_about_101 rfl 0 rfl ?_
    refine r_getI C0 (C := RX6) (T := TX6) cl_X6 (K_X6_o (K_X5_teams_k (K_X10_now_k hk_p0))) (k := 1) (by decide) qw_378 rfl dX10_about_102 ?_
    obtain rfl := Option.some.inj hf
    refine r_widen (k1 := 1) (s1 := 6) (by decide) (by decide) ?_
    exact rX_iret C0 rfl dX10_about_105
  refine z_ite hf (fun hx hf => ?_) (fun hx4 hf => ?_)
  · refine r_tsIn (off := 97) C0 106 dX10_about_9 (by rw [hx]; decide) (by rw [hx]; decide) (by rw [hx]; decide) (by decide) ?_
    refine r_aload_n C0 dX10_about_106 rfl 1 rfl ?_
    refine r_getR C0 (C := RX10) (T := TX10) cl_X10 (K_X10_o hk_p0) (k := 1) (by decide) qw_365 rfl (K_X10_now_r hk_p0) dX10_about_107 ?_
    refine r_getI C0 (C := RX5) (T := TX5) cl_X5 (K_X5_o (K_X10_now_k hk_p0)) (k := 7) (by decide) qw_379 rfl dX10_about_110 ?_
    obtain rfl := Option.some.inj hf
    refine r_widen (k1 := 1) (s1 := 6) (by decide) (by decide) ?_
    exact rX_iret C0 rfl dX10_about_113
  refine z_ite hf (fun hx hf => ?_) (fun hx5 hf => ?_)
  · refine r_tsIn (off := 105) C0 114 dX10_about_9 (by rw [hx]; decide) (by rw [hx]; decide) (by rw [hx]; decide) (by decide) ?_
    refine r_aload_n C0 dX10_about_114 rfl 1 rfl ?_
    refine r_getR C0 (C := RX10) (T := TX10) cl_X10 (K_X10_o hk_p0) (k := 1) (by decide) qw_365 rfl (K_X10_now_r hk_p0) dX10_about_115 ?_
    refine r_getI C0 (C := RX5) (T := TX5) cl_X5 (K_X5_o (K_X10_now_k hk_p0)) (k := 8) (by decide) qw_380 rfl dX10_about_118 ?_
    obtain rfl := Option.some.inj hf
    refine r_widen (k1 := 1) (s1 := 6) (by decide) (by decide) ?_
    exact rX_iret C0 rfl dX10_about_121
  refine z_ite hf (fun hx hf => ?_) (fun hx6 hf => ?_)
  · refine r_tsIn (off := 113) C0 122 dX10_about_9 (by rw [hx]; decide) (by rw [hx]; decide) (by rw [hx]; decide) (by decide) ?_
    refine r_aload_n C0 dX10_about_122 rfl 1 rfl ?_
    refine r_getR C0 (C := RX10) (T := TX10) cl_X10 (K_X10_o hk_p0) (k := 1) (by decide) qw_365 rfl (K_X10_now_r hk_p0) dX10_about_123 ?_
    refine r_getI C0 (C := RX5) (T := TX5) cl_X5 (K_X5_o (K_X10_now_k hk_p0)) (k := 9) (by decide) qw_381 rfl dX10_about_126 ?_
    obtain rfl := Option.some.inj hf
    refine r_widen (k1 := 1) (s1 := 6) (by decide) (by decide) ?_
    exact rX_iret C0 rfl dX10_about_129
  refine z_ite hf (fun hx hf => ?_) (fun hx7 hf => ?_)
  · refine r_tsIn (off := 121) C0 130 dX10_about_9 (by rw [hx]; decide) (by rw [hx]; decide) (by rw [hx]; decide) (by decide) ?_
    refine r_aload_n C0 dX10_about_130 rfl 1 rfl ?_
    refine r_getR C0 (C := RX10) (T := TX10) cl_X10 (K_X10_o hk_p0) (k := 1) (by decide) qw_365 rfl (K_X10_now_r hk_p0) dX10_about_131 ?_
    refine r_getI C0 (C := RX5) (T := TX5) cl_X5 (K_X5_o (K_X10_now_k hk_p0)) (k := 10) (by decide) qw_382 rfl dX10_about_134 ?_
    obtain rfl := Option.some.inj hf
    refine r_widen (k1 := 1) (s1 := 6) (by decide) (by decide) ?_
    exact rX_iret C0 rfl dX10_about_137
  refine z_ite hf (fun hx hf => ?_) (fun hx8 hf => ?_)
  · refine r_tsIn (off := 129) C0 138 dX10_about_9 (by rw [hx]; decide) (by rw [hx]; decide) (by rw [hx]; decide) (by decide) ?_
    refine r_aload_n C0 dX10_about_138 rfl 1 rfl ?_
    refine r_getR C0 (C := RX10) (T := TX10) cl_X10 (K_X10_o hk_p0) (k := 1) (by decide) qw_365 rfl (K_X10_now_r hk_p0) dX10_about_139 ?_
    refine r_callVi C0 (st := []) [] (p0 + 3) hf vs_79 (fun hl r1 hr1 => c_X5_numberAtFront hl F (p0 + 3) (K_X10_now_k hk_p0) M r1 hr1) (K_X5_o (K_X10_now_k hk_p0)) rfl rfl rfl rfl (Nat.le_of_ble_eq_true rfl) dX10_about_142 (zrm_ok rfl) (fun r1 hr1 hf => ?_)
    obtain rfl := Option.some.inj hf
    refine r_widen (k1 := 1) (s1 := 6) (by decide) (by decide) ?_
    exact rX_iret C0 rfl dX10_about_145
  refine z_ite hf (fun hx hf => ?_) (fun hx9 hf => ?_)
  · refine r_tsIn (off := 137) C0 146 dX10_about_9 (by rw [hx]; decide) (by rw [hx]; decide) (by rw [hx]; decide) (by decide) ?_
    refine r_aload_n C0 dX10_about_146 rfl 1 rfl ?_
    refine r_getR C0 (C := RX10) (T := TX10) cl_X10 (K_X10_o hk_p0) (k := 1) (by decide) qw_365 rfl (K_X10_now_r hk_p0) dX10_about_147 ?_
    refine r_getI C0 (C := RX5) (T := TX5) cl_X5 (K_X5_o (K_X10_now_k hk_p0)) (k := 11) (by decide) qw_384 rfl dX10_about_150 ?_
    obtain rfl := Option.some.inj hf
    refine r_widen (k1 := 1) (s1 := 6) (by decide) (by decide) ?_
    exact rX_iret C0 rfl dX10_about_153
  refine z_ite hf (fun hx hf => ?_) (fun hx10 hf => ?_)
  · refine r_tsIn (off := 145) C0 154 dX10_about_9 (by rw [hx]; decide) (by rw [hx]; decide) (by rw [hx]; decide) (by decide) ?_
    refine r_aload_n C0 dX10_about_154 rfl 0 rfl ?_
    refine r_callVi C0 (st := []) [] ((p0 + 3) + 5) hf vs_80 (fun hl r2 hr2 => c_X6_stageOfSplice hl F ((p0 + 3) + 5) (K_X5_teams_k (K_X10_now_k hk_p0)) M r2 hr2) (K_X6_o (K_X5_teams_k (K_X10_now_k hk_p0))) rfl rfl rfl rfl (Nat.le_of_ble_eq_true rfl) dX10_about_155 (zrm_ok rfl) (fun r2 hr2 hf => ?_)
    obtain rfl := Option.some.inj hf
    refine r_widen (k1 := 1) (s1 := 6) (by decide) (by decide) ?_
    exact rX_iret C0 rfl dX10_about_158
  refine z_ite hf (fun hx hf => ?_) (fun hx11 hf => ?_)
  · refine r_tsIn (off := 150) C0 159 dX10_about_9 (by rw [hx]; decide) (by rw [hx]; decide) (by rw [hx]; decide) (by decide) ?_
    refine r_aload_n C0 dX10_about_159 rfl 0 rfl ?_
    refine r_getI C0 (C := RX6) (T := TX6) cl_X6 (K_X6_o (K_X5_teams_k (K_X10_now_k hk_p0))) (k := 5) (by decide) qw_389 rfl dX10_about_160 ?_
    obtain rfl := Option.some.inj hf
    refine r_widen (k1 := 1) (s1 := 6) (by decide) (by decide) ?_
    exact rX_iret C0 rfl dX10_about_163
  refine z_ite hf (fun hx hf => ?_) (fun hx12 hf => ?_)
  · refine r_tsIn (off := 155) C0 164 dX10_about_9 (by rw [hx]; decide) (by rw [hx]; decide) (by rw [hx]; decide) (by decide) ?_
    refine r_aload_n C0 dX10_about_164 rfl 0 rfl ?_
    refine r_getI C0 (C := RX6) (T := TX6) cl_X6 (K_X6_o (K_X5_teams_k (K_X10_now_k hk_p0))) (k := 6) (by decide) qw_390 rfl dX10_about_165 ?_
    obtain rfl := Option.some.inj hf
    refine r_widen (k1 := 1) (s1 := 6) (by decide) (by decide) ?_
    exact rX_iret C0 rfl dX10_about_168
  refine z_ite hf (fun hx hf => ?_) (fun hx13 hf => ?_)
  · refine r_tsIn (off := 160) C0 169 dX10_about_9 (by rw [hx]; decide) (by rw [hx]; decide) (by rw [hx]; decide) (by decide) ?_
    refine r_aload_n C0 dX10_about_169 rfl 0 rfl ?_
    refine r_callVi C0 (st := []) [] ((p0 + 3) + 5) hf vs_81 (fun hl r3 hr3 => c_X6_freeTeams hl F ((p0 + 3) + 5) (K_X5_teams_k (K_X10_now_k hk_p0)) M r3 hr3) (K_X6_o (K_X5_teams_k (K_X10_now_k hk_p0))) rfl rfl rfl rfl (Nat.le_of_ble_eq_true rfl) dX10_about_170 (zrm_ok rfl) (fun r3 hr3 hf => ?_)
    obtain rfl := Option.some.inj hf
    refine r_widen (k1 := 1) (s1 := 6) (by decide) (by decide) ?_
    exact rX_iret C0 rfl dX10_about_173
  have hy0 := z_ne (a := 0) hx0 (by decide)
  have hy1 := z_ne (a := 1) hx1 (by decide)
  have hy2 := z_ne (a := 2) hx2 (by decide)
  have hy3 := z_ne (a := 3) hx3 (by decide)
  have hy4 := z_ne (a := 4) hx4 (by decide)
  have hy5 := z_ne (a := 5) hx5 (by decide)
  have hy6 := z_ne (a := 6) hx6 (by decide)
  have hy7 := z_ne (a := 7) hx7 (by decide)
  have hy8 := z_ne (a := 8) hx8 (by decide)
  have hy9 := z_ne (a := 9) hx9 (by decide)
  have hy10 := z_ne (a := 10) hx10 (by decide)
  have hy11 := z_ne (a := 11) hx11 (by decide)
  have hy12 := z_ne (a := 12) hx12 (by decide)
  have hy13 := z_ne (a := 13) hx13 (by decide)
  refine r_tsOut C0 174 dX10_about_9 (by omega) (by decide) ?_
  obtain rfl := Option.some.inj hf
  exact rX_throwS C0 (e := 1) (text := "no such number") (by decide +kernel) qw_339 qw_340 (by decide +kernel) ht_69_a ht_69_b dX10_about_174 dX10_about_177 dX10_about_178 dX10_about_180 dX10_about_183 rfl (Nat.le_of_ble_eq_true rfl) (Nat.le_of_ble_eq_true rfl) (Nat.le_of_ble_eq_true rfl) (Nat.le_of_ble_eq_true rfl) (Nat.le_of_ble_eq_true rfl) (Nat.le_of_ble_eq_true rfl)
