set_option maxHeartbeats 4000000 in
set_option maxRecDepth 100000 in
theorem c_L_number {l : Launch} {E : zEn} {S : zSk} {X : zMl} (hl : l.stackTraces = false) (F : Nat) (b : Nat) (len : Nat) (xs : Nat → Int32) (p1 : Int32) (hbA : ¬ E.2.2 ≤ b) (M : zMi) (r : Int32) (hf : f_L_number F len xs p1 M = some r) : zMS l E yL_number cL_number 2 (Option.some Jvm.ClassFile.FieldType.int) { frames := 0, cells := 0, slots := 0, locals := 0 } 0 0 [.ref b, .int p1] b len xs S M X (.inr (some (.int r)), M) := by
  refine zMS.intro (L0 := [(0, .ref b), (1, .int p1)]) hl (by decide) (Nat.le_of_ble_eq_true rfl) rfl (fun Γ C0 hX hbl => ?_)
  unfold f_L_number at hf
  refine r_iload_n C0 dL_number_0 rfl 1 rfl ?_
  refine r_aload_n C0 dL_number_1 rfl 0 rfl ?_
  refine r_slen C0 hX hbl hbA dL_number_2 ?_
  refine r_icmp_ge C0 12 dL_number_3 (by decide) hf (fun hf => ?_) (fun hf => ?_)
  · refine r_ldc (v := 15516779) C0 qw_666 dL_number_12 ?_
    refine r_iload_n C0 dL_number_14 rfl 1 rfl ?_
    refine r_iconst (v := 5) C0 dL_number_15 (by decide) ?_
    refine r_iadd C0 dL_number_16 ?_
    refine r_imul C0 dL_number_17 ?_
    refine r_sipush (v := 10099) C0 dL_number_18 (by decide) ?_
    refine r_iadd C0 dL_number_21 ?_
    refine r_ldc (v := 2147483647) C0 qw_667 dL_number_22 ?_
    refine r_iand C0 dL_number_24 ?_
    obtain rfl := Option.some.inj hf
    refine r_widen (k1 := 0) (s1 := 0) (Nat.le_of_ble_eq_true rfl) (Nat.le_of_ble_eq_true rfl) ?_
    exact rX_iret C0 rfl dL_number_25
  · refine r_aload_n C0 dL_number_6 rfl 0 rfl ?_
    refine r_iload_n C0 dL_number_7 rfl 1 rfl ?_
    refine r_sld C0 hX hbl hbA hf dL_number_8 (fun hf => ?_)
    refine r_goto C0 22 dL_number_9 (by decide) ?_
    refine r_ldc (v := 2147483647) C0 qw_667 dL_number_22 ?_
    refine r_iand C0 dL_number_24 ?_
    obtain rfl := Option.some.inj hf
    refine r_widen (k1 := 0) (s1 := 0) (Nat.le_of_ble_eq_true rfl) (Nat.le_of_ble_eq_true rfl) ?_
    exact rX_iret C0 rfl dL_number_25
set_option maxHeartbeats 4000000 in
set_option maxRecDepth 100000 in
theorem c_L_put {l : Launch} {E : zEn} {S : zSk} {X : zMl} (hl : l.stackTraces = false) (F : Nat) (p0 : Nat) (p1 : Nat) (p2 : Int32) (hk_p0 : K_X10 S p0) (hk_p1 : K_X10 S p1) (M : zMi) (r : Int32 × zMi) (hf : f_L_put F p0 p1 p2 M = some r) : zMX l E yL_put cL_put 3 (Option.some Jvm.ClassFile.FieldType.boolean) { frames := 9, cells := 4, slots := 24, locals := 155 } 4 24 [.ref p0, .ref p1, .int p2] S M X (.inr (some (.int r.1)), r.2) := by
  refine zMX.intro (L0 := [(0, .ref p0), (1, .ref p1), (2, .int p2)]) hl (by decide) (Nat.le_of_ble_eq_true rfl) rfl (fun Γ C0 => ?_)
  unfold f_L_put at hf
  refine r_aload_n C0 dL_put_0 rfl 0 rfl ?_
  refine r_iload_n C0 dL_put_1 rfl 2 rfl ?_
  refine r_callWw C0 (st := []) (kc1 := 2) [.ref p0, .int p2] hf vs_152 (fun hl r1 hr1 => c_L_tryAppend hl F p0 p2 hk_p0 M r1 hr1) rfl rfl (Nat.le_of_ble_eq_true rfl) dL_put_2 (zrm_k 4 rfl (Nat.le_of_ble_eq_true rfl)) (Nat.le_of_ble_eq_true rfl) (fun r1 hr1 hf => ?_)
  refine r_if_le C0 20 dL_put_5 (by decide) hf (fun hf => ?_) (fun hf => ?_)
  · refine r_iconst (v := 0) C0 dL_put_20 (by decide) ?_
    obtain rfl := Option.some.inj hf
    refine r_widen (k1 := 4) (s1 := 24) (Nat.le_of_ble_eq_true rfl) (Nat.le_of_ble_eq_true rfl) ?_
    exact rX_zret C0 rfl rfl dL_put_21
  · refine r_aload_n C0 dL_put_8 rfl 1 rfl ?_
    refine r_iload_n C0 dL_put_9 rfl 2 rfl ?_
    refine r_callWw C0 (st := []) (kc1 := 4) [.ref p1, .int p2] hf vs_152 (fun hl r2 hr2 => c_L_tryAppend hl F p1 p2 hk_p1 r1.2 r2 hr2) rfl rfl (Nat.le_of_ble_eq_true rfl) dL_put_10 (zrm_k 4 rfl (Nat.le_of_ble_eq_true rfl)) (Nat.le_of_ble_eq_true rfl) (fun r2 hr2 hf => ?_)
    refine r_if_le C0 20 dL_put_13 (by decide) hf (fun hf => ?_) (fun hf => ?_)
    · refine r_iconst (v := 0) C0 dL_put_20 (by decide) ?_
      obtain rfl := Option.some.inj hf
      refine r_widen (k1 := 4) (s1 := 24) (Nat.le_of_ble_eq_true rfl) (Nat.le_of_ble_eq_true rfl) ?_
      exact rX_zret C0 rfl rfl dL_put_21
    · refine r_iconst (v := 1) C0 dL_put_16 (by decide) ?_
      refine r_goto C0 21 dL_put_17 (by decide) ?_
      obtain rfl := Option.some.inj hf
      refine r_widen (k1 := 4) (s1 := 24) (Nat.le_of_ble_eq_true rfl) (Nat.le_of_ble_eq_true rfl) ?_
      exact rX_zret C0 rfl rfl dL_put_21
set_option maxHeartbeats 4000000 in
set_option maxRecDepth 100000 in
theorem g_L_digits_6 {Γ : zCx} {E : zEn} {S : zSk} {X : zMl} (C0 : zCt Γ E RL cL_digits 6 (Option.some Jvm.ClassFile.FieldType.boolean) [] { frames := 10, cells := 24, slots := 144, locals := 177 }) (F : Nat) (p0 : Nat) (p1 : Nat) (p2 : Int32) (p3 : Int32) (hk_p0 : K_X10 S p0) (hk_p1 : K_X10 S p1)  : ∀ (n : Nat) (v4 : Int32) (v5 : Int32) (M : zMi) (r : Int32 × zMi), f_L_digits_6 F p0 p1 p2 p3 n v4 v5 M = some r → ∀ kc : Nat, kc + (n * 4 + 0) ≤ 24 → zG Γ (zQX Γ E 24 144 S (.inr (some (.int r.1)), r.2) X) E 6 kc (6 * kc) S ZT M X 6 [(0, .ref p0), (1, .ref p1), (2, .int p2), (4, .int v4), (5, .int v5)] [] := by
  intro n
  induction n with
  | zero => intro v4 v5 M r hf; cases hf
  | succ n ih =>
    intro v4 v5 M r hf kc hkc
    refine r_iload C0 dL_digits_6 4 rfl ?_
    refine r_if_le C0 51 dL_digits_8 (by decide) hf (fun hf => ?_) (fun hf => ?_)
    · refine r_iload C0 dL_digits_51 3 rfl ?_
      obtain ⟨hv, hf⟩ := grd_some hf
      obtain rfl := Option.some.inj hf
      refine r_widen (k1 := 24) (s1 := 144) (by omega) (by omega) ?_
      exact rX_zret C0 hv rfl dL_digits_53
    · refine r_iload C0 dL_digits_11 3 rfl ?_
      refine r_if_eq C0 38 dL_digits_13 (by decide) hf (fun hf => ?_) (fun hf => ?_)
      · refine r_iconst (v := 0) C0 dL_digits_38 (by decide) ?_
        refine r_istore (L' := [(4, .int (0 : Int32)), (0, .ref p0), (1, .ref p1), (2, .int p2), (5, .int v5)]) C0 dL_digits_39 (by decide) rfl ?_
        refine r_iload C0 dL_digits_41 4 rfl ?_
        refine r_bipush (v := 10) C0 dL_digits_43 (by decide) ?_
        refine r_idiv' C0 dL_digits_45 (by decide) ?_
        refine r_nm hf (fun x1 hf => ?_)
        refine r_istore (L' := [(5, .int x1), (4, .int (0 : Int32)), (0, .ref p0), (1, .ref p1), (2, .int p2)]) C0 dL_digits_46 (by decide) rfl ?_
        refine r_goto C0 6 dL_digits_48 (by decide) ?_
        refine r_sub (L' := [(0, .ref p0), (1, .ref p1), (2, .int p2), (4, .int (0 : Int32)), (5, .int x1)]) [2, 3, 4, 1, 0] rfl ?_
        exact ih (0 : Int32) x1 M _ hf _ (by omega)
      · refine r_aload_n C0 dL_digits_16 rfl 0 rfl ?_
        refine r_aload_n C0 dL_digits_17 rfl 1 rfl ?_
        refine r_bipush (v := 48) C0 dL_digits_18 (by decide) ?_
        refine r_iload_n C0 dL_digits_20 rfl 2 rfl ?_
        refine r_iload C0 dL_digits_21 4 rfl ?_
        refine r_idiv C0 dL_digits_23 hf (fun hf => ?_)
        refine r_bipush (v := 10) C0 dL_digits_24 (by decide) ?_
        refine r_irem' C0 dL_digits_26 (by decide) ?_
        refine r_iadd C0 dL_digits_27 ?_
        refine r_callAw C0 (st := []) (kc1 := kc + 4) [.ref p0, .ref p1, .int ((48 : Int32) + ((p2 / v5) - (p2 / v5) / (10 : Int32) * (10 : Int32)))] hf vs_153 (fun hl r2 hr2 => c_L_put hl F p0 p1 ((48 : Int32) + ((p2 / v5) - (p2 / v5) / (10 : Int32) * (10 : Int32))) hk_p0 hk_p1 M r2 hr2) rfl rfl (Nat.le_of_ble_eq_true rfl) dL_digits_28 (zrm_k 24 rfl (by omega)) (by omega) (fun r2 hr2 hf => ?_)
        refine r_if_eq C0 38 dL_digits_31 (by decide) hf (fun hf => ?_) (fun hf => ?_)
        · refine r_iconst (v := 0) C0 dL_digits_38 (by decide) ?_
          refine r_istore (L' := [(4, .int (0 : Int32)), (0, .ref p0), (1, .ref p1), (2, .int p2), (5, .int v5)]) C0 dL_digits_39 (by decide) rfl ?_
          refine r_iload C0 dL_digits_41 4 rfl ?_
          refine r_bipush (v := 10) C0 dL_digits_43 (by decide) ?_
          refine r_idiv' C0 dL_digits_45 (by decide) ?_
          refine r_nm hf (fun x3 hf => ?_)
          refine r_istore (L' := [(5, .int x3), (4, .int (0 : Int32)), (0, .ref p0), (1, .ref p1), (2, .int p2)]) C0 dL_digits_46 (by decide) rfl ?_
          refine r_goto C0 6 dL_digits_48 (by decide) ?_
          refine r_sub (L' := [(0, .ref p0), (1, .ref p1), (2, .int p2), (4, .int (0 : Int32)), (5, .int x3)]) [2, 3, 4, 1, 0] rfl ?_
          exact ih (0 : Int32) x3 r2.2 _ hf _ (by omega)
        · refine r_iconst (v := 1) C0 dL_digits_34 (by decide) ?_
          refine r_goto C0 39 dL_digits_35 (by decide) ?_
          refine r_istore (L' := [(4, .int (1 : Int32)), (0, .ref p0), (1, .ref p1), (2, .int p2), (5, .int v5)]) C0 dL_digits_39 (by decide) rfl ?_
          refine r_iload C0 dL_digits_41 4 rfl ?_
          refine r_bipush (v := 10) C0 dL_digits_43 (by decide) ?_
          refine r_idiv' C0 dL_digits_45 (by decide) ?_
          refine r_nm hf (fun x4 hf => ?_)
          refine r_istore (L' := [(5, .int x4), (4, .int (1 : Int32)), (0, .ref p0), (1, .ref p1), (2, .int p2)]) C0 dL_digits_46 (by decide) rfl ?_
          refine r_goto C0 6 dL_digits_48 (by decide) ?_
          refine r_sub (L' := [(0, .ref p0), (1, .ref p1), (2, .int p2), (4, .int (1 : Int32)), (5, .int x4)]) [2, 3, 4, 1, 0] rfl ?_
          exact ih (1 : Int32) x4 r2.2 _ hf _ (by omega)
set_option maxHeartbeats 4000000 in
set_option maxRecDepth 100000 in
theorem c_L_digits {l : Launch} {E : zEn} {S : zSk} {X : zMl} (hl : l.stackTraces = false) (F : Nat) (p0 : Nat) (p1 : Nat) (p2 : Int32) (p3 : Int32) (hk_p0 : K_X10 S p0) (hk_p1 : K_X10 S p1) (M : zMi) (r : Int32 × zMi) (hf : f_L_digits F p0 p1 p2 p3 M = some r) : zMX l E yL_digits cL_digits 6 (Option.some Jvm.ClassFile.FieldType.boolean) { frames := 10, cells := 24, slots := 144, locals := 177 } 24 144 [.ref p0, .ref p1, .int p2, .int p3] S M X (.inr (some (.int r.1)), r.2) := by
  refine zMX.intro (L0 := [(0, .ref p0), (1, .ref p1), (2, .int p2), (3, .int p3)]) hl (by decide) (Nat.le_of_ble_eq_true rfl) rfl (fun Γ C0 => ?_)
  unfold f_L_digits at hf
  refine r_iconst (v := 1) C0 dL_digits_0 (by decide) ?_
  refine r_istore (L' := [(4, .int (1 : Int32)), (0, .ref p0), (1, .ref p1), (2, .int p2), (3, .int p3)]) C0 dL_digits_1 (by decide) rfl ?_
  refine r_iload_n C0 dL_digits_3 rfl 4 rfl ?_
  refine r_istore (L' := [(5, .int p3), (4, .int (1 : Int32)), (0, .ref p0), (1, .ref p1), (2, .int p2), (3, .int p3)]) C0 dL_digits_4 (by decide) rfl ?_
  refine r_sub (L' := [(0, .ref p0), (1, .ref p1), (2, .int p2), (4, .int (1 : Int32)), (5, .int p3)]) [2, 3, 4, 1, 0] rfl ?_
  exact g_L_digits_6 C0 F p0 p1 p2 p3 hk_p0 hk_p1 6 (1 : Int32) p3 M _ hf _ (Nat.le_of_ble_eq_true rfl)
set_option maxHeartbeats 4000000 in
set_option maxRecDepth 100000 in
theorem g_L_told_606 {Γ : zCx} {E : zEn} {S : zSk} {X : zMl} (C0 : zCt Γ E RL cL_told 14 (Option.some Jvm.ClassFile.FieldType.boolean) [] { frames := 11, cells := 1061, slots := 6366, locals := 202 }) (F : Nat) (b : Nat) (len : Nat) (xs : Nat → Int32) (p0 : Nat) (p1 : Nat) (p3 : Int32) (hX : va_X b len xs (gS Γ) (gS Γ).heap) (hbl : b < (gS Γ).heap.size) (hbA : ¬ E.2.2 ≤ b) (hk_p0 : K_X10 S p0) (hk_p1 : K_X10 S p1)  (v5 : Int32) (v6 : Int32) (v7 : Int32) (v8 : Int32) (v9 : Int32) (v10 : Int32) (M : zMi) (r : Int32 × zMi) (hf : f_L_told_606 F len xs p0 p1 p3 v5 v6 v7 v8 v9 v10 M = some r) (kc : Nat) (hkc : kc + (17) ≤ 1061) : zG Γ (zQX Γ E 1061 6366 S (.inr (some (.int r.1)), r.2) X) E 14 kc (6 * kc) S ZT M X 606 [(0, .ref p0), (1, .ref p1), (5, .int v5), (6, .int v6), (7, .int v7), (8, .int v8), (9, .int v9), (10, .int v10)] [] := by
  unfold f_L_told_606 at hf
  refine r_iload C0 dL_told_606 6 rfl ?_
  refine r_if_eq C0 745 dL_told_608 (by decide) hf (fun hf => ?_) (fun hf => ?_)
  · refine r_iconst (v := 0) C0 dL_told_745 (by decide) ?_
    obtain rfl := Option.some.inj hf
    refine r_widen (k1 := 1061) (s1 := 6366) (by omega) (by omega) ?_
    exact rX_zret C0 rfl rfl dL_told_746
  · refine r_aload_n C0 dL_told_611 rfl 0 rfl ?_
    refine r_callWw C0 (st := []) (kc1 := kc + 1) [.ref p0] hf vs_158 (fun hl r1 hr1 => c_L_tryLoad hl F p0 hk_p0 M r1 hr1) rfl rfl (Nat.le_of_ble_eq_true rfl) dL_told_612 (zrm_k 1061 rfl (by omega)) (by omega) (fun r1 hr1 hf => ?_)
    refine r_iload C0 dL_told_615 2 rfl ?_
    refine r_icmp_ne C0 745 dL_told_617 (by decide) hf (fun hf => ?_) (fun hf => ?_)
    · refine r_iconst (v := 0) C0 dL_told_745 (by decide) ?_
      obtain rfl := Option.some.inj hf
      refine r_widen (k1 := 1061) (s1 := 6366) (by omega) (by omega) ?_
      exact rX_zret C0 rfl rfl dL_told_746
    · refine r_aload_n C0 dL_told_620 rfl 1 rfl ?_
      refine r_callWw C0 (st := []) (kc1 := kc + 2) [.ref p1] hf vs_158 (fun hl r2 hr2 => c_L_tryLoad hl F p1 hk_p1 r1.2 r2 hr2) rfl rfl (Nat.le_of_ble_eq_true rfl) dL_told_621 (zrm_k 1061 rfl (by omega)) (by omega) (fun r2 hr2 hf => ?_)
      refine r_iload C0 dL_told_624 2 rfl ?_
      refine r_icmp_ne C0 745 dL_told_626 (by decide) hf (fun hf => ?_) (fun hf => ?_)
      · refine r_iconst (v := 0) C0 dL_told_745 (by decide) ?_
        obtain rfl := Option.some.inj hf
        refine r_widen (k1 := 1061) (s1 := 6366) (by omega) (by omega) ?_
        exact rX_zret C0 rfl rfl dL_told_746
      · refine r_aload_n C0 dL_told_629 rfl 0 rfl ?_
        refine r_iconst (v := 0) C0 dL_told_630 (by decide) ?_
        refine r_callWp C0 (st := []) (kc1 := kc + 3) [.ref p0, .int (0 : Int32)] hf vs_159 (fun hl r3 hr3 => c_L_tryAbout hl F p0 (0 : Int32) hk_p0 r2.2 r3 hr3) rfl rfl (Nat.le_of_ble_eq_true rfl) dL_told_631 (zrm_k 1061 rfl (by omega)) (by omega) (fun r3 hr3 hf => ?_)
        refine r_iload C0 dL_told_634 2 rfl ?_
        refine r_icmp_ne C0 745 dL_told_636 (by decide) hf (fun hf => ?_) (fun hf => ?_)
        · refine r_iconst (v := 0) C0 dL_told_745 (by decide) ?_
          obtain rfl := Option.some.inj hf
          refine r_widen (k1 := 1061) (s1 := 6366) (by omega) (by omega) ?_
          exact rX_zret C0 rfl rfl dL_told_746
        · refine r_aload_n C0 dL_told_639 rfl 0 rfl ?_
          refine r_iconst (v := 1) C0 dL_told_640 (by decide) ?_
          refine r_callWp C0 (st := []) (kc1 := kc + 4) [.ref p0, .int (1 : Int32)] hf vs_159 (fun hl r4 hr4 => c_L_tryAbout hl F p0 (1 : Int32) hk_p0 r2.2 r4 hr4) rfl rfl (Nat.le_of_ble_eq_true rfl) dL_told_641 (zrm_k 1061 rfl (by omega)) (by omega) (fun r4 hr4 hf => ?_)
          refine r_iload C0 dL_told_644 3 rfl ?_
          refine r_icmp_ne C0 745 dL_told_646 (by decide) hf (fun hf => ?_) (fun hf => ?_)
          · refine r_iconst (v := 0) C0 dL_told_745 (by decide) ?_
            obtain rfl := Option.some.inj hf
            refine r_widen (k1 := 1061) (s1 := 6366) (by omega) (by omega) ?_
            exact rX_zret C0 rfl rfl dL_told_746
          · refine r_aload_n C0 dL_told_649 rfl 0 rfl ?_
            refine r_iconst (v := 4) C0 dL_told_650 (by decide) ?_
            refine r_callWp C0 (st := []) (kc1 := kc + 5) [.ref p0, .int (4 : Int32)] hf vs_159 (fun hl r5 hr5 => c_L_tryAbout hl F p0 (4 : Int32) hk_p0 r2.2 r5 hr5) rfl rfl (Nat.le_of_ble_eq_true rfl) dL_told_651 (zrm_k 1061 rfl (by omega)) (by omega) (fun r5 hr5 hf => ?_)
            refine r_iload C0 dL_told_654 5 rfl ?_
            refine r_icmp_ne C0 745 dL_told_656 (by decide) hf (fun hf => ?_) (fun hf => ?_)
            · refine r_iconst (v := 0) C0 dL_told_745 (by decide) ?_
              obtain rfl := Option.some.inj hf
              refine r_widen (k1 := 1061) (s1 := 6366) (by omega) (by omega) ?_
              exact rX_zret C0 rfl rfl dL_told_746
            · refine r_aload_n C0 dL_told_659 rfl 0 rfl ?_
              refine r_iconst (v := 0) C0 dL_told_660 (by decide) ?_
              refine r_callWp C0 (st := []) (kc1 := kc + 6) [.ref p0, .int (0 : Int32)] hf vs_160 (fun hl r6 hr6 => c_L_tryAccount hl F p0 (0 : Int32) hk_p0 r2.2 r6 hr6) rfl rfl (Nat.le_of_ble_eq_true rfl) dL_told_661 (zrm_k 1061 rfl (by omega)) (by omega) (fun r6 hr6 hf => ?_)
              refine r_iload C0 dL_told_664 5 rfl ?_
              refine r_icmp_ne C0 745 dL_told_666 (by decide) hf (fun hf => ?_) (fun hf => ?_)
              · refine r_iconst (v := 0) C0 dL_told_745 (by decide) ?_
                obtain rfl := Option.some.inj hf
                refine r_widen (k1 := 1061) (s1 := 6366) (by omega) (by omega) ?_
                exact rX_zret C0 rfl rfl dL_told_746
              · refine r_aload_n C0 dL_told_669 rfl 0 rfl ?_
                refine r_iconst (v := 5) C0 dL_told_670 (by decide) ?_
                refine r_callWp C0 (st := []) (kc1 := kc + 7) [.ref p0, .int (5 : Int32)] hf vs_159 (fun hl r7 hr7 => c_L_tryAbout hl F p0 (5 : Int32) hk_p0 r2.2 r7 hr7) rfl rfl (Nat.le_of_ble_eq_true rfl) dL_told_671 (zrm_k 1061 rfl (by omega)) (by omega) (fun r7 hr7 hf => ?_)
                refine r_if_ne C0 745 dL_told_674 (by decide) hf (fun hf => ?_) (fun hf => ?_)
                · refine r_iconst (v := 0) C0 dL_told_745 (by decide) ?_
                  obtain rfl := Option.some.inj hf
                  refine r_widen (k1 := 1061) (s1 := 6366) (by omega) (by omega) ?_
                  exact rX_zret C0 rfl rfl dL_told_746
                · refine r_aload_n C0 dL_told_677 rfl 0 rfl ?_
                  refine r_iconst (v := 0) C0 dL_told_678 (by decide) ?_
                  refine r_iconst (v := 5) C0 dL_told_679 (by decide) ?_
                  refine r_callWp C0 (st := []) (kc1 := kc + 9) [.ref p0, .int (0 : Int32), .int (5 : Int32)] hf vs_161 (fun hl r8 hr8 => c_L_tryShip hl F p0 (0 : Int32) (5 : Int32) hk_p0 r2.2 r8 hr8) rfl rfl (Nat.le_of_ble_eq_true rfl) dL_told_680 (zrm_k 1061 rfl (by omega)) (by omega) (fun r8 hr8 hf => ?_)
                  refine r_if_ne C0 745 dL_told_683 (by decide) hf (fun hf => ?_) (fun hf => ?_)
                  · refine r_iconst (v := 0) C0 dL_told_745 (by decide) ?_
                    obtain rfl := Option.some.inj hf
                    refine r_widen (k1 := 1061) (s1 := 6366) (by omega) (by omega) ?_
                    exact rX_zret C0 rfl rfl dL_told_746
                  · refine r_aload_n C0 dL_told_686 rfl 0 rfl ?_
                    refine r_callWw C0 (st := []) (kc1 := kc + 10) [.ref p0] hf vs_162 (fun hl r9 hr9 => c_L_tryUndo hl F p0 hk_p0 r2.2 r9 hr9) rfl rfl (Nat.le_of_ble_eq_true rfl) dL_told_687 (zrm_k 1061 rfl (by omega)) (by omega) (fun r9 hr9 hf => ?_)
                    refine r_sipush (v := -1003) C0 dL_told_690 (by decide) ?_
                    refine r_icmp_ne C0 745 dL_told_693 (by decide) hf (fun hf => ?_) (fun hf => ?_)
                    · refine r_iconst (v := 0) C0 dL_told_745 (by decide) ?_
                      obtain rfl := Option.some.inj hf
                      refine r_widen (k1 := 1061) (s1 := 6366) (by omega) (by omega) ?_
                      exact rX_zret C0 rfl rfl dL_told_746
                    · refine r_aload_n C0 dL_told_696 rfl 1 rfl ?_
                      refine r_iconst (v := 1) C0 dL_told_697 (by decide) ?_
                      refine r_callWw C0 (st := []) (kc1 := kc + 12) [.ref p1, .int (1 : Int32)] hf vs_163 (fun hl r10 hr10 => c_L_tryRestore hl F p1 (1 : Int32) hk_p1 r9.2 r10 hr10) rfl rfl (Nat.le_of_ble_eq_true rfl) dL_told_698 (zrm_k 1061 rfl (by omega)) (by omega) (fun r10 hr10 hf => ?_)
                      refine r_sipush (v := -1003) C0 dL_told_701 (by decide) ?_
                      refine r_icmp_ne C0 745 dL_told_704 (by decide) hf (fun hf => ?_) (fun hf => ?_)
                      · refine r_iconst (v := 0) C0 dL_told_745 (by decide) ?_
                        obtain rfl := Option.some.inj hf
                        refine r_widen (k1 := 1061) (s1 := 6366) (by omega) (by omega) ?_
                        exact rX_zret C0 rfl rfl dL_told_746
                      · refine r_aload_n C0 dL_told_707 rfl 0 rfl ?_
                        refine r_aload_n C0 dL_told_708 rfl 1 rfl ?_
                        refine r_bipush (v := 119) C0 dL_told_709 (by decide) ?_
                        refine r_callAw C0 (st := []) (kc1 := kc + 16) [.ref p0, .ref p1, .int (119 : Int32)] hf vs_153 (fun hl r11 hr11 => c_L_put hl F p0 p1 (119 : Int32) hk_p0 hk_p1 r10.2 r11 hr11) rfl rfl (Nat.le_of_ble_eq_true rfl) dL_told_711 (zrm_k 1061 rfl (by omega)) (by omega) (fun r11 hr11 hf => ?_)
                        refine r_if_eq C0 745 dL_told_714 (by decide) hf (fun hf => ?_) (fun hf => ?_)
                        · refine r_iconst (v := 0) C0 dL_told_745 (by decide) ?_
                          obtain rfl := Option.some.inj hf
                          refine r_widen (k1 := 1061) (s1 := 6366) (by omega) (by omega) ?_
                          exact rX_zret C0 rfl rfl dL_told_746
                        · refine r_aload_n C0 dL_told_717 rfl 0 rfl ?_
                          refine r_callVL C0 (st := []) [] p0 hf vs_156 (fun hl r12 hr12 => c_X10_errorPosition hl F p0 hk_p0 r11.2 r12 hr12) (K_X10_o hk_p0) rfl rfl rfl rfl (Nat.le_of_ble_eq_true rfl) dL_told_718 (zrm_k 1061 rfl (by omega)) (fun r12 hr12 hf => ?_)
                          refine r_iload C0 dL_told_721 7 rfl ?_
                          refine r_iconst (v := 1) C0 dL_told_723 (by decide) ?_
                          refine r_iadd C0 dL_told_724 ?_
                          refine r_iload C0 dL_told_725 4 rfl ?_
                          refine r_iadd C0 dL_told_727 ?_
                          refine r_icmp_ne C0 745 dL_told_728 (by decide) hf (fun hf => ?_) (fun hf => ?_)
                          · refine r_iconst (v := 0) C0 dL_told_745 (by decide) ?_
                            obtain rfl := Option.some.inj hf
                            refine r_widen (k1 := 1061) (s1 := 6366) (by omega) (by omega) ?_
                            exact rX_zret C0 rfl rfl dL_told_746
                          · refine r_aload_n C0 dL_told_731 rfl 0 rfl ?_
                            refine r_callWw C0 (st := []) (kc1 := kc + 17) [.ref p0] hf vs_158 (fun hl r13 hr13 => c_L_tryLoad hl F p0 hk_p0 r12.2 r13 hr13) rfl rfl (Nat.le_of_ble_eq_true rfl) dL_told_732 (zrm_k 1061 rfl (by omega)) (by omega) (fun r13 hr13 hf => ?_)
                            refine r_sipush (v := -1003) C0 dL_told_735 (by decide) ?_
                            refine r_icmp_ne C0 745 dL_told_738 (by decide) hf (fun hf => ?_) (fun hf => ?_)
                            · refine r_iconst (v := 0) C0 dL_told_745 (by decide) ?_
                              obtain rfl := Option.some.inj hf
                              refine r_widen (k1 := 1061) (s1 := 6366) (by omega) (by omega) ?_
                              exact rX_zret C0 rfl rfl dL_told_746
                            · refine r_iconst (v := 1) C0 dL_told_741 (by decide) ?_
                              refine r_goto C0 746 dL_told_742 (by decide) ?_
                              obtain rfl := Option.some.inj hf
                              refine r_widen (k1 := 1061) (s1 := 6366) (by omega) (by omega) ?_
                              exact rX_zret C0 rfl rfl dL_told_746
set_option maxHeartbeats 4000000 in
set_option maxRecDepth 100000 in
theorem g_L_told_576 {Γ : zCx} {E : zEn} {S : zSk} {X : zMl} (C0 : zCt Γ E RL cL_told 14 (Option.some Jvm.ClassFile.FieldType.boolean) [] { frames := 11, cells := 1061, slots := 6366, locals := 202 }) (F : Nat) (b : Nat) (len : Nat) (xs : Nat → Int32) (p0 : Nat) (p1 : Nat) (p3 : Int32) (k_532 : Int32 → Int32 → Int32 → Int32 → Int32 → Int32 → Int32 → zMi → Option (Int32 × zMi)) (TK_532 : Nat) (hX : va_X b len xs (gS Γ) (gS Γ).heap) (hbl : b < (gS Γ).heap.size) (hbA : ¬ E.2.2 ≤ b) (hk_p0 : K_X10 S p0) (hk_p1 : K_X10 S p1) (hk_k_532 : ∀ (v5_ : Int32) (v6_ : Int32) (v7_ : Int32) (v8_ : Int32) (v9_ : Int32) (v10_ : Int32) (v11_ : Int32) (M : zMi) (r : Int32 × zMi) , k_532 v5_ v6_ v7_ v8_ v9_ v10_ v11_ M = some r → ∀ kc : Nat, kc + TK_532 ≤ 1061 → zG Γ (zQX Γ E 1061 6366 S (.inr (some (.int r.1)), r.2) X) E 14 kc (6 * kc) S ZT M X 532 [(0, .ref p0), (1, .ref p1), (2, .ref b), (3, .int p3), (5, .int v5_), (6, .int v6_), (7, .int v7_), (8, .int v8_), (9, .int v9_), (10, .int v10_), (11, .int v11_)] [])  (v5 : Int32) (v6 : Int32) (v7 : Int32) (v8 : Int32) (v10 : Int32) (v11 : Int32) (s0 : Int32) (s1 : Int32) (M : zMi) (r : Int32 × zMi) (hf : f_L_told_576 F len xs p0 p1 p3 k_532 v5 v6 v7 v8 v10 v11 s0 s1 M = some r) (kc : Nat) (hkc : kc + (4 + TK_532) ≤ 1061) : zG Γ (zQX Γ E 1061 6366 S (.inr (some (.int r.1)), r.2) X) E 14 kc (6 * kc) S ZT M X 576 [(0, .ref p0), (1, .ref p1), (2, .ref b), (3, .int p3), (5, .int v5), (6, .int v6), (7, .int v7), (8, .int v8), (10, .int v10), (11, .int v11)] [.int s0, .int s1, .int (48 : Int32), .ref p1, .ref p0] := by
  unfold f_L_told_576 at hf
  refine r_irem C0 dL_told_576 hf (fun hf => ?_)
  refine r_iadd C0 dL_told_577 ?_
  refine r_callAw C0 (st := []) (kc1 := kc + 4) [.ref p0, .ref p1, .int ((48 : Int32) + (s1 - s1 / s0 * s0))] hf vs_153 (fun hl r1 hr1 => c_L_put hl F p0 p1 ((48 : Int32) + (s1 - s1 / s0 * s0)) hk_p0 hk_p1 M r1 hr1) rfl rfl (Nat.le_of_ble_eq_true rfl) dL_told_578 (zrm_k 1061 rfl (by omega)) (by omega) (fun r1 hr1 hf => ?_)
  refine r_if_eq C0 597 dL_told_581 (by decide) hf (fun hf => ?_) (fun hf => ?_)
  · refine r_iconst (v := 0) C0 dL_told_597 (by decide) ?_
    refine r_istore (L' := [(9, .int (0 : Int32)), (0, .ref p0), (1, .ref p1), (2, .ref b), (3, .int p3), (5, .int v5), (6, .int v6), (7, .int v7), (8, .int v8), (10, .int v10), (11, .int v11)]) C0 dL_told_598 (by decide) rfl ?_
    refine r_iinc (j := 10) (v := (v11 + (1 : Int32))) (L' := [(11, .int (v11 + (1 : Int32))), (9, .int (0 : Int32)), (0, .ref p0), (1, .ref p1), (2, .ref b), (3, .int p3), (5, .int v5), (6, .int v6), (7, .int v7), (8, .int v8), (10, .int v10)]) C0 dL_told_600 rfl rfl (by decide) rfl ?_
    refine r_goto C0 532 dL_told_603 (by decide) ?_
    refine r_sub (L' := [(0, .ref p0), (1, .ref p1), (2, .ref b), (3, .int p3), (5, .int v5), (6, .int v6), (7, .int v7), (8, .int v8), (9, .int (0 : Int32)), (10, .int v10), (11, .int (v11 + (1 : Int32)))]) [2, 3, 4, 5, 6, 7, 8, 9, 1, 10, 0] rfl ?_
    exact hk_k_532 v5 v6 v7 v8 (0 : Int32) v10 (v11 + (1 : Int32)) r1.2 _ hf _ (by omega)
  · refine r_aload_n C0 dL_told_584 rfl 0 rfl ?_
    refine r_callVL C0 (st := []) [] p0 hf vs_156 (fun hl r2 hr2 => c_X10_errorPosition hl F p0 hk_p0 r1.2 r2 hr2) (K_X10_o hk_p0) rfl rfl rfl rfl (Nat.le_of_ble_eq_true rfl) dL_told_585 (zrm_k 1061 rfl (by omega)) (fun r2 hr2 hf => ?_)
    refine r_bipush (v := -9) C0 dL_told_588 (by decide) ?_
    refine r_icmp_ne C0 597 dL_told_590 (by decide) hf (fun hf => ?_) (fun hf => ?_)
    · refine r_iconst (v := 0) C0 dL_told_597 (by decide) ?_
      refine r_istore (L' := [(9, .int (0 : Int32)), (0, .ref p0), (1, .ref p1), (2, .ref b), (3, .int p3), (5, .int v5), (6, .int v6), (7, .int v7), (8, .int v8), (10, .int v10), (11, .int v11)]) C0 dL_told_598 (by decide) rfl ?_
      refine r_iinc (j := 10) (v := (v11 + (1 : Int32))) (L' := [(11, .int (v11 + (1 : Int32))), (9, .int (0 : Int32)), (0, .ref p0), (1, .ref p1), (2, .ref b), (3, .int p3), (5, .int v5), (6, .int v6), (7, .int v7), (8, .int v8), (10, .int v10)]) C0 dL_told_600 rfl rfl (by decide) rfl ?_
      refine r_goto C0 532 dL_told_603 (by decide) ?_
      refine r_sub (L' := [(0, .ref p0), (1, .ref p1), (2, .ref b), (3, .int p3), (5, .int v5), (6, .int v6), (7, .int v7), (8, .int v8), (9, .int (0 : Int32)), (10, .int v10), (11, .int (v11 + (1 : Int32)))]) [2, 3, 4, 5, 6, 7, 8, 9, 1, 10, 0] rfl ?_
      exact hk_k_532 v5 v6 v7 v8 (0 : Int32) v10 (v11 + (1 : Int32)) r2.2 _ hf _ (by omega)
    · refine r_iconst (v := 1) C0 dL_told_593 (by decide) ?_
      refine r_goto C0 598 dL_told_594 (by decide) ?_
      refine r_istore (L' := [(9, .int (1 : Int32)), (0, .ref p0), (1, .ref p1), (2, .ref b), (3, .int p3), (5, .int v5), (6, .int v6), (7, .int v7), (8, .int v8), (10, .int v10), (11, .int v11)]) C0 dL_told_598 (by decide) rfl ?_
      refine r_iinc (j := 10) (v := (v11 + (1 : Int32))) (L' := [(11, .int (v11 + (1 : Int32))), (9, .int (1 : Int32)), (0, .ref p0), (1, .ref p1), (2, .ref b), (3, .int p3), (5, .int v5), (6, .int v6), (7, .int v7), (8, .int v8), (10, .int v10)]) C0 dL_told_600 rfl rfl (by decide) rfl ?_
      refine r_goto C0 532 dL_told_603 (by decide) ?_
      refine r_sub (L' := [(0, .ref p0), (1, .ref p1), (2, .ref b), (3, .int p3), (5, .int v5), (6, .int v6), (7, .int v7), (8, .int v8), (9, .int (1 : Int32)), (10, .int v10), (11, .int (v11 + (1 : Int32)))]) [2, 3, 4, 5, 6, 7, 8, 9, 1, 10, 0] rfl ?_
      exact hk_k_532 v5 v6 v7 v8 (1 : Int32) v10 (v11 + (1 : Int32)) r2.2 _ hf _ (by omega)
set_option maxHeartbeats 4000000 in
set_option maxRecDepth 100000 in
theorem g_L_told_532 {Γ : zCx} {E : zEn} {S : zSk} {X : zMl} (C0 : zCt Γ E RL cL_told 14 (Option.some Jvm.ClassFile.FieldType.boolean) [] { frames := 11, cells := 1061, slots := 6366, locals := 202 }) (F : Nat) (b : Nat) (len : Nat) (xs : Nat → Int32) (p0 : Nat) (p1 : Nat) (p3 : Int32) (hX : va_X b len xs (gS Γ) (gS Γ).heap) (hbl : b < (gS Γ).heap.size) (hbA : ¬ E.2.2 ≤ b) (hk_p0 : K_X10 S p0) (hk_p1 : K_X10 S p1)  : ∀ (n : Nat) (v5 : Int32) (v6 : Int32) (v7 : Int32) (v8 : Int32) (v9 : Int32) (v10 : Int32) (v11 : Int32) (M : zMi) (r : Int32 × zMi), f_L_told_532 F len xs p0 p1 p3 n v5 v6 v7 v8 v9 v10 v11 M = some r → ∀ kc : Nat, kc + (n * 4 + 17) ≤ 1061 → zG Γ (zQX Γ E 1061 6366 S (.inr (some (.int r.1)), r.2) X) E 14 kc (6 * kc) S ZT M X 532 [(0, .ref p0), (1, .ref p1), (2, .ref b), (3, .int p3), (5, .int v5), (6, .int v6), (7, .int v7), (8, .int v8), (9, .int v9), (10, .int v10), (11, .int v11)] [] := by
  intro n
  induction n with
  | zero => intro v5 v6 v7 v8 v9 v10 v11 M r hf; cases hf
  | succ n ih =>
    intro v5 v6 v7 v8 v9 v10 v11 M r hf kc hkc
    refine r_iload C0 dL_told_532 10 rfl ?_
    refine r_iload C0 dL_told_534 6 rfl ?_
    refine r_icmp_ge C0 606 dL_told_536 (by decide) hf (fun hf => ?_) (fun hf => ?_)
    · refine r_sub (L' := [(0, .ref p0), (1, .ref p1), (5, .int v5), (6, .int v6), (7, .int v7), (8, .int v8), (9, .int v9), (10, .int v10)]) [0, 1, 4, 5, 6, 7, 8, 9] rfl ?_
      exact g_L_told_606 C0 F b len xs p0 p1 p3 hX hbl hbA hk_p0 hk_p1 v5 v6 v7 v8 v9 v10 M _ hf _ (by omega)
    · refine r_iload C0 dL_told_539 8 rfl ?_
      refine r_if_eq C0 606 dL_told_541 (by decide) hf (fun hf => ?_) (fun hf => ?_)
      · refine r_sub (L' := [(0, .ref p0), (1, .ref p1), (5, .int v5), (6, .int v6), (7, .int v7), (8, .int v8), (9, .int v9), (10, .int v10)]) [0, 1, 4, 5, 6, 7, 8, 9] rfl ?_
        exact g_L_told_606 C0 F b len xs p0 p1 p3 hX hbl hbA hk_p0 hk_p1 v5 v6 v7 v8 v9 v10 M _ hf _ (by omega)
      · refine r_aload_n C0 dL_told_544 rfl 0 rfl ?_
        refine r_aload_n C0 dL_told_545 rfl 1 rfl ?_
        refine r_bipush (v := 48) C0 dL_told_546 (by decide) ?_
        refine r_aload_n C0 dL_told_548 rfl 2 rfl ?_
        refine r_iload_n C0 dL_told_549 rfl 3 rfl ?_
        refine r_bipush (v := 9) C0 dL_told_550 (by decide) ?_
        refine r_iadd C0 dL_told_552 ?_
        refine r_callSN C0 (st := [.int (48 : Int32), .ref p1, .ref p0]) (kc1 := kc) [.ref b, .int (p3 + (9 : Int32))] hX hbl hbA hf vs_154 (fun hl r1 hr1 => c_L_number hl F b len xs (p3 + (9 : Int32)) hbA M r1 hr1) rfl rfl (Nat.le_of_ble_eq_true rfl) dL_told_553 (zrm_k 1061 rfl (by omega)) (by omega) (fun r1 hr1 hf => ?_)
        refine r_iconst (v := 1) C0 dL_told_556 (by decide) ?_
        refine r_iconst (v := 5) C0 dL_told_557 (by decide) ?_
        refine r_iload C0 dL_told_558 10 rfl ?_
        refine r_imul C0 dL_told_560 ?_
        refine r_iadd C0 dL_told_561 ?_
        refine r_idiv C0 dL_told_562 hf (fun hf => ?_)
        refine r_iload C0 dL_told_563 10 rfl ?_
        refine r_iconst (v := 2) C0 dL_told_565 (by decide) ?_
        refine r_irem' C0 dL_told_566 (by decide) ?_
        refine r_if_ne C0 575 dL_told_567 (by decide) hf (fun hf => ?_) (fun hf => ?_)
        · refine r_iconst (v := 4) C0 dL_told_575 (by decide) ?_
          refine r_sub (L' := [(0, .ref p0), (1, .ref p1), (2, .ref b), (3, .int p3), (5, .int v5), (6, .int v6), (7, .int v7), (8, .int v8), (10, .int v10), (11, .int v11)]) [0, 1, 2, 3, 4, 5, 6, 7, 9, 10] rfl ?_
          exact g_L_told_576 C0 F b len xs p0 p1 p3 (f_L_told_532 F len xs p0 p1 p3 n) (n * 4 + 17) hX hbl hbA hk_p0 hk_p1 ih v5 v6 v7 v8 v10 v11 (4 : Int32) (r1 / ((1 : Int32) + ((5 : Int32) * v11))) M _ hf _ (by omega)
        · refine r_bipush (v := 10) C0 dL_told_570 (by decide) ?_
          refine r_goto C0 576 dL_told_572 (by decide) ?_
          refine r_sub (L' := [(0, .ref p0), (1, .ref p1), (2, .ref b), (3, .int p3), (5, .int v5), (6, .int v6), (7, .int v7), (8, .int v8), (10, .int v10), (11, .int v11)]) [0, 1, 2, 3, 4, 5, 6, 7, 9, 10] rfl ?_
          exact g_L_told_576 C0 F b len xs p0 p1 p3 (f_L_told_532 F len xs p0 p1 p3 n) (n * 4 + 17) hX hbl hbA hk_p0 hk_p1 ih v5 v6 v7 v8 v10 v11 (10 : Int32) (r1 / ((1 : Int32) + ((5 : Int32) * v11))) M _ hf _ (by omega)
set_option maxHeartbeats 4000000 in
set_option maxRecDepth 100000 in
theorem g_L_told_486 {Γ : zCx} {E : zEn} {S : zSk} {X : zMl} (C0 : zCt Γ E RL cL_told 14 (Option.some Jvm.ClassFile.FieldType.boolean) [] { frames := 11, cells := 1061, slots := 6366, locals := 202 }) (F : Nat) (b : Nat) (len : Nat) (xs : Nat → Int32) (p0 : Nat) (p1 : Nat) (p3 : Int32) (hX : va_X b len xs (gS Γ) (gS Γ).heap) (hbl : b < (gS Γ).heap.size) (hbA : ¬ E.2.2 ≤ b) (hk_p0 : K_X10 S p0) (hk_p1 : K_X10 S p1)  (v5 : Int32) (v6 : Int32) (v7 : Int32) (v8 : Int32) (v9 : Int32) (v10 : Int32) (M : zMi) (r : Int32 × zMi) (hf : f_L_told_486 F len xs p0 p1 p3 v5 v6 v7 v8 v9 v10 M = some r) (kc : Nat) (hkc : kc + (65) ≤ 1061) : zG Γ (zQX Γ E 1061 6366 S (.inr (some (.int r.1)), r.2) X) E 14 kc (6 * kc) S ZT M X 486 [(0, .ref p0), (1, .ref p1), (2, .ref b), (3, .int p3), (5, .int v5), (6, .int v6), (7, .int v7), (8, .int v8), (9, .int v9), (10, .int v10)] [] := by
  unfold f_L_told_486 at hf
  refine r_iload C0 dL_told_486 9 rfl ?_
  refine r_bipush (v := 9) C0 dL_told_488 (by decide) ?_
  refine r_iload C0 dL_told_490 5 rfl ?_
  refine r_imul C0 dL_told_492 ?_
  refine r_iadd C0 dL_told_493 ?_
  refine r_nm hf (fun x1 hf => ?_)
  refine r_istore (L' := [(10, .int x1), (0, .ref p0), (1, .ref p1), (2, .ref b), (3, .int p3), (5, .int v5), (6, .int v6), (7, .int v7), (8, .int v8), (9, .int v9)]) C0 dL_told_494 (by decide) rfl ?_
  refine r_iload C0 dL_told_496 9 rfl ?_
  refine r_if_eq C0 526 dL_told_498 (by decide) hf (fun hf => ?_) (fun hf => ?_)
  · refine r_iconst (v := 0) C0 dL_told_526 (by decide) ?_
    refine r_istore (L' := [(9, .int (0 : Int32)), (10, .int x1), (0, .ref p0), (1, .ref p1), (2, .ref b), (3, .int p3), (5, .int v5), (6, .int v6), (7, .int v7), (8, .int v8)]) C0 dL_told_527 (by decide) rfl ?_
    refine r_iconst (v := 0) C0 dL_told_529 (by decide) ?_
    refine r_istore (L' := [(11, .int (0 : Int32)), (9, .int (0 : Int32)), (10, .int x1), (0, .ref p0), (1, .ref p1), (2, .ref b), (3, .int p3), (5, .int v5), (6, .int v6), (7, .int v7), (8, .int v8)]) C0 dL_told_530 (by decide) rfl ?_
    refine r_sub (L' := [(0, .ref p0), (1, .ref p1), (2, .ref b), (3, .int p3), (5, .int v5), (6, .int v6), (7, .int v7), (8, .int v8), (9, .int (0 : Int32)), (10, .int x1), (11, .int (0 : Int32))]) [3, 4, 5, 6, 7, 8, 9, 10, 1, 2, 0] rfl ?_
    exact g_L_told_532 C0 F b len xs p0 p1 p3 hX hbl hbA hk_p0 hk_p1 11 v5 v6 v7 v8 (0 : Int32) x1 (0 : Int32) M _ hf _ (by omega)
  · refine r_aload_n C0 dL_told_501 rfl 1 rfl ?_
    refine r_aload_n C0 dL_told_502 rfl 2 rfl ?_
    refine r_bipush (v := 119) C0 dL_told_503 (by decide) ?_
    refine r_callAw C0 (st := []) (kc1 := kc + 4) [.ref p0, .ref p1, .int (119 : Int32)] hf vs_153 (fun hl r2 hr2 => c_L_put hl F p0 p1 (119 : Int32) hk_p0 hk_p1 M r2 hr2) rfl rfl (Nat.le_of_ble_eq_true rfl) dL_told_505 (zrm_k 1061 rfl (by omega)) (by omega) (fun r2 hr2 hf => ?_)
    refine r_if_eq C0 526 dL_told_508 (by decide) hf (fun hf => ?_) (fun hf => ?_)
    · refine r_iconst (v := 0) C0 dL_told_526 (by decide) ?_
      refine r_istore (L' := [(9, .int (0 : Int32)), (10, .int x1), (0, .ref p0), (1, .ref p1), (2, .ref b), (3, .int p3), (5, .int v5), (6, .int v6), (7, .int v7), (8, .int v8)]) C0 dL_told_527 (by decide) rfl ?_
      refine r_iconst (v := 0) C0 dL_told_529 (by decide) ?_
      refine r_istore (L' := [(11, .int (0 : Int32)), (9, .int (0 : Int32)), (10, .int x1), (0, .ref p0), (1, .ref p1), (2, .ref b), (3, .int p3), (5, .int v5), (6, .int v6), (7, .int v7), (8, .int v8)]) C0 dL_told_530 (by decide) rfl ?_
      refine r_sub (L' := [(0, .ref p0), (1, .ref p1), (2, .ref b), (3, .int p3), (5, .int v5), (6, .int v6), (7, .int v7), (8, .int v8), (9, .int (0 : Int32)), (10, .int x1), (11, .int (0 : Int32))]) [3, 4, 5, 6, 7, 8, 9, 10, 1, 2, 0] rfl ?_
      exact g_L_told_532 C0 F b len xs p0 p1 p3 hX hbl hbA hk_p0 hk_p1 11 v5 v6 v7 v8 (0 : Int32) x1 (0 : Int32) r2.2 _ hf _ (by omega)
    · refine r_aload_n C0 dL_told_511 rfl 1 rfl ?_
      refine r_callVL C0 (st := []) [] p0 hf vs_156 (fun hl r3 hr3 => c_X10_errorPosition hl F p0 hk_p0 r2.2 r3 hr3) (K_X10_o hk_p0) rfl rfl rfl rfl (Nat.le_of_ble_eq_true rfl) dL_told_512 (zrm_k 1061 rfl (by omega)) (fun r3 hr3 hf => ?_)
      refine r_iload C0 dL_told_515 0 rfl ?_
      refine r_iconst (v := 1) C0 dL_told_517 (by decide) ?_
      refine r_iadd C0 dL_told_518 ?_
      refine r_icmp_ne C0 526 dL_told_519 (by decide) hf (fun hf => ?_) (fun hf => ?_)
      · refine r_iconst (v := 0) C0 dL_told_526 (by decide) ?_
        refine r_istore (L' := [(9, .int (0 : Int32)), (10, .int x1), (0, .ref p0), (1, .ref p1), (2, .ref b), (3, .int p3), (5, .int v5), (6, .int v6), (7, .int v7), (8, .int v8)]) C0 dL_told_527 (by decide) rfl ?_
        refine r_iconst (v := 0) C0 dL_told_529 (by decide) ?_
        refine r_istore (L' := [(11, .int (0 : Int32)), (9, .int (0 : Int32)), (10, .int x1), (0, .ref p0), (1, .ref p1), (2, .ref b), (3, .int p3), (5, .int v5), (6, .int v6), (7, .int v7), (8, .int v8)]) C0 dL_told_530 (by decide) rfl ?_
        refine r_sub (L' := [(0, .ref p0), (1, .ref p1), (2, .ref b), (3, .int p3), (5, .int v5), (6, .int v6), (7, .int v7), (8, .int v8), (9, .int (0 : Int32)), (10, .int x1), (11, .int (0 : Int32))]) [3, 4, 5, 6, 7, 8, 9, 10, 1, 2, 0] rfl ?_
        exact g_L_told_532 C0 F b len xs p0 p1 p3 hX hbl hbA hk_p0 hk_p1 11 v5 v6 v7 v8 (0 : Int32) x1 (0 : Int32) r3.2 _ hf _ (by omega)
      · refine r_iconst (v := 1) C0 dL_told_522 (by decide) ?_
        refine r_goto C0 527 dL_told_523 (by decide) ?_
        refine r_istore (L' := [(9, .int (1 : Int32)), (10, .int x1), (0, .ref p0), (1, .ref p1), (2, .ref b), (3, .int p3), (5, .int v5), (6, .int v6), (7, .int v7), (8, .int v8)]) C0 dL_told_527 (by decide) rfl ?_
        refine r_iconst (v := 0) C0 dL_told_529 (by decide) ?_
        refine r_istore (L' := [(11, .int (0 : Int32)), (9, .int (1 : Int32)), (10, .int x1), (0, .ref p0), (1, .ref p1), (2, .ref b), (3, .int p3), (5, .int v5), (6, .int v6), (7, .int v7), (8, .int v8)]) C0 dL_told_530 (by decide) rfl ?_
        refine r_sub (L' := [(0, .ref p0), (1, .ref p1), (2, .ref b), (3, .int p3), (5, .int v5), (6, .int v6), (7, .int v7), (8, .int v8), (9, .int (1 : Int32)), (10, .int x1), (11, .int (0 : Int32))]) [3, 4, 5, 6, 7, 8, 9, 10, 1, 2, 0] rfl ?_
        exact g_L_told_532 C0 F b len xs p0 p1 p3 hX hbl hbA hk_p0 hk_p1 11 v5 v6 v7 v8 (1 : Int32) x1 (0 : Int32) r3.2 _ hf _ (by omega)
set_option maxHeartbeats 4000000 in
set_option maxRecDepth 100000 in
theorem g_L_told_323 {Γ : zCx} {E : zEn} {S : zSk} {X : zMl} (C0 : zCt Γ E RL cL_told 14 (Option.some Jvm.ClassFile.FieldType.boolean) [] { frames := 11, cells := 1061, slots := 6366, locals := 202 }) (F : Nat) (b : Nat) (len : Nat) (xs : Nat → Int32) (p0 : Nat) (p1 : Nat) (p3 : Int32) (hX : va_X b len xs (gS Γ) (gS Γ).heap) (hbl : b < (gS Γ).heap.size) (hbA : ¬ E.2.2 ≤ b) (hk_p0 : K_X10 S p0) (hk_p1 : K_X10 S p1)  : ∀ (n : Nat) (v5 : Int32) (v6 : Int32) (v7 : Int32) (v8 : Int32) (v9 : Int32) (v10 : Int32) (v11 : Int32) (M : zMi) (r : Int32 × zMi), f_L_told_323 F len xs p0 p1 p3 n v5 v6 v7 v8 v9 v10 v11 M = some r → ∀ kc : Nat, kc + (n * 80 + 65) ≤ 1061 → zG Γ (zQX Γ E 1061 6366 S (.inr (some (.int r.1)), r.2) X) E 14 kc (6 * kc) S ZT M X 323 [(0, .ref p0), (1, .ref p1), (2, .ref b), (3, .int p3), (5, .int v5), (6, .int v6), (7, .int v7), (8, .int v8), (9, .int v9), (10, .int v10), (11, .int v11)] [] := by
  intro n
  induction n with
  | zero => intro v5 v6 v7 v8 v9 v10 v11 M r hf; cases hf
  | succ n ih =>
    intro v5 v6 v7 v8 v9 v10 v11 M r hf kc hkc
    refine r_iload C0 dL_told_323 10 rfl ?_
    refine r_iload C0 dL_told_325 5 rfl ?_
    refine r_icmp_ge C0 486 dL_told_327 (by decide) hf (fun hf => ?_) (fun hf => ?_)
    · refine r_sub (L' := [(0, .ref p0), (1, .ref p1), (2, .ref b), (3, .int p3), (5, .int v5), (6, .int v6), (7, .int v7), (8, .int v8), (9, .int v9), (10, .int v10)]) [0, 1, 2, 3, 4, 5, 6, 7, 8, 9] rfl ?_
      exact g_L_told_486 C0 F b len xs p0 p1 p3 hX hbl hbA hk_p0 hk_p1 v5 v6 v7 v8 v9 v10 M _ hf _ (by omega)
    · refine r_iload C0 dL_told_330 8 rfl ?_
      refine r_if_eq C0 486 dL_told_332 (by decide) hf (fun hf => ?_) (fun hf => ?_)
      · refine r_sub (L' := [(0, .ref p0), (1, .ref p1), (2, .ref b), (3, .int p3), (5, .int v5), (6, .int v6), (7, .int v7), (8, .int v8), (9, .int v9), (10, .int v10)]) [0, 1, 2, 3, 4, 5, 6, 7, 8, 9] rfl ?_
        exact g_L_told_486 C0 F b len xs p0 p1 p3 hX hbl hbA hk_p0 hk_p1 v5 v6 v7 v8 v9 v10 M _ hf _ (by omega)
      · refine r_aload_n C0 dL_told_335 rfl 2 rfl ?_
        refine r_iload_n C0 dL_told_336 rfl 3 rfl ?_
        refine r_iconst (v := 5) C0 dL_told_337 (by decide) ?_
        refine r_iadd C0 dL_told_338 ?_
        refine r_iload C0 dL_told_339 10 rfl ?_
        refine r_iadd C0 dL_told_341 ?_
        refine r_callSN C0 (st := []) (kc1 := kc) [.ref b, .int ((p3 + (5 : Int32)) + v11)] hX hbl hbA hf vs_154 (fun hl r1 hr1 => c_L_number hl F b len xs ((p3 + (5 : Int32)) + v11) hbA M r1 hr1) rfl rfl (Nat.le_of_ble_eq_true rfl) dL_told_342 (zrm_k 1061 rfl (by omega)) (by omega) (fun r1 hr1 hf => ?_)
        refine r_istore (L' := [(12, .int r1), (0, .ref p0), (1, .ref p1), (2, .ref b), (3, .int p3), (5, .int v5), (6, .int v6), (7, .int v7), (8, .int v8), (9, .int v9), (10, .int v10), (11, .int v11)]) C0 dL_told_345 (by decide) rfl ?_
        refine r_aload_n C0 dL_told_347 rfl 1 rfl ?_
        refine r_aload_n C0 dL_told_348 rfl 2 rfl ?_
        refine r_bipush (v := 115) C0 dL_told_349 (by decide) ?_
        refine r_callAw C0 (st := []) (kc1 := kc + 4) [.ref p0, .ref p1, .int (115 : Int32)] hf vs_153 (fun hl r2 hr2 => c_L_put hl F p0 p1 (115 : Int32) hk_p0 hk_p1 M r2 hr2) rfl rfl (Nat.le_of_ble_eq_true rfl) dL_told_351 (zrm_k 1061 rfl (by omega)) (by omega) (fun r2 hr2 hf => ?_)
        refine r_if_eq C0 477 dL_told_354 (by decide) hf (fun hf => ?_) (fun hf => ?_)
        · refine r_iconst (v := 0) C0 dL_told_477 (by decide) ?_
          refine r_istore (L' := [(9, .int (0 : Int32)), (12, .int r1), (0, .ref p0), (1, .ref p1), (2, .ref b), (3, .int p3), (5, .int v5), (6, .int v6), (7, .int v7), (8, .int v8), (10, .int v10), (11, .int v11)]) C0 dL_told_478 (by decide) rfl ?_
          refine r_iinc (j := 11) (v := (v11 + (1 : Int32))) (L' := [(11, .int (v11 + (1 : Int32))), (9, .int (0 : Int32)), (12, .int r1), (0, .ref p0), (1, .ref p1), (2, .ref b), (3, .int p3), (5, .int v5), (6, .int v6), (7, .int v7), (8, .int v8), (10, .int v10)]) C0 dL_told_480 rfl rfl (by decide) rfl ?_
          refine r_goto C0 323 dL_told_483 (by decide) ?_
          refine r_sub (L' := [(0, .ref p0), (1, .ref p1), (2, .ref b), (3, .int p3), (5, .int v5), (6, .int v6), (7, .int v7), (8, .int v8), (9, .int (0 : Int32)), (10, .int v10), (11, .int (v11 + (1 : Int32)))]) [3, 4, 5, 6, 7, 8, 9, 10, 1, 11, 0] rfl ?_
          exact ih v5 v6 v7 v8 (0 : Int32) v10 (v11 + (1 : Int32)) r2.2 _ hf _ (by omega)
        · refine r_aload_n C0 dL_told_357 rfl 1 rfl ?_
          refine r_aload_n C0 dL_told_358 rfl 2 rfl ?_
          refine r_bipush (v := 10) C0 dL_told_359 (by decide) ?_
          refine r_iload C0 dL_told_361 0 rfl ?_
          refine r_sipush (v := 150) C0 dL_told_363 (by decide) ?_
          refine r_irem' C0 dL_told_366 (by decide) ?_
          refine r_iadd C0 dL_told_367 ?_
          refine r_bipush (v := 100) C0 dL_told_368 (by decide) ?_
          refine r_callAw C0 (st := []) (kc1 := kc + 28) [.ref p0, .ref p1, .int ((10 : Int32) + (r1 - r1 / (150 : Int32) * (150 : Int32))), .int (100 : Int32)] hf vs_157 (fun hl r3 hr3 => c_L_digits hl F p0 p1 ((10 : Int32) + (r1 - r1 / (150 : Int32) * (150 : Int32))) (100 : Int32) hk_p0 hk_p1 r2.2 r3 hr3) rfl rfl (Nat.le_of_ble_eq_true rfl) dL_told_370 (zrm_k 1061 rfl (by omega)) (by omega) (fun r3 hr3 hf => ?_)
          refine r_if_eq C0 477 dL_told_373 (by decide) hf (fun hf => ?_) (fun hf => ?_)
          · refine r_iconst (v := 0) C0 dL_told_477 (by decide) ?_
            refine r_istore (L' := [(9, .int (0 : Int32)), (12, .int r1), (0, .ref p0), (1, .ref p1), (2, .ref b), (3, .int p3), (5, .int v5), (6, .int v6), (7, .int v7), (8, .int v8), (10, .int v10), (11, .int v11)]) C0 dL_told_478 (by decide) rfl ?_
            refine r_iinc (j := 11) (v := (v11 + (1 : Int32))) (L' := [(11, .int (v11 + (1 : Int32))), (9, .int (0 : Int32)), (12, .int r1), (0, .ref p0), (1, .ref p1), (2, .ref b), (3, .int p3), (5, .int v5), (6, .int v6), (7, .int v7), (8, .int v8), (10, .int v10)]) C0 dL_told_480 rfl rfl (by decide) rfl ?_
            refine r_goto C0 323 dL_told_483 (by decide) ?_
            refine r_sub (L' := [(0, .ref p0), (1, .ref p1), (2, .ref b), (3, .int p3), (5, .int v5), (6, .int v6), (7, .int v7), (8, .int v8), (9, .int (0 : Int32)), (10, .int v10), (11, .int (v11 + (1 : Int32)))]) [3, 4, 5, 6, 7, 8, 9, 10, 1, 11, 0] rfl ?_
            exact ih v5 v6 v7 v8 (0 : Int32) v10 (v11 + (1 : Int32)) r3.2 _ hf _ (by omega)
          · refine r_aload_n C0 dL_told_376 rfl 1 rfl ?_
            refine r_aload_n C0 dL_told_377 rfl 2 rfl ?_
            refine r_iconst (v := 1) C0 dL_told_378 (by decide) ?_
            refine r_iload C0 dL_told_379 0 rfl ?_
            refine r_sipush (v := 256) C0 dL_told_381 (by decide) ?_
            refine r_idiv' C0 dL_told_384 (by decide) ?_
            refine r_bipush (v := 20) C0 dL_told_385 (by decide) ?_
            refine r_irem' C0 dL_told_387 (by decide) ?_
            refine r_iadd C0 dL_told_388 ?_
            refine r_bipush (v := 10) C0 dL_told_389 (by decide) ?_
            refine r_callAw C0 (st := []) (kc1 := kc + 52) [.ref p0, .ref p1, .int ((1 : Int32) + ((r1 / (256 : Int32)) - (r1 / (256 : Int32)) / (20 : Int32) * (20 : Int32))), .int (10 : Int32)] hf vs_157 (fun hl r4 hr4 => c_L_digits hl F p0 p1 ((1 : Int32) + ((r1 / (256 : Int32)) - (r1 / (256 : Int32)) / (20 : Int32) * (20 : Int32))) (10 : Int32) hk_p0 hk_p1 r3.2 r4 hr4) rfl rfl (Nat.le_of_ble_eq_true rfl) dL_told_391 (zrm_k 1061 rfl (by omega)) (by omega) (fun r4 hr4 hf => ?_)
            refine r_if_eq C0 477 dL_told_394 (by decide) hf (fun hf => ?_) (fun hf => ?_)
            · refine r_iconst (v := 0) C0 dL_told_477 (by decide) ?_
              refine r_istore (L' := [(9, .int (0 : Int32)), (12, .int r1), (0, .ref p0), (1, .ref p1), (2, .ref b), (3, .int p3), (5, .int v5), (6, .int v6), (7, .int v7), (8, .int v8), (10, .int v10), (11, .int v11)]) C0 dL_told_478 (by decide) rfl ?_
              refine r_iinc (j := 11) (v := (v11 + (1 : Int32))) (L' := [(11, .int (v11 + (1 : Int32))), (9, .int (0 : Int32)), (12, .int r1), (0, .ref p0), (1, .ref p1), (2, .ref b), (3, .int p3), (5, .int v5), (6, .int v6), (7, .int v7), (8, .int v8), (10, .int v10)]) C0 dL_told_480 rfl rfl (by decide) rfl ?_
              refine r_goto C0 323 dL_told_483 (by decide) ?_
              refine r_sub (L' := [(0, .ref p0), (1, .ref p1), (2, .ref b), (3, .int p3), (5, .int v5), (6, .int v6), (7, .int v7), (8, .int v8), (9, .int (0 : Int32)), (10, .int v10), (11, .int (v11 + (1 : Int32)))]) [3, 4, 5, 6, 7, 8, 9, 10, 1, 11, 0] rfl ?_
              exact ih v5 v6 v7 v8 (0 : Int32) v10 (v11 + (1 : Int32)) r4.2 _ hf _ (by omega)
            · refine r_aload_n C0 dL_told_397 rfl 1 rfl ?_
              refine r_aload_n C0 dL_told_398 rfl 2 rfl ?_
              refine r_bipush (v := 49) C0 dL_told_399 (by decide) ?_
              refine r_iload C0 dL_told_401 0 rfl ?_
              refine r_sipush (v := 8192) C0 dL_told_403 (by decide) ?_
              refine r_idiv' C0 dL_told_406 (by decide) ?_
              refine r_bipush (v := 9) C0 dL_told_407 (by decide) ?_
              refine r_irem' C0 dL_told_409 (by decide) ?_
              refine r_iadd C0 dL_told_410 ?_
              refine r_callAw C0 (st := []) (kc1 := kc + 56) [.ref p0, .ref p1, .int ((49 : Int32) + ((r1 / (8192 : Int32)) - (r1 / (8192 : Int32)) / (9 : Int32) * (9 : Int32)))] hf vs_153 (fun hl r5 hr5 => c_L_put hl F p0 p1 ((49 : Int32) + ((r1 / (8192 : Int32)) - (r1 / (8192 : Int32)) / (9 : Int32) * (9 : Int32))) hk_p0 hk_p1 r4.2 r5 hr5) rfl rfl (Nat.le_of_ble_eq_true rfl) dL_told_411 (zrm_k 1061 rfl (by omega)) (by omega) (fun r5 hr5 hf => ?_)
              refine r_if_eq C0 477 dL_told_414 (by decide) hf (fun hf => ?_) (fun hf => ?_)
              · refine r_iconst (v := 0) C0 dL_told_477 (by decide) ?_
                refine r_istore (L' := [(9, .int (0 : Int32)), (12, .int r1), (0, .ref p0), (1, .ref p1), (2, .ref b), (3, .int p3), (5, .int v5), (6, .int v6), (7, .int v7), (8, .int v8), (10, .int v10), (11, .int v11)]) C0 dL_told_478 (by decide) rfl ?_
                refine r_iinc (j := 11) (v := (v11 + (1 : Int32))) (L' := [(11, .int (v11 + (1 : Int32))), (9, .int (0 : Int32)), (12, .int r1), (0, .ref p0), (1, .ref p1), (2, .ref b), (3, .int p3), (5, .int v5), (6, .int v6), (7, .int v7), (8, .int v8), (10, .int v10)]) C0 dL_told_480 rfl rfl (by decide) rfl ?_
                refine r_goto C0 323 dL_told_483 (by decide) ?_
                refine r_sub (L' := [(0, .ref p0), (1, .ref p1), (2, .ref b), (3, .int p3), (5, .int v5), (6, .int v6), (7, .int v7), (8, .int v8), (9, .int (0 : Int32)), (10, .int v10), (11, .int (v11 + (1 : Int32)))]) [3, 4, 5, 6, 7, 8, 9, 10, 1, 11, 0] rfl ?_
                exact ih v5 v6 v7 v8 (0 : Int32) v10 (v11 + (1 : Int32)) r5.2 _ hf _ (by omega)
              · refine r_aload_n C0 dL_told_417 rfl 1 rfl ?_
                refine r_callVL C0 (st := []) [] p0 hf vs_156 (fun hl r6 hr6 => c_X10_errorPosition hl F p0 hk_p0 r5.2 r6 hr6) (K_X10_o hk_p0) rfl rfl rfl rfl (Nat.le_of_ble_eq_true rfl) dL_told_418 (zrm_k 1061 rfl (by omega)) (fun r6 hr6 hf => ?_)
                refine r_iload C0 dL_told_421 10 rfl ?_
                refine r_bipush (v := 7) C0 dL_told_423 (by decide) ?_
                refine r_iadd C0 dL_told_425 ?_
                refine r_bipush (v := 9) C0 dL_told_426 (by decide) ?_
                refine r_iload C0 dL_told_428 11 rfl ?_
                refine r_imul C0 dL_told_430 ?_
                refine r_iadd C0 dL_told_431 ?_
                refine r_icmp_ne C0 477 dL_told_432 (by decide) hf (fun hf => ?_) (fun hf => ?_)
                · refine r_iconst (v := 0) C0 dL_told_477 (by decide) ?_
                  refine r_istore (L' := [(9, .int (0 : Int32)), (12, .int r1), (0, .ref p0), (1, .ref p1), (2, .ref b), (3, .int p3), (5, .int v5), (6, .int v6), (7, .int v7), (8, .int v8), (10, .int v10), (11, .int v11)]) C0 dL_told_478 (by decide) rfl ?_
                  refine r_iinc (j := 11) (v := (v11 + (1 : Int32))) (L' := [(11, .int (v11 + (1 : Int32))), (9, .int (0 : Int32)), (12, .int r1), (0, .ref p0), (1, .ref p1), (2, .ref b), (3, .int p3), (5, .int v5), (6, .int v6), (7, .int v7), (8, .int v8), (10, .int v10)]) C0 dL_told_480 rfl rfl (by decide) rfl ?_
                  refine r_goto C0 323 dL_told_483 (by decide) ?_
                  refine r_sub (L' := [(0, .ref p0), (1, .ref p1), (2, .ref b), (3, .int p3), (5, .int v5), (6, .int v6), (7, .int v7), (8, .int v8), (9, .int (0 : Int32)), (10, .int v10), (11, .int (v11 + (1 : Int32)))]) [3, 4, 5, 6, 7, 8, 9, 10, 1, 11, 0] rfl ?_
                  exact ih v5 v6 v7 v8 (0 : Int32) v10 (v11 + (1 : Int32)) r6.2 _ hf _ (by omega)
                · refine r_aload_n C0 dL_told_435 rfl 1 rfl ?_
                  refine r_aload_n C0 dL_told_436 rfl 2 rfl ?_
                  refine r_iconst (v := 1) C0 dL_told_437 (by decide) ?_
                  refine r_iload C0 dL_told_438 0 rfl ?_
                  refine r_ldc (v := 131072) C0 qw_692 dL_told_440 ?_
                  refine r_idiv' C0 dL_told_442 (by decide) ?_
                  refine r_bipush (v := 99) C0 dL_told_443 (by decide) ?_
                  refine r_irem' C0 dL_told_445 (by decide) ?_
                  refine r_iadd C0 dL_told_446 ?_
                  refine r_bipush (v := 10) C0 dL_told_447 (by decide) ?_
                  refine r_callAw C0 (st := []) (kc1 := kc + 80) [.ref p0, .ref p1, .int ((1 : Int32) + ((r1 / (131072 : Int32)) - (r1 / (131072 : Int32)) / (99 : Int32) * (99 : Int32))), .int (10 : Int32)] hf vs_157 (fun hl r7 hr7 => c_L_digits hl F p0 p1 ((1 : Int32) + ((r1 / (131072 : Int32)) - (r1 / (131072 : Int32)) / (99 : Int32) * (99 : Int32))) (10 : Int32) hk_p0 hk_p1 r6.2 r7 hr7) rfl rfl (Nat.le_of_ble_eq_true rfl) dL_told_449 (zrm_k 1061 rfl (by omega)) (by omega) (fun r7 hr7 hf => ?_)
                  refine r_if_eq C0 477 dL_told_452 (by decide) hf (fun hf => ?_) (fun hf => ?_)
                  · refine r_iconst (v := 0) C0 dL_told_477 (by decide) ?_
                    refine r_istore (L' := [(9, .int (0 : Int32)), (12, .int r1), (0, .ref p0), (1, .ref p1), (2, .ref b), (3, .int p3), (5, .int v5), (6, .int v6), (7, .int v7), (8, .int v8), (10, .int v10), (11, .int v11)]) C0 dL_told_478 (by decide) rfl ?_
                    refine r_iinc (j := 11) (v := (v11 + (1 : Int32))) (L' := [(11, .int (v11 + (1 : Int32))), (9, .int (0 : Int32)), (12, .int r1), (0, .ref p0), (1, .ref p1), (2, .ref b), (3, .int p3), (5, .int v5), (6, .int v6), (7, .int v7), (8, .int v8), (10, .int v10)]) C0 dL_told_480 rfl rfl (by decide) rfl ?_
                    refine r_goto C0 323 dL_told_483 (by decide) ?_
                    refine r_sub (L' := [(0, .ref p0), (1, .ref p1), (2, .ref b), (3, .int p3), (5, .int v5), (6, .int v6), (7, .int v7), (8, .int v8), (9, .int (0 : Int32)), (10, .int v10), (11, .int (v11 + (1 : Int32)))]) [3, 4, 5, 6, 7, 8, 9, 10, 1, 11, 0] rfl ?_
                    exact ih v5 v6 v7 v8 (0 : Int32) v10 (v11 + (1 : Int32)) r7.2 _ hf _ (by omega)
                  · refine r_aload_n C0 dL_told_455 rfl 1 rfl ?_
                    refine r_callVL C0 (st := []) [] p0 hf vs_156 (fun hl r8 hr8 => c_X10_errorPosition hl F p0 hk_p0 r7.2 r8 hr8) (K_X10_o hk_p0) rfl rfl rfl rfl (Nat.le_of_ble_eq_true rfl) dL_told_456 (zrm_k 1061 rfl (by omega)) (fun r8 hr8 hf => ?_)
                    refine r_iload C0 dL_told_459 10 rfl ?_
                    refine r_bipush (v := 9) C0 dL_told_461 (by decide) ?_
                    refine r_iadd C0 dL_told_463 ?_
                    refine r_bipush (v := 9) C0 dL_told_464 (by decide) ?_
                    refine r_iload C0 dL_told_466 11 rfl ?_
                    refine r_imul C0 dL_told_468 ?_
                    refine r_iadd C0 dL_told_469 ?_
                    refine r_icmp_ne C0 477 dL_told_470 (by decide) hf (fun hf => ?_) (fun hf => ?_)
                    · refine r_iconst (v := 0) C0 dL_told_477 (by decide) ?_
                      refine r_istore (L' := [(9, .int (0 : Int32)), (12, .int r1), (0, .ref p0), (1, .ref p1), (2, .ref b), (3, .int p3), (5, .int v5), (6, .int v6), (7, .int v7), (8, .int v8), (10, .int v10), (11, .int v11)]) C0 dL_told_478 (by decide) rfl ?_
                      refine r_iinc (j := 11) (v := (v11 + (1 : Int32))) (L' := [(11, .int (v11 + (1 : Int32))), (9, .int (0 : Int32)), (12, .int r1), (0, .ref p0), (1, .ref p1), (2, .ref b), (3, .int p3), (5, .int v5), (6, .int v6), (7, .int v7), (8, .int v8), (10, .int v10)]) C0 dL_told_480 rfl rfl (by decide) rfl ?_
                      refine r_goto C0 323 dL_told_483 (by decide) ?_
                      refine r_sub (L' := [(0, .ref p0), (1, .ref p1), (2, .ref b), (3, .int p3), (5, .int v5), (6, .int v6), (7, .int v7), (8, .int v8), (9, .int (0 : Int32)), (10, .int v10), (11, .int (v11 + (1 : Int32)))]) [3, 4, 5, 6, 7, 8, 9, 10, 1, 11, 0] rfl ?_
                      exact ih v5 v6 v7 v8 (0 : Int32) v10 (v11 + (1 : Int32)) r8.2 _ hf _ (by omega)
                    · refine r_iconst (v := 1) C0 dL_told_473 (by decide) ?_
                      refine r_goto C0 478 dL_told_474 (by decide) ?_
                      refine r_istore (L' := [(9, .int (1 : Int32)), (12, .int r1), (0, .ref p0), (1, .ref p1), (2, .ref b), (3, .int p3), (5, .int v5), (6, .int v6), (7, .int v7), (8, .int v8), (10, .int v10), (11, .int v11)]) C0 dL_told_478 (by decide) rfl ?_
                      refine r_iinc (j := 11) (v := (v11 + (1 : Int32))) (L' := [(11, .int (v11 + (1 : Int32))), (9, .int (1 : Int32)), (12, .int r1), (0, .ref p0), (1, .ref p1), (2, .ref b), (3, .int p3), (5, .int v5), (6, .int v6), (7, .int v7), (8, .int v8), (10, .int v10)]) C0 dL_told_480 rfl rfl (by decide) rfl ?_
                      refine r_goto C0 323 dL_told_483 (by decide) ?_
                      refine r_sub (L' := [(0, .ref p0), (1, .ref p1), (2, .ref b), (3, .int p3), (5, .int v5), (6, .int v6), (7, .int v7), (8, .int v8), (9, .int (1 : Int32)), (10, .int v10), (11, .int (v11 + (1 : Int32)))]) [3, 4, 5, 6, 7, 8, 9, 10, 1, 11, 0] rfl ?_
                      exact ih v5 v6 v7 v8 (1 : Int32) v10 (v11 + (1 : Int32)) r8.2 _ hf _ (by omega)
set_option maxHeartbeats 4000000 in
set_option maxRecDepth 100000 in
theorem g_L_told_310 {Γ : zCx} {E : zEn} {S : zSk} {X : zMl} (C0 : zCt Γ E RL cL_told 14 (Option.some Jvm.ClassFile.FieldType.boolean) [] { frames := 11, cells := 1061, slots := 6366, locals := 202 }) (F : Nat) (b : Nat) (len : Nat) (xs : Nat → Int32) (p0 : Nat) (p1 : Nat) (p3 : Int32) (hX : va_X b len xs (gS Γ) (gS Γ).heap) (hbl : b < (gS Γ).heap.size) (hbA : ¬ E.2.2 ≤ b) (hk_p0 : K_X10 S p0) (hk_p1 : K_X10 S p1)  (v5 : Int32) (v6 : Int32) (v7 : Int32) (v8 : Int32) (v9 : Int32) (M : zMi) (r : Int32 × zMi) (hf : f_L_told_310 F len xs p0 p1 p3 v5 v6 v7 v8 v9 M = some r) (kc : Nat) (hkc : kc + (545) ≤ 1061) : zG Γ (zQX Γ E 1061 6366 S (.inr (some (.int r.1)), r.2) X) E 14 kc (6 * kc) S ZT M X 310 [(0, .ref p0), (1, .ref p1), (2, .ref b), (3, .int p3), (5, .int v5), (6, .int v6), (7, .int v7), (8, .int v8), (9, .int v9)] [] := by
  unfold f_L_told_310 at hf
  refine r_bipush (v := 7) C0 dL_told_310 (by decide) ?_
  refine r_bipush (v := 8) C0 dL_told_312 (by decide) ?_
  refine r_iload C0 dL_told_314 4 rfl ?_
  refine r_imul C0 dL_told_316 ?_
  refine r_iadd C0 dL_told_317 ?_
  refine r_nm hf (fun x1 hf => ?_)
  refine r_istore (L' := [(10, .int x1), (0, .ref p0), (1, .ref p1), (2, .ref b), (3, .int p3), (5, .int v5), (6, .int v6), (7, .int v7), (8, .int v8), (9, .int v9)]) C0 dL_told_318 (by decide) rfl ?_
  refine r_iconst (v := 0) C0 dL_told_320 (by decide) ?_
  refine r_istore (L' := [(11, .int (0 : Int32)), (10, .int x1), (0, .ref p0), (1, .ref p1), (2, .ref b), (3, .int p3), (5, .int v5), (6, .int v6), (7, .int v7), (8, .int v8), (9, .int v9)]) C0 dL_told_321 (by decide) rfl ?_
  refine r_sub (L' := [(0, .ref p0), (1, .ref p1), (2, .ref b), (3, .int p3), (5, .int v5), (6, .int v6), (7, .int v7), (8, .int v8), (9, .int v9), (10, .int x1), (11, .int (0 : Int32))]) [2, 3, 4, 5, 6, 7, 8, 9, 10, 1, 0] rfl ?_
  exact g_L_told_323 C0 F b len xs p0 p1 p3 hX hbl hbA hk_p0 hk_p1 6 v5 v6 v7 v8 v9 x1 (0 : Int32) M _ hf _ (by omega)
set_option maxHeartbeats 4000000 in
set_option maxRecDepth 100000 in
theorem g_L_told_146 {Γ : zCx} {E : zEn} {S : zSk} {X : zMl} (C0 : zCt Γ E RL cL_told 14 (Option.some Jvm.ClassFile.FieldType.boolean) [] { frames := 11, cells := 1061, slots := 6366, locals := 202 }) (F : Nat) (b : Nat) (len : Nat) (xs : Nat → Int32) (p0 : Nat) (p1 : Nat) (p3 : Int32) (hX : va_X b len xs (gS Γ) (gS Γ).heap) (hbl : b < (gS Γ).heap.size) (hbA : ¬ E.2.2 ≤ b) (hk_p0 : K_X10 S p0) (hk_p1 : K_X10 S p1)  : ∀ (n : Nat) (v5 : Int32) (v6 : Int32) (v7 : Int32) (v8 : Int32) (v9 : Int32) (v10 : Int32) (M : zMi) (r : Int32 × zMi), f_L_told_146 F len xs p0 p1 p3 n v5 v6 v7 v8 v9 v10 M = some r → ∀ kc : Nat, kc + (n * 80 + 545) ≤ 1061 → zG Γ (zQX Γ E 1061 6366 S (.inr (some (.int r.1)), r.2) X) E 14 kc (6 * kc) S ZT M X 146 [(0, .ref p0), (1, .ref p1), (2, .ref b), (3, .int p3), (5, .int v5), (6, .int v6), (7, .int v7), (8, .int v8), (9, .int v9), (10, .int v10)] [] := by
  intro n
  induction n with
  | zero => intro v5 v6 v7 v8 v9 v10 M r hf; cases hf
  | succ n ih =>
    intro v5 v6 v7 v8 v9 v10 M r hf kc hkc
    refine r_iload C0 dL_told_146 9 rfl ?_
    refine r_iload C0 dL_told_148 4 rfl ?_
    refine r_icmp_ge C0 310 dL_told_150 (by decide) hf (fun hf => ?_) (fun hf => ?_)
    · refine r_sub (L' := [(0, .ref p0), (1, .ref p1), (2, .ref b), (3, .int p3), (5, .int v5), (6, .int v6), (7, .int v7), (8, .int v8), (9, .int v9)]) [0, 1, 2, 3, 4, 5, 6, 7, 8] rfl ?_
      exact g_L_told_310 C0 F b len xs p0 p1 p3 hX hbl hbA hk_p0 hk_p1 v5 v6 v7 v8 v9 M _ hf _ (by omega)
    · refine r_iload C0 dL_told_153 8 rfl ?_
      refine r_if_eq C0 310 dL_told_155 (by decide) hf (fun hf => ?_) (fun hf => ?_)
      · refine r_sub (L' := [(0, .ref p0), (1, .ref p1), (2, .ref b), (3, .int p3), (5, .int v5), (6, .int v6), (7, .int v7), (8, .int v8), (9, .int v9)]) [0, 1, 2, 3, 4, 5, 6, 7, 8] rfl ?_
        exact g_L_told_310 C0 F b len xs p0 p1 p3 hX hbl hbA hk_p0 hk_p1 v5 v6 v7 v8 v9 M _ hf _ (by omega)
      · refine r_aload_n C0 dL_told_158 rfl 2 rfl ?_
        refine r_iload_n C0 dL_told_159 rfl 3 rfl ?_
        refine r_iconst (v := 1) C0 dL_told_160 (by decide) ?_
        refine r_iadd C0 dL_told_161 ?_
        refine r_iload C0 dL_told_162 9 rfl ?_
        refine r_iadd C0 dL_told_164 ?_
        refine r_callSN C0 (st := []) (kc1 := kc) [.ref b, .int ((p3 + (1 : Int32)) + v10)] hX hbl hbA hf vs_154 (fun hl r1 hr1 => c_L_number hl F b len xs ((p3 + (1 : Int32)) + v10) hbA M r1 hr1) rfl rfl (Nat.le_of_ble_eq_true rfl) dL_told_165 (zrm_k 1061 rfl (by omega)) (by omega) (fun r1 hr1 hf => ?_)
        refine r_istore (L' := [(11, .int r1), (0, .ref p0), (1, .ref p1), (2, .ref b), (3, .int p3), (5, .int v5), (6, .int v6), (7, .int v7), (8, .int v8), (9, .int v9), (10, .int v10)]) C0 dL_told_168 (by decide) rfl ?_
        refine r_iload C0 dL_told_170 0 rfl ?_
        refine r_bipush (v := 64) C0 dL_told_172 (by decide) ?_
        refine r_idiv' C0 dL_told_174 (by decide) ?_
        refine r_bipush (v := 20) C0 dL_told_175 (by decide) ?_
        refine r_irem' C0 dL_told_177 (by decide) ?_
        refine r_nm hf (fun x2 hf => ?_)
        refine r_istore (L' := [(12, .int x2), (11, .int r1), (0, .ref p0), (1, .ref p1), (2, .ref b), (3, .int p3), (5, .int v5), (6, .int v6), (7, .int v7), (8, .int v8), (9, .int v9), (10, .int v10)]) C0 dL_told_178 (by decide) rfl ?_
        refine r_iload C0 dL_told_180 0 rfl ?_
        refine r_iload C0 dL_told_182 1 rfl ?_
        refine r_sipush (v := 2048) C0 dL_told_184 (by decide) ?_
        refine r_idiv' C0 dL_told_187 (by decide) ?_
        refine r_bipush (v := 100) C0 dL_told_188 (by decide) ?_
        refine r_iload C0 dL_told_190 0 rfl ?_
        refine r_isub C0 dL_told_192 ?_
        refine r_irem C0 dL_told_193 hf (fun hf => ?_)
        refine r_iadd C0 dL_told_194 ?_
        refine r_nm hf (fun x3 hf => ?_)
        refine r_istore (L' := [(13, .int x3), (12, .int x2), (11, .int r1), (0, .ref p0), (1, .ref p1), (2, .ref b), (3, .int p3), (5, .int v5), (6, .int v6), (7, .int v7), (8, .int v8), (9, .int v9), (10, .int v10)]) C0 dL_told_195 (by decide) rfl ?_
        refine r_aload_n C0 dL_told_197 rfl 3 rfl ?_
        refine r_aload_n C0 dL_told_198 rfl 4 rfl ?_
        refine r_bipush (v := 122) C0 dL_told_199 (by decide) ?_
        refine r_callAw C0 (st := []) (kc1 := kc + 4) [.ref p0, .ref p1, .int (122 : Int32)] hf vs_153 (fun hl r4 hr4 => c_L_put hl F p0 p1 (122 : Int32) hk_p0 hk_p1 M r4 hr4) rfl rfl (Nat.le_of_ble_eq_true rfl) dL_told_201 (zrm_k 1061 rfl (by omega)) (by omega) (fun r4 hr4 hf => ?_)
        refine r_if_eq C0 301 dL_told_204 (by decide) hf (fun hf => ?_) (fun hf => ?_)
        · refine r_iconst (v := 0) C0 dL_told_301 (by decide) ?_
          refine r_istore (L' := [(9, .int (0 : Int32)), (13, .int x3), (12, .int x2), (11, .int r1), (0, .ref p0), (1, .ref p1), (2, .ref b), (3, .int p3), (5, .int v5), (6, .int v6), (7, .int v7), (8, .int v8), (10, .int v10)]) C0 dL_told_302 (by decide) rfl ?_
          refine r_iinc (j := 12) (v := (v10 + (1 : Int32))) (L' := [(10, .int (v10 + (1 : Int32))), (9, .int (0 : Int32)), (13, .int x3), (12, .int x2), (11, .int r1), (0, .ref p0), (1, .ref p1), (2, .ref b), (3, .int p3), (5, .int v5), (6, .int v6), (7, .int v7), (8, .int v8)]) C0 dL_told_304 rfl rfl (by decide) rfl ?_
          refine r_goto C0 146 dL_told_307 (by decide) ?_
          refine r_sub (L' := [(0, .ref p0), (1, .ref p1), (2, .ref b), (3, .int p3), (5, .int v5), (6, .int v6), (7, .int v7), (8, .int v8), (9, .int (0 : Int32)), (10, .int (v10 + (1 : Int32)))]) [5, 6, 7, 8, 9, 10, 11, 12, 1, 0] rfl ?_
          exact ih v5 v6 v7 v8 (0 : Int32) (v10 + (1 : Int32)) r4.2 _ hf _ (by omega)
        · refine r_aload_n C0 dL_told_207 rfl 3 rfl ?_
          refine r_aload_n C0 dL_told_208 rfl 4 rfl ?_
          refine r_iconst (v := 1) C0 dL_told_209 (by decide) ?_
          refine r_iload C0 dL_told_210 2 rfl ?_
          refine r_bipush (v := 40) C0 dL_told_212 (by decide) ?_
          refine r_irem' C0 dL_told_214 (by decide) ?_
          refine r_iadd C0 dL_told_215 ?_
          refine r_bipush (v := 10) C0 dL_told_216 (by decide) ?_
          refine r_callAw C0 (st := []) (kc1 := kc + 28) [.ref p0, .ref p1, .int ((1 : Int32) + (r1 - r1 / (40 : Int32) * (40 : Int32))), .int (10 : Int32)] hf vs_157 (fun hl r5 hr5 => c_L_digits hl F p0 p1 ((1 : Int32) + (r1 - r1 / (40 : Int32) * (40 : Int32))) (10 : Int32) hk_p0 hk_p1 r4.2 r5 hr5) rfl rfl (Nat.le_of_ble_eq_true rfl) dL_told_218 (zrm_k 1061 rfl (by omega)) (by omega) (fun r5 hr5 hf => ?_)
          refine r_if_eq C0 301 dL_told_221 (by decide) hf (fun hf => ?_) (fun hf => ?_)
          · refine r_iconst (v := 0) C0 dL_told_301 (by decide) ?_
            refine r_istore (L' := [(9, .int (0 : Int32)), (13, .int x3), (12, .int x2), (11, .int r1), (0, .ref p0), (1, .ref p1), (2, .ref b), (3, .int p3), (5, .int v5), (6, .int v6), (7, .int v7), (8, .int v8), (10, .int v10)]) C0 dL_told_302 (by decide) rfl ?_
            refine r_iinc (j := 12) (v := (v10 + (1 : Int32))) (L' := [(10, .int (v10 + (1 : Int32))), (9, .int (0 : Int32)), (13, .int x3), (12, .int x2), (11, .int r1), (0, .ref p0), (1, .ref p1), (2, .ref b), (3, .int p3), (5, .int v5), (6, .int v6), (7, .int v7), (8, .int v8)]) C0 dL_told_304 rfl rfl (by decide) rfl ?_
            refine r_goto C0 146 dL_told_307 (by decide) ?_
            refine r_sub (L' := [(0, .ref p0), (1, .ref p1), (2, .ref b), (3, .int p3), (5, .int v5), (6, .int v6), (7, .int v7), (8, .int v8), (9, .int (0 : Int32)), (10, .int (v10 + (1 : Int32)))]) [5, 6, 7, 8, 9, 10, 11, 12, 1, 0] rfl ?_
            exact ih v5 v6 v7 v8 (0 : Int32) (v10 + (1 : Int32)) r5.2 _ hf _ (by omega)
          · refine r_aload_n C0 dL_told_224 rfl 3 rfl ?_
            refine r_aload_n C0 dL_told_225 rfl 4 rfl ?_
            refine r_iload C0 dL_told_226 1 rfl ?_
            refine r_bipush (v := 10) C0 dL_told_228 (by decide) ?_
            refine r_callAw C0 (st := []) (kc1 := kc + 52) [.ref p0, .ref p1, .int x2, .int (10 : Int32)] hf vs_157 (fun hl r6 hr6 => c_L_digits hl F p0 p1 x2 (10 : Int32) hk_p0 hk_p1 r5.2 r6 hr6) rfl rfl (Nat.le_of_ble_eq_true rfl) dL_told_230 (zrm_k 1061 rfl (by omega)) (by omega) (fun r6 hr6 hf => ?_)
            refine r_if_eq C0 301 dL_told_233 (by decide) hf (fun hf => ?_) (fun hf => ?_)
            · refine r_iconst (v := 0) C0 dL_told_301 (by decide) ?_
              refine r_istore (L' := [(9, .int (0 : Int32)), (13, .int x3), (12, .int x2), (11, .int r1), (0, .ref p0), (1, .ref p1), (2, .ref b), (3, .int p3), (5, .int v5), (6, .int v6), (7, .int v7), (8, .int v8), (10, .int v10)]) C0 dL_told_302 (by decide) rfl ?_
              refine r_iinc (j := 12) (v := (v10 + (1 : Int32))) (L' := [(10, .int (v10 + (1 : Int32))), (9, .int (0 : Int32)), (13, .int x3), (12, .int x2), (11, .int r1), (0, .ref p0), (1, .ref p1), (2, .ref b), (3, .int p3), (5, .int v5), (6, .int v6), (7, .int v7), (8, .int v8)]) C0 dL_told_304 rfl rfl (by decide) rfl ?_
              refine r_goto C0 146 dL_told_307 (by decide) ?_
              refine r_sub (L' := [(0, .ref p0), (1, .ref p1), (2, .ref b), (3, .int p3), (5, .int v5), (6, .int v6), (7, .int v7), (8, .int v8), (9, .int (0 : Int32)), (10, .int (v10 + (1 : Int32)))]) [5, 6, 7, 8, 9, 10, 11, 12, 1, 0] rfl ?_
              exact ih v5 v6 v7 v8 (0 : Int32) (v10 + (1 : Int32)) r6.2 _ hf _ (by omega)
            · refine r_aload_n C0 dL_told_236 rfl 3 rfl ?_
              refine r_callVL C0 (st := []) [] p0 hf vs_156 (fun hl r7 hr7 => c_X10_errorPosition hl F p0 hk_p0 r6.2 r7 hr7) (K_X10_o hk_p0) rfl rfl rfl rfl (Nat.le_of_ble_eq_true rfl) dL_told_237 (zrm_k 1061 rfl (by omega)) (fun r7 hr7 hf => ?_)
              refine r_bipush (v := 12) C0 dL_told_240 (by decide) ?_
              refine r_bipush (v := 8) C0 dL_told_242 (by decide) ?_
              refine r_iload C0 dL_told_244 12 rfl ?_
              refine r_imul C0 dL_told_246 ?_
              refine r_iadd C0 dL_told_247 ?_
              refine r_icmp_ne C0 301 dL_told_248 (by decide) hf (fun hf => ?_) (fun hf => ?_)
              · refine r_iconst (v := 0) C0 dL_told_301 (by decide) ?_
                refine r_istore (L' := [(9, .int (0 : Int32)), (13, .int x3), (12, .int x2), (11, .int r1), (0, .ref p0), (1, .ref p1), (2, .ref b), (3, .int p3), (5, .int v5), (6, .int v6), (7, .int v7), (8, .int v8), (10, .int v10)]) C0 dL_told_302 (by decide) rfl ?_
                refine r_iinc (j := 12) (v := (v10 + (1 : Int32))) (L' := [(10, .int (v10 + (1 : Int32))), (9, .int (0 : Int32)), (13, .int x3), (12, .int x2), (11, .int r1), (0, .ref p0), (1, .ref p1), (2, .ref b), (3, .int p3), (5, .int v5), (6, .int v6), (7, .int v7), (8, .int v8)]) C0 dL_told_304 rfl rfl (by decide) rfl ?_
                refine r_goto C0 146 dL_told_307 (by decide) ?_
                refine r_sub (L' := [(0, .ref p0), (1, .ref p1), (2, .ref b), (3, .int p3), (5, .int v5), (6, .int v6), (7, .int v7), (8, .int v8), (9, .int (0 : Int32)), (10, .int (v10 + (1 : Int32)))]) [5, 6, 7, 8, 9, 10, 11, 12, 1, 0] rfl ?_
                exact ih v5 v6 v7 v8 (0 : Int32) (v10 + (1 : Int32)) r7.2 _ hf _ (by omega)
              · refine r_aload_n C0 dL_told_251 rfl 3 rfl ?_
                refine r_aload_n C0 dL_told_252 rfl 4 rfl ?_
                refine r_iload C0 dL_told_253 0 rfl ?_
                refine r_bipush (v := 10) C0 dL_told_255 (by decide) ?_
                refine r_callAw C0 (st := []) (kc1 := kc + 76) [.ref p0, .ref p1, .int x3, .int (10 : Int32)] hf vs_157 (fun hl r8 hr8 => c_L_digits hl F p0 p1 x3 (10 : Int32) hk_p0 hk_p1 r7.2 r8 hr8) rfl rfl (Nat.le_of_ble_eq_true rfl) dL_told_257 (zrm_k 1061 rfl (by omega)) (by omega) (fun r8 hr8 hf => ?_)
                refine r_if_eq C0 301 dL_told_260 (by decide) hf (fun hf => ?_) (fun hf => ?_)
                · refine r_iconst (v := 0) C0 dL_told_301 (by decide) ?_
                  refine r_istore (L' := [(9, .int (0 : Int32)), (13, .int x3), (12, .int x2), (11, .int r1), (0, .ref p0), (1, .ref p1), (2, .ref b), (3, .int p3), (5, .int v5), (6, .int v6), (7, .int v7), (8, .int v8), (10, .int v10)]) C0 dL_told_302 (by decide) rfl ?_
                  refine r_iinc (j := 12) (v := (v10 + (1 : Int32))) (L' := [(10, .int (v10 + (1 : Int32))), (9, .int (0 : Int32)), (13, .int x3), (12, .int x2), (11, .int r1), (0, .ref p0), (1, .ref p1), (2, .ref b), (3, .int p3), (5, .int v5), (6, .int v6), (7, .int v7), (8, .int v8)]) C0 dL_told_304 rfl rfl (by decide) rfl ?_
                  refine r_goto C0 146 dL_told_307 (by decide) ?_
                  refine r_sub (L' := [(0, .ref p0), (1, .ref p1), (2, .ref b), (3, .int p3), (5, .int v5), (6, .int v6), (7, .int v7), (8, .int v8), (9, .int (0 : Int32)), (10, .int (v10 + (1 : Int32)))]) [5, 6, 7, 8, 9, 10, 11, 12, 1, 0] rfl ?_
                  exact ih v5 v6 v7 v8 (0 : Int32) (v10 + (1 : Int32)) r8.2 _ hf _ (by omega)
                · refine r_aload_n C0 dL_told_263 rfl 3 rfl ?_
                  refine r_aload_n C0 dL_told_264 rfl 4 rfl ?_
                  refine r_bipush (v := 48) C0 dL_told_265 (by decide) ?_
                  refine r_iload C0 dL_told_267 2 rfl ?_
                  refine r_ldc (v := 1048576) C0 qw_691 dL_told_269 ?_
                  refine r_idiv' C0 dL_told_271 (by decide) ?_
                  refine r_bipush (v := 10) C0 dL_told_272 (by decide) ?_
                  refine r_irem' C0 dL_told_274 (by decide) ?_
                  refine r_iadd C0 dL_told_275 ?_
                  refine r_callAw C0 (st := []) (kc1 := kc + 80) [.ref p0, .ref p1, .int ((48 : Int32) + ((r1 / (1048576 : Int32)) - (r1 / (1048576 : Int32)) / (10 : Int32) * (10 : Int32)))] hf vs_153 (fun hl r9 hr9 => c_L_put hl F p0 p1 ((48 : Int32) + ((r1 / (1048576 : Int32)) - (r1 / (1048576 : Int32)) / (10 : Int32) * (10 : Int32))) hk_p0 hk_p1 r8.2 r9 hr9) rfl rfl (Nat.le_of_ble_eq_true rfl) dL_told_276 (zrm_k 1061 rfl (by omega)) (by omega) (fun r9 hr9 hf => ?_)
                  refine r_if_eq C0 301 dL_told_279 (by decide) hf (fun hf => ?_) (fun hf => ?_)
                  · refine r_iconst (v := 0) C0 dL_told_301 (by decide) ?_
                    refine r_istore (L' := [(9, .int (0 : Int32)), (13, .int x3), (12, .int x2), (11, .int r1), (0, .ref p0), (1, .ref p1), (2, .ref b), (3, .int p3), (5, .int v5), (6, .int v6), (7, .int v7), (8, .int v8), (10, .int v10)]) C0 dL_told_302 (by decide) rfl ?_
                    refine r_iinc (j := 12) (v := (v10 + (1 : Int32))) (L' := [(10, .int (v10 + (1 : Int32))), (9, .int (0 : Int32)), (13, .int x3), (12, .int x2), (11, .int r1), (0, .ref p0), (1, .ref p1), (2, .ref b), (3, .int p3), (5, .int v5), (6, .int v6), (7, .int v7), (8, .int v8)]) C0 dL_told_304 rfl rfl (by decide) rfl ?_
                    refine r_goto C0 146 dL_told_307 (by decide) ?_
                    refine r_sub (L' := [(0, .ref p0), (1, .ref p1), (2, .ref b), (3, .int p3), (5, .int v5), (6, .int v6), (7, .int v7), (8, .int v8), (9, .int (0 : Int32)), (10, .int (v10 + (1 : Int32)))]) [5, 6, 7, 8, 9, 10, 11, 12, 1, 0] rfl ?_
                    exact ih v5 v6 v7 v8 (0 : Int32) (v10 + (1 : Int32)) r9.2 _ hf _ (by omega)
                  · refine r_aload_n C0 dL_told_282 rfl 3 rfl ?_
                    refine r_callVL C0 (st := []) [] p0 hf vs_156 (fun hl r10 hr10 => c_X10_errorPosition hl F p0 hk_p0 r9.2 r10 hr10) (K_X10_o hk_p0) rfl rfl rfl rfl (Nat.le_of_ble_eq_true rfl) dL_told_283 (zrm_k 1061 rfl (by omega)) (fun r10 hr10 hf => ?_)
                    refine r_bipush (v := 15) C0 dL_told_286 (by decide) ?_
                    refine r_bipush (v := 8) C0 dL_told_288 (by decide) ?_
                    refine r_iload C0 dL_told_290 12 rfl ?_
                    refine r_imul C0 dL_told_292 ?_
                    refine r_iadd C0 dL_told_293 ?_
                    refine r_icmp_ne C0 301 dL_told_294 (by decide) hf (fun hf => ?_) (fun hf => ?_)
                    · refine r_iconst (v := 0) C0 dL_told_301 (by decide) ?_
                      refine r_istore (L' := [(9, .int (0 : Int32)), (13, .int x3), (12, .int x2), (11, .int r1), (0, .ref p0), (1, .ref p1), (2, .ref b), (3, .int p3), (5, .int v5), (6, .int v6), (7, .int v7), (8, .int v8), (10, .int v10)]) C0 dL_told_302 (by decide) rfl ?_
                      refine r_iinc (j := 12) (v := (v10 + (1 : Int32))) (L' := [(10, .int (v10 + (1 : Int32))), (9, .int (0 : Int32)), (13, .int x3), (12, .int x2), (11, .int r1), (0, .ref p0), (1, .ref p1), (2, .ref b), (3, .int p3), (5, .int v5), (6, .int v6), (7, .int v7), (8, .int v8)]) C0 dL_told_304 rfl rfl (by decide) rfl ?_
                      refine r_goto C0 146 dL_told_307 (by decide) ?_
                      refine r_sub (L' := [(0, .ref p0), (1, .ref p1), (2, .ref b), (3, .int p3), (5, .int v5), (6, .int v6), (7, .int v7), (8, .int v8), (9, .int (0 : Int32)), (10, .int (v10 + (1 : Int32)))]) [5, 6, 7, 8, 9, 10, 11, 12, 1, 0] rfl ?_
                      exact ih v5 v6 v7 v8 (0 : Int32) (v10 + (1 : Int32)) r10.2 _ hf _ (by omega)
                    · refine r_iconst (v := 1) C0 dL_told_297 (by decide) ?_
                      refine r_goto C0 302 dL_told_298 (by decide) ?_
                      refine r_istore (L' := [(9, .int (1 : Int32)), (13, .int x3), (12, .int x2), (11, .int r1), (0, .ref p0), (1, .ref p1), (2, .ref b), (3, .int p3), (5, .int v5), (6, .int v6), (7, .int v7), (8, .int v8), (10, .int v10)]) C0 dL_told_302 (by decide) rfl ?_
                      refine r_iinc (j := 12) (v := (v10 + (1 : Int32))) (L' := [(10, .int (v10 + (1 : Int32))), (9, .int (1 : Int32)), (13, .int x3), (12, .int x2), (11, .int r1), (0, .ref p0), (1, .ref p1), (2, .ref b), (3, .int p3), (5, .int v5), (6, .int v6), (7, .int v7), (8, .int v8)]) C0 dL_told_304 rfl rfl (by decide) rfl ?_
                      refine r_goto C0 146 dL_told_307 (by decide) ?_
                      refine r_sub (L' := [(0, .ref p0), (1, .ref p1), (2, .ref b), (3, .int p3), (5, .int v5), (6, .int v6), (7, .int v7), (8, .int v8), (9, .int (1 : Int32)), (10, .int (v10 + (1 : Int32)))]) [5, 6, 7, 8, 9, 10, 11, 12, 1, 0] rfl ?_
                      exact ih v5 v6 v7 v8 (1 : Int32) (v10 + (1 : Int32)) r10.2 _ hf _ (by omega)
