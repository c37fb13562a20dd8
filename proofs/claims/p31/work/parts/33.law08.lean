set_option maxHeartbeats 4000000 in
set_option maxRecDepth 100000 in
theorem g_L_law_86 {Γ : zCx} {Q : State → Prop} {E : zEn} {S : zSk} {X : zMl} {ret : Option FieldType} {hh : List (Nat × Nat × Nat × Nat)} (C0 : zCt Γ E R_law cL_law 9 ret hh room_1) (F : Nat) (b : Nat) (len : Nat) (xs : Nat → Int32) (p1 : Nat) (p2 : Nat) (hX : va_X b len xs (gS Γ) (gS Γ).heap) (hbl : b < (gS Γ).heap.size) (hbA : ¬ E.2.2 ≤ b) (hk_p1 : K_X10 S p1) (hk_p2 : K_X10 S p2) (hend : ∀ (kc : Nat) (M : zMi) (L : List (Nat × Value)), kc ≤ 700000 → zG Γ Q E 9 kc (6 * kc) S ZT M X 370 L [.int 1]) : ∀ (n : Nat) (v3 : Int32) (v4 : Int32) (M : zMi), f_L_law_86 F len xs p1 p2 n v3 v4 M = some (1 : Int32) → ∀ kc : Nat, kc + (n * 135543 + 0) ≤ 700000 → zG Γ Q E 9 kc (6 * kc) S ZT M X 86 [(0, .ref b), (1, .ref p1), (2, .ref p2), (3, .int v3), (4, .int v4)] [] := by
  intro n
  induction n with
  | zero => intro v3 v4 M hf; cases hf
  | succ n ih =>
    intro v3 v4 M hf kc hkc
    refine r_iload C0 dL_law_86 4 rfl ?_
    refine r_iconst (v := 2) C0 dL_law_88 (by decide) ?_
    refine r_icmp_ge C0 369 dL_law_89 (by decide) hf (fun hf => ?_) (fun hf => ?_)
    · refine r_iload_n C0 dL_law_369 rfl 3 rfl ?_
      have e1 : v3 = 1 := Option.some.inj hf
      rw [e1]
      exact hend _ _ _ (by omega)
    · refine r_iload_n C0 dL_law_92 rfl 3 rfl ?_
      refine r_if_eq C0 369 dL_law_93 (by decide) hf (fun hf => ?_) (fun hf => ?_)
      · refine r_iload_n C0 dL_law_369 rfl 3 rfl ?_
        have e1 : v3 = 1 := Option.some.inj hf
        rw [e1]
        exact hend _ _ _ (by omega)
      · refine r_aload_n C0 dL_law_96 rfl 1 rfl ?_
        refine r_aload_n C0 dL_law_97 rfl 2 rfl ?_
        refine r_aload_n C0 dL_law_98 rfl 0 rfl ?_
        refine r_bipush (v := 40) C0 dL_law_99 (by decide) ?_
        refine r_iload C0 dL_law_101 4 rfl ?_
        refine r_imul C0 dL_law_103 ?_
        refine r_callST C0 (st := []) (kc1 := kc + 1061) [.ref p1, .ref p2, .ref b, .int ((40 : Int32) * v4)] hX hbl hbA hf vs_187 (fun hl r1 hr1 => c_L_told hl F b len xs p1 p2 ((40 : Int32) * v4) hk_p1 hk_p2 hbA M r1 hr1) rfl rfl (Nat.le_of_ble_eq_true rfl) dL_law_104 (zrm_k 700000 rfl (by omega)) (by omega) (fun r1 hr1 hf => ?_)
        refine r_if_eq C0 136 dL_law_107 (by decide) hf (fun hf => ?_) (fun hf => ?_)
        · refine r_iconst (v := 0) C0 dL_law_136 (by decide) ?_
          refine r_istore_n (L' := [(3, .int (0 : Int32)), (0, .ref b), (1, .ref p1), (2, .ref p2), (4, .int v4)]) C0 dL_law_137 rfl (by decide) rfl ?_
          refine r_iconst (v := 0) C0 dL_law_138 (by decide) ?_
          refine r_istore (L' := [(5, .int (0 : Int32)), (3, .int (0 : Int32)), (0, .ref b), (1, .ref p1), (2, .ref p2), (4, .int v4)]) C0 dL_law_139 (by decide) rfl ?_
          refine r_sub (L' := [(0, .ref b), (1, .ref p1), (2, .ref p2), (3, .int (0 : Int32)), (4, .int v4), (5, .int (0 : Int32))]) [2, 3, 4, 1, 5, 0] rfl ?_
          exact g_L_law_141 C0 F b len xs p1 p2 (f_L_law_86 F len xs p1 p2 n) (n * 135543 + 0) hX hbl hbA hk_p1 hk_p2 ih hend 14 (0 : Int32) v4 (0 : Int32) r1.2 hf _ (by omega)
        · refine r_aload_n C0 dL_law_110 rfl 2 rfl ?_
          refine r_callAw C0 (st := []) (kc1 := kc + 1148) [.ref p2] hf vs_185 (fun hl r2 hr2 => c_L_refuses hl F p2 hk_p2 r1.2 r2 hr2) rfl rfl (Nat.le_of_ble_eq_true rfl) dL_law_111 (zrm_k 700000 rfl (by omega)) (by omega) (fun r2 hr2 hf => ?_)
          refine r_if_eq C0 136 dL_law_114 (by decide) hf (fun hf => ?_) (fun hf => ?_)
          · refine r_iconst (v := 0) C0 dL_law_136 (by decide) ?_
            refine r_istore_n (L' := [(3, .int (0 : Int32)), (0, .ref b), (1, .ref p1), (2, .ref p2), (4, .int v4)]) C0 dL_law_137 rfl (by decide) rfl ?_
            refine r_iconst (v := 0) C0 dL_law_138 (by decide) ?_
            refine r_istore (L' := [(5, .int (0 : Int32)), (3, .int (0 : Int32)), (0, .ref b), (1, .ref p1), (2, .ref p2), (4, .int v4)]) C0 dL_law_139 (by decide) rfl ?_
            refine r_sub (L' := [(0, .ref b), (1, .ref p1), (2, .ref p2), (3, .int (0 : Int32)), (4, .int v4), (5, .int (0 : Int32))]) [2, 3, 4, 1, 5, 0] rfl ?_
            exact g_L_law_141 C0 F b len xs p1 p2 (f_L_law_86 F len xs p1 p2 n) (n * 135543 + 0) hX hbl hbA hk_p1 hk_p2 ih hend 14 (0 : Int32) v4 (0 : Int32) r2.2 hf _ (by omega)
          · refine r_aload_n C0 dL_law_117 rfl 1 rfl ?_
            refine r_aload_n C0 dL_law_118 rfl 2 rfl ?_
            refine r_callAp C0 (st := []) (kc1 := kc + 1522) [.ref p1, .ref p2] hf vs_186 (fun hl r3 hr3 => c_L_alike hl F p1 p2 hk_p1 hk_p2 r2.2 r3 hr3) rfl rfl (Nat.le_of_ble_eq_true rfl) dL_law_119 (zrm_k 700000 rfl (by omega)) (by omega) (fun r3 hr3 hf => ?_)
            refine r_if_eq C0 136 dL_law_122 (by decide) hf (fun hf => ?_) (fun hf => ?_)
            · refine r_iconst (v := 0) C0 dL_law_136 (by decide) ?_
              refine r_istore_n (L' := [(3, .int (0 : Int32)), (0, .ref b), (1, .ref p1), (2, .ref p2), (4, .int v4)]) C0 dL_law_137 rfl (by decide) rfl ?_
              refine r_iconst (v := 0) C0 dL_law_138 (by decide) ?_
              refine r_istore (L' := [(5, .int (0 : Int32)), (3, .int (0 : Int32)), (0, .ref b), (1, .ref p1), (2, .ref p2), (4, .int v4)]) C0 dL_law_139 (by decide) rfl ?_
              refine r_sub (L' := [(0, .ref b), (1, .ref p1), (2, .ref p2), (3, .int (0 : Int32)), (4, .int v4), (5, .int (0 : Int32))]) [2, 3, 4, 1, 5, 0] rfl ?_
              exact g_L_law_141 C0 F b len xs p1 p2 (f_L_law_86 F len xs p1 p2 n) (n * 135543 + 0) hX hbl hbA hk_p1 hk_p2 ih hend 14 (0 : Int32) v4 (0 : Int32) r2.2 hf _ (by omega)
            · refine r_aload_n C0 dL_law_125 rfl 1 rfl ?_
              refine r_callAp C0 (st := []) (kc1 := kc + 1731) [.ref p1] hf vs_182 (fun hl r4 hr4 => c_L_sound hl F p1 hk_p1 r2.2 r4 hr4) rfl rfl (Nat.le_of_ble_eq_true rfl) dL_law_126 (zrm_k 700000 rfl (by omega)) (by omega) (fun r4 hr4 hf => ?_)
              refine r_if_eq C0 136 dL_law_129 (by decide) hf (fun hf => ?_) (fun hf => ?_)
              · refine r_iconst (v := 0) C0 dL_law_136 (by decide) ?_
                refine r_istore_n (L' := [(3, .int (0 : Int32)), (0, .ref b), (1, .ref p1), (2, .ref p2), (4, .int v4)]) C0 dL_law_137 rfl (by decide) rfl ?_
                refine r_iconst (v := 0) C0 dL_law_138 (by decide) ?_
                refine r_istore (L' := [(5, .int (0 : Int32)), (3, .int (0 : Int32)), (0, .ref b), (1, .ref p1), (2, .ref p2), (4, .int v4)]) C0 dL_law_139 (by decide) rfl ?_
                refine r_sub (L' := [(0, .ref b), (1, .ref p1), (2, .ref p2), (3, .int (0 : Int32)), (4, .int v4), (5, .int (0 : Int32))]) [2, 3, 4, 1, 5, 0] rfl ?_
                exact g_L_law_141 C0 F b len xs p1 p2 (f_L_law_86 F len xs p1 p2 n) (n * 135543 + 0) hX hbl hbA hk_p1 hk_p2 ih hend 14 (0 : Int32) v4 (0 : Int32) r2.2 hf _ (by omega)
              · refine r_iconst (v := 1) C0 dL_law_132 (by decide) ?_
                refine r_goto C0 137 dL_law_133 (by decide) ?_
                refine r_istore_n (L' := [(3, .int (1 : Int32)), (0, .ref b), (1, .ref p1), (2, .ref p2), (4, .int v4)]) C0 dL_law_137 rfl (by decide) rfl ?_
                refine r_iconst (v := 0) C0 dL_law_138 (by decide) ?_
                refine r_istore (L' := [(5, .int (0 : Int32)), (3, .int (1 : Int32)), (0, .ref b), (1, .ref p1), (2, .ref p2), (4, .int v4)]) C0 dL_law_139 (by decide) rfl ?_
                refine r_sub (L' := [(0, .ref b), (1, .ref p1), (2, .ref p2), (3, .int (1 : Int32)), (4, .int v4), (5, .int (0 : Int32))]) [2, 3, 4, 1, 5, 0] rfl ?_
                exact g_L_law_141 C0 F b len xs p1 p2 (f_L_law_86 F len xs p1 p2 n) (n * 135543 + 0) hX hbl hbA hk_p1 hk_p2 ih hend 14 (1 : Int32) v4 (0 : Int32) r2.2 hf _ (by omega)
set_option maxHeartbeats 4000000 in
set_option maxRecDepth 100000 in
theorem g_L_law_16 {Γ : zCx} {Q : State → Prop} {E : zEn} {S : zSk} {X : zMl} {ret : Option FieldType} {hh : List (Nat × Nat × Nat × Nat)} (C0 : zCt Γ E R_law cL_law 9 ret hh room_1) (F : Nat) (b : Nat) (len : Nat) (xs : Nat → Int32) (p1 : Nat) (p2 : Nat) (hX : va_X b len xs (gS Γ) (gS Γ).heap) (hbl : b < (gS Γ).heap.size) (hbA : ¬ E.2.2 ≤ b) (hk_p1 : K_X10 S p1) (hk_p2 : K_X10 S p2) (hend : ∀ (kc : Nat) (M : zMi) (L : List (Nat × Value)), kc ≤ 700000 → zG Γ Q E 9 kc (6 * kc) S ZT M X 370 L [.int 1]) (M : zMi) (hf : f_L_law_16 F len xs p1 p2 M = some 1) (kc : Nat) (hkc : kc + 542846 ≤ 700000) : zG Γ Q E 9 kc (6 * kc) S ZT M X 16 [(0, .ref b), (1, .ref p1), (2, .ref p2)] [] := by
  unfold f_L_law_16 at hf
  refine r_aload_n C0 dL_law_16 rfl 1 rfl ?_
  refine r_callVL C0 (st := []) [] p1 hf vs_156 (fun hl r1 hr1 => c_X10_errorPosition hl F p1 hk_p1 M r1 hr1) (K_X10_o hk_p1) rfl rfl rfl rfl (Nat.le_of_ble_eq_true rfl) dL_law_17 (zrm_k 700000 rfl (by omega)) (fun r1 hr1 hf => ?_)
  refine r_if_ne C0 81 dL_law_20 (by decide) hf (fun hf => ?_) (fun hf => ?_)
  · refine r_iconst (v := 0) C0 dL_law_81 (by decide) ?_
    refine r_istore_n (L' := [(3, .int (0 : Int32)), (0, .ref b), (1, .ref p1), (2, .ref p2)]) C0 dL_law_82 rfl (by decide) rfl ?_
    refine r_iconst (v := 0) C0 dL_law_83 (by decide) ?_
    refine r_istore (L' := [(4, .int (0 : Int32)), (3, .int (0 : Int32)), (0, .ref b), (1, .ref p1), (2, .ref p2)]) C0 dL_law_84 (by decide) rfl ?_
    refine r_sub (L' := [(0, .ref b), (1, .ref p1), (2, .ref p2), (3, .int (0 : Int32)), (4, .int (0 : Int32))]) [2, 3, 4, 1, 0] rfl ?_
    exact g_L_law_86 C0 F b len xs p1 p2 hX hbl hbA hk_p1 hk_p2 hend 4 (0 : Int32) (0 : Int32) r1.2 hf _ (by omega)
  · refine r_aload_n C0 dL_law_23 rfl 1 rfl ?_
    refine r_iconst (v := 4) C0 dL_law_24 (by decide) ?_
    refine r_callWp C0 (st := []) (kc1 := kc + 1) [.ref p1, .int (4 : Int32)] hf vs_159 (fun hl r2 hr2 => c_L_tryAbout hl F p1 (4 : Int32) hk_p1 r1.2 r2 hr2) rfl rfl (Nat.le_of_ble_eq_true rfl) dL_law_25 (zrm_k 700000 rfl (by omega)) (by omega) (fun r2 hr2 hf => ?_)
    refine r_sipush (v := 200) C0 dL_law_28 (by decide) ?_
    refine r_icmp_ne C0 81 dL_law_31 (by decide) hf (fun hf => ?_) (fun hf => ?_)
    · refine r_iconst (v := 0) C0 dL_law_81 (by decide) ?_
      refine r_istore_n (L' := [(3, .int (0 : Int32)), (0, .ref b), (1, .ref p1), (2, .ref p2)]) C0 dL_law_82 rfl (by decide) rfl ?_
      refine r_iconst (v := 0) C0 dL_law_83 (by decide) ?_
      refine r_istore (L' := [(4, .int (0 : Int32)), (3, .int (0 : Int32)), (0, .ref b), (1, .ref p1), (2, .ref p2)]) C0 dL_law_84 (by decide) rfl ?_
      refine r_sub (L' := [(0, .ref b), (1, .ref p1), (2, .ref p2), (3, .int (0 : Int32)), (4, .int (0 : Int32))]) [2, 3, 4, 1, 0] rfl ?_
      exact g_L_law_86 C0 F b len xs p1 p2 hX hbl hbA hk_p1 hk_p2 hend 4 (0 : Int32) (0 : Int32) r1.2 hf _ (by omega)
    · refine r_aload_n C0 dL_law_34 rfl 1 rfl ?_
      refine r_iconst (v := 0) C0 dL_law_35 (by decide) ?_
      refine r_iconst (v := 4) C0 dL_law_36 (by decide) ?_
      refine r_callWp C0 (st := []) (kc1 := kc + 3) [.ref p1, .int (0 : Int32), .int (4 : Int32)] hf vs_164 (fun hl r3 hr3 => c_L_tryZone hl F p1 (0 : Int32) (4 : Int32) hk_p1 r1.2 r3 hr3) rfl rfl (Nat.le_of_ble_eq_true rfl) dL_law_37 (zrm_k 700000 rfl (by omega)) (by omega) (fun r3 hr3 hf => ?_)
      refine r_bipush (v := 50) C0 dL_law_40 (by decide) ?_
      refine r_icmp_ne C0 81 dL_law_42 (by decide) hf (fun hf => ?_) (fun hf => ?_)
      · refine r_iconst (v := 0) C0 dL_law_81 (by decide) ?_
        refine r_istore_n (L' := [(3, .int (0 : Int32)), (0, .ref b), (1, .ref p1), (2, .ref p2)]) C0 dL_law_82 rfl (by decide) rfl ?_
        refine r_iconst (v := 0) C0 dL_law_83 (by decide) ?_
        refine r_istore (L' := [(4, .int (0 : Int32)), (3, .int (0 : Int32)), (0, .ref b), (1, .ref p1), (2, .ref p2)]) C0 dL_law_84 (by decide) rfl ?_
        refine r_sub (L' := [(0, .ref b), (1, .ref p1), (2, .ref p2), (3, .int (0 : Int32)), (4, .int (0 : Int32))]) [2, 3, 4, 1, 0] rfl ?_
        exact g_L_law_86 C0 F b len xs p1 p2 hX hbl hbA hk_p1 hk_p2 hend 4 (0 : Int32) (0 : Int32) r1.2 hf _ (by omega)
      · refine r_aload_n C0 dL_law_45 rfl 1 rfl ?_
        refine r_callWw C0 (st := []) (kc1 := kc + 4) [.ref p1] hf vs_162 (fun hl r4 hr4 => c_L_tryUndo hl F p1 hk_p1 r1.2 r4 hr4) rfl rfl (Nat.le_of_ble_eq_true rfl) dL_law_46 (zrm_k 700000 rfl (by omega)) (by omega) (fun r4 hr4 hf => ?_)
        refine r_sipush (v := -1003) C0 dL_law_49 (by decide) ?_
        refine r_icmp_ne C0 81 dL_law_52 (by decide) hf (fun hf => ?_) (fun hf => ?_)
        · refine r_iconst (v := 0) C0 dL_law_81 (by decide) ?_
          refine r_istore_n (L' := [(3, .int (0 : Int32)), (0, .ref b), (1, .ref p1), (2, .ref p2)]) C0 dL_law_82 rfl (by decide) rfl ?_
          refine r_iconst (v := 0) C0 dL_law_83 (by decide) ?_
          refine r_istore (L' := [(4, .int (0 : Int32)), (3, .int (0 : Int32)), (0, .ref b), (1, .ref p1), (2, .ref p2)]) C0 dL_law_84 (by decide) rfl ?_
          refine r_sub (L' := [(0, .ref b), (1, .ref p1), (2, .ref p2), (3, .int (0 : Int32)), (4, .int (0 : Int32))]) [2, 3, 4, 1, 0] rfl ?_
          exact g_L_law_86 C0 F b len xs p1 p2 hX hbl hbA hk_p1 hk_p2 hend 4 (0 : Int32) (0 : Int32) r4.2 hf _ (by omega)
        · refine r_aload_n C0 dL_law_55 rfl 2 rfl ?_
          refine r_callAw C0 (st := []) (kc1 := kc + 91) [.ref p2] hf vs_185 (fun hl r5 hr5 => c_L_refuses hl F p2 hk_p2 r4.2 r5 hr5) rfl rfl (Nat.le_of_ble_eq_true rfl) dL_law_56 (zrm_k 700000 rfl (by omega)) (by omega) (fun r5 hr5 hf => ?_)
          refine r_if_eq C0 81 dL_law_59 (by decide) hf (fun hf => ?_) (fun hf => ?_)
          · refine r_iconst (v := 0) C0 dL_law_81 (by decide) ?_
            refine r_istore_n (L' := [(3, .int (0 : Int32)), (0, .ref b), (1, .ref p1), (2, .ref p2)]) C0 dL_law_82 rfl (by decide) rfl ?_
            refine r_iconst (v := 0) C0 dL_law_83 (by decide) ?_
            refine r_istore (L' := [(4, .int (0 : Int32)), (3, .int (0 : Int32)), (0, .ref b), (1, .ref p1), (2, .ref p2)]) C0 dL_law_84 (by decide) rfl ?_
            refine r_sub (L' := [(0, .ref b), (1, .ref p1), (2, .ref p2), (3, .int (0 : Int32)), (4, .int (0 : Int32))]) [2, 3, 4, 1, 0] rfl ?_
            exact g_L_law_86 C0 F b len xs p1 p2 hX hbl hbA hk_p1 hk_p2 hend 4 (0 : Int32) (0 : Int32) r5.2 hf _ (by omega)
          · refine r_aload_n C0 dL_law_62 rfl 1 rfl ?_
            refine r_aload_n C0 dL_law_63 rfl 2 rfl ?_
            refine r_callAp C0 (st := []) (kc1 := kc + 465) [.ref p1, .ref p2] hf vs_186 (fun hl r6 hr6 => c_L_alike hl F p1 p2 hk_p1 hk_p2 r5.2 r6 hr6) rfl rfl (Nat.le_of_ble_eq_true rfl) dL_law_64 (zrm_k 700000 rfl (by omega)) (by omega) (fun r6 hr6 hf => ?_)
            refine r_if_eq C0 81 dL_law_67 (by decide) hf (fun hf => ?_) (fun hf => ?_)
            · refine r_iconst (v := 0) C0 dL_law_81 (by decide) ?_
              refine r_istore_n (L' := [(3, .int (0 : Int32)), (0, .ref b), (1, .ref p1), (2, .ref p2)]) C0 dL_law_82 rfl (by decide) rfl ?_
              refine r_iconst (v := 0) C0 dL_law_83 (by decide) ?_
              refine r_istore (L' := [(4, .int (0 : Int32)), (3, .int (0 : Int32)), (0, .ref b), (1, .ref p1), (2, .ref p2)]) C0 dL_law_84 (by decide) rfl ?_
              refine r_sub (L' := [(0, .ref b), (1, .ref p1), (2, .ref p2), (3, .int (0 : Int32)), (4, .int (0 : Int32))]) [2, 3, 4, 1, 0] rfl ?_
              exact g_L_law_86 C0 F b len xs p1 p2 hX hbl hbA hk_p1 hk_p2 hend 4 (0 : Int32) (0 : Int32) r5.2 hf _ (by omega)
            · refine r_aload_n C0 dL_law_70 rfl 1 rfl ?_
              refine r_callAp C0 (st := []) (kc1 := kc + 674) [.ref p1] hf vs_182 (fun hl r7 hr7 => c_L_sound hl F p1 hk_p1 r5.2 r7 hr7) rfl rfl (Nat.le_of_ble_eq_true rfl) dL_law_71 (zrm_k 700000 rfl (by omega)) (by omega) (fun r7 hr7 hf => ?_)
              refine r_if_eq C0 81 dL_law_74 (by decide) hf (fun hf => ?_) (fun hf => ?_)
              · refine r_iconst (v := 0) C0 dL_law_81 (by decide) ?_
                refine r_istore_n (L' := [(3, .int (0 : Int32)), (0, .ref b), (1, .ref p1), (2, .ref p2)]) C0 dL_law_82 rfl (by decide) rfl ?_
                refine r_iconst (v := 0) C0 dL_law_83 (by decide) ?_
                refine r_istore (L' := [(4, .int (0 : Int32)), (3, .int (0 : Int32)), (0, .ref b), (1, .ref p1), (2, .ref p2)]) C0 dL_law_84 (by decide) rfl ?_
                refine r_sub (L' := [(0, .ref b), (1, .ref p1), (2, .ref p2), (3, .int (0 : Int32)), (4, .int (0 : Int32))]) [2, 3, 4, 1, 0] rfl ?_
                exact g_L_law_86 C0 F b len xs p1 p2 hX hbl hbA hk_p1 hk_p2 hend 4 (0 : Int32) (0 : Int32) r5.2 hf _ (by omega)
              · refine r_iconst (v := 1) C0 dL_law_77 (by decide) ?_
                refine r_goto C0 82 dL_law_78 (by decide) ?_
                refine r_istore_n (L' := [(3, .int (1 : Int32)), (0, .ref b), (1, .ref p1), (2, .ref p2)]) C0 dL_law_82 rfl (by decide) rfl ?_
                refine r_iconst (v := 0) C0 dL_law_83 (by decide) ?_
                refine r_istore (L' := [(4, .int (0 : Int32)), (3, .int (1 : Int32)), (0, .ref b), (1, .ref p1), (2, .ref p2)]) C0 dL_law_84 (by decide) rfl ?_
                refine r_sub (L' := [(0, .ref b), (1, .ref p1), (2, .ref p2), (3, .int (1 : Int32)), (4, .int (0 : Int32))]) [2, 3, 4, 1, 0] rfl ?_
                exact g_L_law_86 C0 F b len xs p1 p2 hX hbl hbA hk_p1 hk_p2 hend 4 (1 : Int32) (0 : Int32) r5.2 hf _ (by omega)
