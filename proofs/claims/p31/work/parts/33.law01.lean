set_option maxHeartbeats 4000000 in
set_option maxRecDepth 100000 in
theorem c_L_told {l : Launch} {E : zEn} {S : zSk} {X : zMl} (hl : l.stackTraces = false) (F : Nat) (b : Nat) (len : Nat) (xs : Nat → Int32) (p0 : Nat) (p1 : Nat) (p3 : Int32) (hk_p0 : K_X10 S p0) (hk_p1 : K_X10 S p1) (hbA : ¬ E.2.2 ≤ b) (M : zMi) (r : Int32 × zMi) (hf : f_L_told F len xs p0 p1 p3 M = some r) : zMS l E yL_told cL_told 14 (Option.some Jvm.ClassFile.FieldType.boolean) { frames := 11, cells := 1061, slots := 6366, locals := 202 } 1061 6366 [.ref p0, .ref p1, .ref b, .int p3] b len xs S M X (.inr (some (.int r.1)), r.2) := by
  refine zMS.intro (L0 := [(0, .ref p0), (1, .ref p1), (2, .ref b), (3, .int p3)]) hl (by decide) (Nat.le_of_ble_eq_true rfl) rfl (fun Γ C0 hX hbl => ?_)
  unfold f_L_told at hf
  refine r_aload_n C0 dL_told_0 rfl 2 rfl ?_
  refine r_iload_n C0 dL_told_1 rfl 3 rfl ?_
  refine r_callSN C0 (st := []) (kc1 := 0) [.ref b, .int p3] hX hbl hbA hf vs_154 (fun hl r1 hr1 => c_L_number hl F b len xs p3 hbA M r1 hr1) rfl rfl (Nat.le_of_ble_eq_true rfl) dL_told_2 (zrm_k 1061 rfl (Nat.le_of_ble_eq_true rfl)) (Nat.le_of_ble_eq_true rfl) (fun r1 hr1 hf => ?_)
  refine r_istore (L' := [(4, .int r1), (0, .ref p0), (1, .ref p1), (2, .ref b), (3, .int p3)]) C0 dL_told_5 (by decide) rfl ?_
  refine r_iconst (v := 1) C0 dL_told_7 (by decide) ?_
  refine r_iload C0 dL_told_8 0 rfl ?_
  refine r_iconst (v := 4) C0 dL_told_10 (by decide) ?_
  refine r_irem' C0 dL_told_11 (by decide) ?_
  refine r_iadd C0 dL_told_12 ?_
  refine r_nm hf (fun x2 hf => ?_)
  refine r_istore (L' := [(5, .int x2), (4, .int r1), (0, .ref p0), (1, .ref p1), (2, .ref b), (3, .int p3)]) C0 dL_told_13 (by decide) rfl ?_
  refine r_iconst (v := 1) C0 dL_told_15 (by decide) ?_
  refine r_iload C0 dL_told_16 1 rfl ?_
  refine r_iconst (v := 4) C0 dL_told_18 (by decide) ?_
  refine r_idiv' C0 dL_told_19 (by decide) ?_
  refine r_iconst (v := 4) C0 dL_told_20 (by decide) ?_
  refine r_irem' C0 dL_told_21 (by decide) ?_
  refine r_iadd C0 dL_told_22 ?_
  refine r_nm hf (fun x3 hf => ?_)
  refine r_istore (L' := [(6, .int x3), (5, .int x2), (4, .int r1), (0, .ref p0), (1, .ref p1), (2, .ref b), (3, .int p3)]) C0 dL_told_23 (by decide) rfl ?_
  refine r_iconst (v := 1) C0 dL_told_25 (by decide) ?_
  refine r_iload C0 dL_told_26 2 rfl ?_
  refine r_bipush (v := 16) C0 dL_told_28 (by decide) ?_
  refine r_idiv' C0 dL_told_30 (by decide) ?_
  refine r_bipush (v := 9) C0 dL_told_31 (by decide) ?_
  refine r_irem' C0 dL_told_33 (by decide) ?_
  refine r_iadd C0 dL_told_34 ?_
  refine r_nm hf (fun x4 hf => ?_)
  refine r_istore (L' := [(7, .int x4), (6, .int x3), (5, .int x2), (4, .int r1), (0, .ref p0), (1, .ref p1), (2, .ref b), (3, .int p3)]) C0 dL_told_35 (by decide) rfl ?_
  refine r_iload C0 dL_told_37 3 rfl ?_
  refine r_sipush (v := 256) C0 dL_told_39 (by decide) ?_
  refine r_idiv' C0 dL_told_42 (by decide) ?_
  refine r_sipush (v := 1000) C0 dL_told_43 (by decide) ?_
  refine r_irem' C0 dL_told_46 (by decide) ?_
  refine r_nm hf (fun x5 hf => ?_)
  refine r_istore (L' := [(8, .int x5), (7, .int x4), (6, .int x3), (5, .int x2), (4, .int r1), (0, .ref p0), (1, .ref p1), (2, .ref b), (3, .int p3)]) C0 dL_told_47 (by decide) rfl ?_
  refine r_aload_n C0 dL_told_49 rfl 5 rfl ?_
  refine r_callVL C0 (st := []) [] p0 hf vs_155 (fun hl r6 hr6 => c_X10_clearText hl F p0 hk_p0 M r6 hr6) (K_X10_o hk_p0) rfl rfl rfl rfl (Nat.le_of_ble_eq_true rfl) dL_told_50 (zrm_k 1061 rfl (Nat.le_of_ble_eq_true rfl)) (fun r6 hr6 hf => ?_)
  refine r_aload_n C0 dL_told_53 rfl 6 rfl ?_
  refine r_callVL C0 (st := [.int r6.1]) [] p1 hf vs_155 (fun hl r7 hr7 => c_X10_clearText hl F p1 hk_p1 r6.2 r7 hr7) (K_X10_o hk_p1) rfl rfl rfl rfl (Nat.le_of_ble_eq_true rfl) dL_told_54 (zrm_k 1061 rfl (Nat.le_of_ble_eq_true rfl)) (fun r7 hr7 hf => ?_)
  refine r_icmp_ne C0 140 dL_told_57 (by decide) hf (fun hf => ?_) (fun hf => ?_)
  · refine r_iconst (v := 0) C0 dL_told_140 (by decide) ?_
    refine r_istore (L' := [(9, .int (0 : Int32)), (8, .int x5), (7, .int x4), (6, .int x3), (5, .int x2), (4, .int r1), (0, .ref p0), (1, .ref p1), (2, .ref b), (3, .int p3)]) C0 dL_told_141 (by decide) rfl ?_
    refine r_iconst (v := 0) C0 dL_told_143 (by decide) ?_
    refine r_istore (L' := [(10, .int (0 : Int32)), (9, .int (0 : Int32)), (8, .int x5), (7, .int x4), (6, .int x3), (5, .int x2), (4, .int r1), (0, .ref p0), (1, .ref p1), (2, .ref b), (3, .int p3)]) C0 dL_told_144 (by decide) rfl ?_
    refine r_sub (L' := [(0, .ref p0), (1, .ref p1), (2, .ref b), (3, .int p3), (5, .int x2), (6, .int x3), (7, .int x4), (8, .int x5), (9, .int (0 : Int32)), (10, .int (0 : Int32))]) [7, 8, 9, 10, 5, 4, 3, 2, 1, 0] rfl ?_
    exact g_L_told_146 C0 F b len xs p0 p1 p3 hX hbl hbA hk_p0 hk_p1 6 x2 x3 x4 x5 (0 : Int32) (0 : Int32) r7.2 _ hf _ (Nat.le_of_ble_eq_true rfl)
  · refine r_aload_n C0 dL_told_60 rfl 5 rfl ?_
    refine r_aload_n C0 dL_told_61 rfl 6 rfl ?_
    refine r_bipush (v := 67) C0 dL_told_62 (by decide) ?_
    refine r_callAw C0 (st := []) (kc1 := 4) [.ref p0, .ref p1, .int (67 : Int32)] hf vs_153 (fun hl r8 hr8 => c_L_put hl F p0 p1 (67 : Int32) hk_p0 hk_p1 r7.2 r8 hr8) rfl rfl (Nat.le_of_ble_eq_true rfl) dL_told_64 (zrm_k 1061 rfl (Nat.le_of_ble_eq_true rfl)) (Nat.le_of_ble_eq_true rfl) (fun r8 hr8 hf => ?_)
    refine r_if_eq C0 140 dL_told_67 (by decide) hf (fun hf => ?_) (fun hf => ?_)
    · refine r_iconst (v := 0) C0 dL_told_140 (by decide) ?_
      refine r_istore (L' := [(9, .int (0 : Int32)), (8, .int x5), (7, .int x4), (6, .int x3), (5, .int x2), (4, .int r1), (0, .ref p0), (1, .ref p1), (2, .ref b), (3, .int p3)]) C0 dL_told_141 (by decide) rfl ?_
      refine r_iconst (v := 0) C0 dL_told_143 (by decide) ?_
      refine r_istore (L' := [(10, .int (0 : Int32)), (9, .int (0 : Int32)), (8, .int x5), (7, .int x4), (6, .int x3), (5, .int x2), (4, .int r1), (0, .ref p0), (1, .ref p1), (2, .ref b), (3, .int p3)]) C0 dL_told_144 (by decide) rfl ?_
      refine r_sub (L' := [(0, .ref p0), (1, .ref p1), (2, .ref b), (3, .int p3), (5, .int x2), (6, .int x3), (7, .int x4), (8, .int x5), (9, .int (0 : Int32)), (10, .int (0 : Int32))]) [7, 8, 9, 10, 5, 4, 3, 2, 1, 0] rfl ?_
      exact g_L_told_146 C0 F b len xs p0 p1 p3 hX hbl hbA hk_p0 hk_p1 6 x2 x3 x4 x5 (0 : Int32) (0 : Int32) r8.2 _ hf _ (Nat.le_of_ble_eq_true rfl)
    · refine r_aload_n C0 dL_told_70 rfl 5 rfl ?_
      refine r_aload_n C0 dL_told_71 rfl 6 rfl ?_
      refine r_bipush (v := 49) C0 dL_told_72 (by decide) ?_
      refine r_iload C0 dL_told_74 4 rfl ?_
      refine r_ldc (v := 524288) C0 qw_682 dL_told_76 ?_
      refine r_idiv' C0 dL_told_78 (by decide) ?_
      refine r_iconst (v := 3) C0 dL_told_79 (by decide) ?_
      refine r_irem' C0 dL_told_80 (by decide) ?_
      refine r_iadd C0 dL_told_81 ?_
      refine r_callAw C0 (st := []) (kc1 := 8) [.ref p0, .ref p1, .int ((49 : Int32) + ((r1 / (524288 : Int32)) - (r1 / (524288 : Int32)) / (3 : Int32) * (3 : Int32)))] hf vs_153 (fun hl r9 hr9 => c_L_put hl F p0 p1 ((49 : Int32) + ((r1 / (524288 : Int32)) - (r1 / (524288 : Int32)) / (3 : Int32) * (3 : Int32))) hk_p0 hk_p1 r8.2 r9 hr9) rfl rfl (Nat.le_of_ble_eq_true rfl) dL_told_82 (zrm_k 1061 rfl (Nat.le_of_ble_eq_true rfl)) (Nat.le_of_ble_eq_true rfl) (fun r9 hr9 hf => ?_)
      refine r_if_eq C0 140 dL_told_85 (by decide) hf (fun hf => ?_) (fun hf => ?_)
      · refine r_iconst (v := 0) C0 dL_told_140 (by decide) ?_
        refine r_istore (L' := [(9, .int (0 : Int32)), (8, .int x5), (7, .int x4), (6, .int x3), (5, .int x2), (4, .int r1), (0, .ref p0), (1, .ref p1), (2, .ref b), (3, .int p3)]) C0 dL_told_141 (by decide) rfl ?_
        refine r_iconst (v := 0) C0 dL_told_143 (by decide) ?_
        refine r_istore (L' := [(10, .int (0 : Int32)), (9, .int (0 : Int32)), (8, .int x5), (7, .int x4), (6, .int x3), (5, .int x2), (4, .int r1), (0, .ref p0), (1, .ref p1), (2, .ref b), (3, .int p3)]) C0 dL_told_144 (by decide) rfl ?_
        refine r_sub (L' := [(0, .ref p0), (1, .ref p1), (2, .ref b), (3, .int p3), (5, .int x2), (6, .int x3), (7, .int x4), (8, .int x5), (9, .int (0 : Int32)), (10, .int (0 : Int32))]) [7, 8, 9, 10, 5, 4, 3, 2, 1, 0] rfl ?_
        exact g_L_told_146 C0 F b len xs p0 p1 p3 hX hbl hbA hk_p0 hk_p1 6 x2 x3 x4 x5 (0 : Int32) (0 : Int32) r9.2 _ hf _ (Nat.le_of_ble_eq_true rfl)
      · refine r_aload_n C0 dL_told_88 rfl 5 rfl ?_
        refine r_callVL C0 (st := []) [] p0 hf vs_156 (fun hl r10 hr10 => c_X10_errorPosition hl F p0 hk_p0 r9.2 r10 hr10) (K_X10_o hk_p0) rfl rfl rfl rfl (Nat.le_of_ble_eq_true rfl) dL_told_89 (zrm_k 1061 rfl (Nat.le_of_ble_eq_true rfl)) (fun r10 hr10 hf => ?_)
        refine r_iconst (v := 2) C0 dL_told_92 (by decide) ?_
        refine r_icmp_ne C0 140 dL_told_93 (by decide) hf (fun hf => ?_) (fun hf => ?_)
        · refine r_iconst (v := 0) C0 dL_told_140 (by decide) ?_
          refine r_istore (L' := [(9, .int (0 : Int32)), (8, .int x5), (7, .int x4), (6, .int x3), (5, .int x2), (4, .int r1), (0, .ref p0), (1, .ref p1), (2, .ref b), (3, .int p3)]) C0 dL_told_141 (by decide) rfl ?_
          refine r_iconst (v := 0) C0 dL_told_143 (by decide) ?_
          refine r_istore (L' := [(10, .int (0 : Int32)), (9, .int (0 : Int32)), (8, .int x5), (7, .int x4), (6, .int x3), (5, .int x2), (4, .int r1), (0, .ref p0), (1, .ref p1), (2, .ref b), (3, .int p3)]) C0 dL_told_144 (by decide) rfl ?_
          refine r_sub (L' := [(0, .ref p0), (1, .ref p1), (2, .ref b), (3, .int p3), (5, .int x2), (6, .int x3), (7, .int x4), (8, .int x5), (9, .int (0 : Int32)), (10, .int (0 : Int32))]) [7, 8, 9, 10, 5, 4, 3, 2, 1, 0] rfl ?_
          exact g_L_told_146 C0 F b len xs p0 p1 p3 hX hbl hbA hk_p0 hk_p1 6 x2 x3 x4 x5 (0 : Int32) (0 : Int32) r10.2 _ hf _ (Nat.le_of_ble_eq_true rfl)
        · refine r_aload_n C0 dL_told_96 rfl 5 rfl ?_
          refine r_aload_n C0 dL_told_97 rfl 6 rfl ?_
          refine r_bipush (v := 49) C0 dL_told_98 (by decide) ?_
          refine r_iload C0 dL_told_100 4 rfl ?_
          refine r_ldc (v := 2097152) C0 qw_687 dL_told_102 ?_
          refine r_idiv' C0 dL_told_104 (by decide) ?_
          refine r_iconst (v := 3) C0 dL_told_105 (by decide) ?_
          refine r_irem' C0 dL_told_106 (by decide) ?_
          refine r_iadd C0 dL_told_107 ?_
          refine r_callAw C0 (st := []) (kc1 := 12) [.ref p0, .ref p1, .int ((49 : Int32) + ((r1 / (2097152 : Int32)) - (r1 / (2097152 : Int32)) / (3 : Int32) * (3 : Int32)))] hf vs_153 (fun hl r11 hr11 => c_L_put hl F p0 p1 ((49 : Int32) + ((r1 / (2097152 : Int32)) - (r1 / (2097152 : Int32)) / (3 : Int32) * (3 : Int32))) hk_p0 hk_p1 r10.2 r11 hr11) rfl rfl (Nat.le_of_ble_eq_true rfl) dL_told_108 (zrm_k 1061 rfl (Nat.le_of_ble_eq_true rfl)) (Nat.le_of_ble_eq_true rfl) (fun r11 hr11 hf => ?_)
          refine r_if_eq C0 140 dL_told_111 (by decide) hf (fun hf => ?_) (fun hf => ?_)
          · refine r_iconst (v := 0) C0 dL_told_140 (by decide) ?_
            refine r_istore (L' := [(9, .int (0 : Int32)), (8, .int x5), (7, .int x4), (6, .int x3), (5, .int x2), (4, .int r1), (0, .ref p0), (1, .ref p1), (2, .ref b), (3, .int p3)]) C0 dL_told_141 (by decide) rfl ?_
            refine r_iconst (v := 0) C0 dL_told_143 (by decide) ?_
            refine r_istore (L' := [(10, .int (0 : Int32)), (9, .int (0 : Int32)), (8, .int x5), (7, .int x4), (6, .int x3), (5, .int x2), (4, .int r1), (0, .ref p0), (1, .ref p1), (2, .ref b), (3, .int p3)]) C0 dL_told_144 (by decide) rfl ?_
            refine r_sub (L' := [(0, .ref p0), (1, .ref p1), (2, .ref b), (3, .int p3), (5, .int x2), (6, .int x3), (7, .int x4), (8, .int x5), (9, .int (0 : Int32)), (10, .int (0 : Int32))]) [7, 8, 9, 10, 5, 4, 3, 2, 1, 0] rfl ?_
            exact g_L_told_146 C0 F b len xs p0 p1 p3 hX hbl hbA hk_p0 hk_p1 6 x2 x3 x4 x5 (0 : Int32) (0 : Int32) r11.2 _ hf _ (Nat.le_of_ble_eq_true rfl)
          · refine r_aload_n C0 dL_told_114 rfl 5 rfl ?_
            refine r_aload_n C0 dL_told_115 rfl 6 rfl ?_
            refine r_iload C0 dL_told_116 0 rfl ?_
            refine r_sipush (v := 1000) C0 dL_told_118 (by decide) ?_
            refine r_callAw C0 (st := []) (kc1 := 36) [.ref p0, .ref p1, .int x5, .int (1000 : Int32)] hf vs_157 (fun hl r12 hr12 => c_L_digits hl F p0 p1 x5 (1000 : Int32) hk_p0 hk_p1 r11.2 r12 hr12) rfl rfl (Nat.le_of_ble_eq_true rfl) dL_told_121 (zrm_k 1061 rfl (Nat.le_of_ble_eq_true rfl)) (Nat.le_of_ble_eq_true rfl) (fun r12 hr12 hf => ?_)
            refine r_if_eq C0 140 dL_told_124 (by decide) hf (fun hf => ?_) (fun hf => ?_)
            · refine r_iconst (v := 0) C0 dL_told_140 (by decide) ?_
              refine r_istore (L' := [(9, .int (0 : Int32)), (8, .int x5), (7, .int x4), (6, .int x3), (5, .int x2), (4, .int r1), (0, .ref p0), (1, .ref p1), (2, .ref b), (3, .int p3)]) C0 dL_told_141 (by decide) rfl ?_
              refine r_iconst (v := 0) C0 dL_told_143 (by decide) ?_
              refine r_istore (L' := [(10, .int (0 : Int32)), (9, .int (0 : Int32)), (8, .int x5), (7, .int x4), (6, .int x3), (5, .int x2), (4, .int r1), (0, .ref p0), (1, .ref p1), (2, .ref b), (3, .int p3)]) C0 dL_told_144 (by decide) rfl ?_
              refine r_sub (L' := [(0, .ref p0), (1, .ref p1), (2, .ref b), (3, .int p3), (5, .int x2), (6, .int x3), (7, .int x4), (8, .int x5), (9, .int (0 : Int32)), (10, .int (0 : Int32))]) [7, 8, 9, 10, 5, 4, 3, 2, 1, 0] rfl ?_
              exact g_L_told_146 C0 F b len xs p0 p1 p3 hX hbl hbA hk_p0 hk_p1 6 x2 x3 x4 x5 (0 : Int32) (0 : Int32) r12.2 _ hf _ (Nat.le_of_ble_eq_true rfl)
            · refine r_aload_n C0 dL_told_127 rfl 5 rfl ?_
              refine r_callVL C0 (st := []) [] p0 hf vs_156 (fun hl r13 hr13 => c_X10_errorPosition hl F p0 hk_p0 r12.2 r13 hr13) (K_X10_o hk_p0) rfl rfl rfl rfl (Nat.le_of_ble_eq_true rfl) dL_told_128 (zrm_k 1061 rfl (Nat.le_of_ble_eq_true rfl)) (fun r13 hr13 hf => ?_)
              refine r_bipush (v := 7) C0 dL_told_131 (by decide) ?_
              refine r_icmp_ne C0 140 dL_told_133 (by decide) hf (fun hf => ?_) (fun hf => ?_)
              · refine r_iconst (v := 0) C0 dL_told_140 (by decide) ?_
                refine r_istore (L' := [(9, .int (0 : Int32)), (8, .int x5), (7, .int x4), (6, .int x3), (5, .int x2), (4, .int r1), (0, .ref p0), (1, .ref p1), (2, .ref b), (3, .int p3)]) C0 dL_told_141 (by decide) rfl ?_
                refine r_iconst (v := 0) C0 dL_told_143 (by decide) ?_
                refine r_istore (L' := [(10, .int (0 : Int32)), (9, .int (0 : Int32)), (8, .int x5), (7, .int x4), (6, .int x3), (5, .int x2), (4, .int r1), (0, .ref p0), (1, .ref p1), (2, .ref b), (3, .int p3)]) C0 dL_told_144 (by decide) rfl ?_
                refine r_sub (L' := [(0, .ref p0), (1, .ref p1), (2, .ref b), (3, .int p3), (5, .int x2), (6, .int x3), (7, .int x4), (8, .int x5), (9, .int (0 : Int32)), (10, .int (0 : Int32))]) [7, 8, 9, 10, 5, 4, 3, 2, 1, 0] rfl ?_
                exact g_L_told_146 C0 F b len xs p0 p1 p3 hX hbl hbA hk_p0 hk_p1 6 x2 x3 x4 x5 (0 : Int32) (0 : Int32) r13.2 _ hf _ (Nat.le_of_ble_eq_true rfl)
              · refine r_iconst (v := 1) C0 dL_told_136 (by decide) ?_
                refine r_goto C0 141 dL_told_137 (by decide) ?_
                refine r_istore (L' := [(9, .int (1 : Int32)), (8, .int x5), (7, .int x4), (6, .int x3), (5, .int x2), (4, .int r1), (0, .ref p0), (1, .ref p1), (2, .ref b), (3, .int p3)]) C0 dL_told_141 (by decide) rfl ?_
                refine r_iconst (v := 0) C0 dL_told_143 (by decide) ?_
                refine r_istore (L' := [(10, .int (0 : Int32)), (9, .int (1 : Int32)), (8, .int x5), (7, .int x4), (6, .int x3), (5, .int x2), (4, .int r1), (0, .ref p0), (1, .ref p1), (2, .ref b), (3, .int p3)]) C0 dL_told_144 (by decide) rfl ?_
                refine r_sub (L' := [(0, .ref p0), (1, .ref p1), (2, .ref b), (3, .int p3), (5, .int x2), (6, .int x3), (7, .int x4), (8, .int x5), (9, .int (1 : Int32)), (10, .int (0 : Int32))]) [7, 8, 9, 10, 5, 4, 3, 2, 1, 0] rfl ?_
                exact g_L_told_146 C0 F b len xs p0 p1 p3 hX hbl hbA hk_p0 hk_p1 6 x2 x3 x4 x5 (1 : Int32) (0 : Int32) r13.2 _ hf _ (Nat.le_of_ble_eq_true rfl)
set_option maxHeartbeats 4000000 in
set_option maxRecDepth 100000 in
theorem g_L_alike_169 {Γ : zCx} {E : zEn} {S : zSk} {X : zMl} {M : zMi} (C0 : zCt Γ E RL cL_alike 4 (Option.some Jvm.ClassFile.FieldType.boolean) [] { frames := 9, cells := 374, slots := 2244, locals := 158 }) (F : Nat) (p0 : Nat) (p1 : Nat) (hk_p0 : K_X10 S p0) (hk_p1 : K_X10 S p1)  : ∀ (n : Nat) (v2 : Int32) (v3 : Int32) (r : Int32), f_L_alike_169 F p0 p1 n v2 v3 M = some r → ∀ kc : Nat, kc + (n * 2 + 0) ≤ 374 → zG Γ (zQX Γ E 374 2244 S (.inr (some (.int r)), M) X) E 4 kc (6 * kc) S ZT M X 169 [(0, .ref p0), (1, .ref p1), (2, .int v2), (3, .int v3)] [] := by
  intro n
  induction n with
  | zero => intro v2 v3 r hf; cases hf
  | succ n ih =>
    intro v2 v3 r hf kc hkc
    refine r_iload_n C0 dL_alike_169 rfl 3 rfl ?_
    refine r_bipush (v := 12) C0 dL_alike_170 (by decide) ?_
    refine r_icmp_ge C0 204 dL_alike_172 (by decide) hf (fun hf => ?_) (fun hf => ?_)
    · refine r_iload_n C0 dL_alike_204 rfl 2 rfl ?_
      obtain ⟨hv, hf⟩ := grd_some hf
      obtain rfl := Option.some.inj hf
      refine r_widen (k1 := 374) (s1 := 2244) (by omega) (by omega) ?_
      exact rX_zret C0 hv rfl dL_alike_205
    · refine r_iload_n C0 dL_alike_175 rfl 2 rfl ?_
      refine r_if_eq C0 204 dL_alike_176 (by decide) hf (fun hf => ?_) (fun hf => ?_)
      · refine r_iload_n C0 dL_alike_204 rfl 2 rfl ?_
        obtain ⟨hv, hf⟩ := grd_some hf
        obtain rfl := Option.some.inj hf
        refine r_widen (k1 := 374) (s1 := 2244) (by omega) (by omega) ?_
        exact rX_zret C0 hv rfl dL_alike_205
      · refine r_aload_n C0 dL_alike_179 rfl 0 rfl ?_
        refine r_iload_n C0 dL_alike_180 rfl 3 rfl ?_
        refine r_callWp C0 (st := []) (kc1 := kc + 1) [.ref p0, .int v3] hf vs_165 (fun hl r1 hr1 => c_L_tryWaves hl F p0 v3 hk_p0 M r1 hr1) rfl rfl (Nat.le_of_ble_eq_true rfl) dL_alike_181 (zrm_k 374 rfl (by omega)) (by omega) (fun r1 hr1 hf => ?_)
        refine r_aload_n C0 dL_alike_184 rfl 1 rfl ?_
        refine r_iload_n C0 dL_alike_185 rfl 3 rfl ?_
        refine r_callWp C0 (st := [.int r1]) (kc1 := kc + 2) [.ref p1, .int v3] hf vs_165 (fun hl r2 hr2 => c_L_tryWaves hl F p1 v3 hk_p1 M r2 hr2) rfl rfl (Nat.le_of_ble_eq_true rfl) dL_alike_186 (zrm_k 374 rfl (by omega)) (by omega) (fun r2 hr2 hf => ?_)
        refine r_icmp_ne C0 196 dL_alike_189 (by decide) hf (fun hf => ?_) (fun hf => ?_)
        · refine r_iconst (v := 0) C0 dL_alike_196 (by decide) ?_
          refine r_istore_n (L' := [(2, .int (0 : Int32)), (0, .ref p0), (1, .ref p1), (3, .int v3)]) C0 dL_alike_197 rfl (by decide) rfl ?_
          refine r_iinc (j := 3) (v := (v3 + (1 : Int32))) (L' := [(3, .int (v3 + (1 : Int32))), (2, .int (0 : Int32)), (0, .ref p0), (1, .ref p1)]) C0 dL_alike_198 rfl rfl (by decide) rfl ?_
          refine r_goto C0 169 dL_alike_201 (by decide) ?_
          refine r_sub (L' := [(0, .ref p0), (1, .ref p1), (2, .int (0 : Int32)), (3, .int (v3 + (1 : Int32)))]) [2, 3, 1, 0] rfl ?_
          exact ih (0 : Int32) (v3 + (1 : Int32)) _ hf _ (by omega)
        · refine r_iconst (v := 1) C0 dL_alike_192 (by decide) ?_
          refine r_goto C0 197 dL_alike_193 (by decide) ?_
          refine r_istore_n (L' := [(2, .int (1 : Int32)), (0, .ref p0), (1, .ref p1), (3, .int v3)]) C0 dL_alike_197 rfl (by decide) rfl ?_
          refine r_iinc (j := 3) (v := (v3 + (1 : Int32))) (L' := [(3, .int (v3 + (1 : Int32))), (2, .int (1 : Int32)), (0, .ref p0), (1, .ref p1)]) C0 dL_alike_198 rfl rfl (by decide) rfl ?_
          refine r_goto C0 169 dL_alike_201 (by decide) ?_
          refine r_sub (L' := [(0, .ref p0), (1, .ref p1), (2, .int (1 : Int32)), (3, .int (v3 + (1 : Int32)))]) [2, 3, 1, 0] rfl ?_
          exact ih (1 : Int32) (v3 + (1 : Int32)) _ hf _ (by omega)
set_option maxHeartbeats 4000000 in
set_option maxRecDepth 100000 in
theorem g_L_alike_117 {Γ : zCx} {E : zEn} {S : zSk} {X : zMl} {M : zMi} (C0 : zCt Γ E RL cL_alike 4 (Option.some Jvm.ClassFile.FieldType.boolean) [] { frames := 9, cells := 374, slots := 2244, locals := 158 }) (F : Nat) (p0 : Nat) (p1 : Nat) (hk_p0 : K_X10 S p0) (hk_p1 : K_X10 S p1)  : ∀ (n : Nat) (v2 : Int32) (v3 : Int32) (r : Int32), f_L_alike_117 F p0 p1 n v2 v3 M = some r → ∀ kc : Nat, kc + (n * 5 + 29) ≤ 374 → zG Γ (zQX Γ E 374 2244 S (.inr (some (.int r)), M) X) E 4 kc (6 * kc) S ZT M X 117 [(0, .ref p0), (1, .ref p1), (2, .int v2), (3, .int v3)] [] := by
  intro n
  induction n with
  | zero => intro v2 v3 r hf; cases hf
  | succ n ih =>
    intro v2 v3 r hf kc hkc
    refine r_iload_n C0 dL_alike_117 rfl 3 rfl ?_
    refine r_iconst (v := 5) C0 dL_alike_118 (by decide) ?_
    refine r_aload_n C0 dL_alike_119 rfl 0 rfl ?_
    refine r_iconst (v := 0) C0 dL_alike_120 (by decide) ?_
    refine r_callWp C0 (st := [.int (5 : Int32), .int v3]) (kc1 := kc + 1) [.ref p0, .int (0 : Int32)] hf vs_159 (fun hl r1 hr1 => c_L_tryAbout hl F p0 (0 : Int32) hk_p0 M r1 hr1) rfl rfl (Nat.le_of_ble_eq_true rfl) dL_alike_121 (zrm_k 374 rfl (by omega)) (by omega) (fun r1 hr1 hf => ?_)
    refine r_imul C0 dL_alike_124 ?_
    refine r_icmp_ge C0 167 dL_alike_125 (by decide) hf (fun hf => ?_) (fun hf => ?_)
    · refine r_iconst (v := 0) C0 dL_alike_167 (by decide) ?_
      refine r_istore_n (L' := [(3, .int (0 : Int32)), (0, .ref p0), (1, .ref p1), (2, .int v2)]) C0 dL_alike_168 rfl (by decide) rfl ?_
      refine r_sub (L' := [(0, .ref p0), (1, .ref p1), (2, .int v2), (3, .int (0 : Int32))]) [1, 2, 3, 0] rfl ?_
      exact g_L_alike_169 C0 F p0 p1 hk_p0 hk_p1 14 v2 (0 : Int32) _ hf _ (by omega)
    · refine r_iload_n C0 dL_alike_128 rfl 2 rfl ?_
      refine r_if_eq C0 167 dL_alike_129 (by decide) hf (fun hf => ?_) (fun hf => ?_)
      · refine r_iconst (v := 0) C0 dL_alike_167 (by decide) ?_
        refine r_istore_n (L' := [(3, .int (0 : Int32)), (0, .ref p0), (1, .ref p1), (2, .int v2)]) C0 dL_alike_168 rfl (by decide) rfl ?_
        refine r_sub (L' := [(0, .ref p0), (1, .ref p1), (2, .int v2), (3, .int (0 : Int32))]) [1, 2, 3, 0] rfl ?_
        exact g_L_alike_169 C0 F p0 p1 hk_p0 hk_p1 14 v2 (0 : Int32) _ hf _ (by omega)
      · refine r_aload_n C0 dL_alike_132 rfl 0 rfl ?_
        refine r_iload_n C0 dL_alike_133 rfl 3 rfl ?_
        refine r_iconst (v := 5) C0 dL_alike_134 (by decide) ?_
        refine r_idiv' C0 dL_alike_135 (by decide) ?_
        refine r_iload_n C0 dL_alike_136 rfl 3 rfl ?_
        refine r_iconst (v := 5) C0 dL_alike_137 (by decide) ?_
        refine r_irem' C0 dL_alike_138 (by decide) ?_
        refine r_callWp C0 (st := []) (kc1 := kc + 3) [.ref p0, .int (v3 / (5 : Int32)), .int (v3 - v3 / (5 : Int32) * (5 : Int32))] hf vs_164 (fun hl r2 hr2 => c_L_tryZone hl F p0 (v3 / (5 : Int32)) (v3 - v3 / (5 : Int32) * (5 : Int32)) hk_p0 M r2 hr2) rfl rfl (Nat.le_of_ble_eq_true rfl) dL_alike_139 (zrm_k 374 rfl (by omega)) (by omega) (fun r2 hr2 hf => ?_)
        refine r_aload_n C0 dL_alike_142 rfl 1 rfl ?_
        refine r_iload_n C0 dL_alike_143 rfl 3 rfl ?_
        refine r_iconst (v := 5) C0 dL_alike_144 (by decide) ?_
        refine r_idiv' C0 dL_alike_145 (by decide) ?_
        refine r_iload_n C0 dL_alike_146 rfl 3 rfl ?_
        refine r_iconst (v := 5) C0 dL_alike_147 (by decide) ?_
        refine r_irem' C0 dL_alike_148 (by decide) ?_
        refine r_callWp C0 (st := [.int r2]) (kc1 := kc + 5) [.ref p1, .int (v3 / (5 : Int32)), .int (v3 - v3 / (5 : Int32) * (5 : Int32))] hf vs_164 (fun hl r3 hr3 => c_L_tryZone hl F p1 (v3 / (5 : Int32)) (v3 - v3 / (5 : Int32) * (5 : Int32)) hk_p1 M r3 hr3) rfl rfl (Nat.le_of_ble_eq_true rfl) dL_alike_149 (zrm_k 374 rfl (by omega)) (by omega) (fun r3 hr3 hf => ?_)
        refine r_icmp_ne C0 159 dL_alike_152 (by decide) hf (fun hf => ?_) (fun hf => ?_)
        · refine r_iconst (v := 0) C0 dL_alike_159 (by decide) ?_
          refine r_istore_n (L' := [(2, .int (0 : Int32)), (0, .ref p0), (1, .ref p1), (3, .int v3)]) C0 dL_alike_160 rfl (by decide) rfl ?_
          refine r_iinc (j := 3) (v := (v3 + (1 : Int32))) (L' := [(3, .int (v3 + (1 : Int32))), (2, .int (0 : Int32)), (0, .ref p0), (1, .ref p1)]) C0 dL_alike_161 rfl rfl (by decide) rfl ?_
          refine r_goto C0 117 dL_alike_164 (by decide) ?_
          refine r_sub (L' := [(0, .ref p0), (1, .ref p1), (2, .int (0 : Int32)), (3, .int (v3 + (1 : Int32)))]) [2, 3, 1, 0] rfl ?_
          exact ih (0 : Int32) (v3 + (1 : Int32)) _ hf _ (by omega)
        · refine r_iconst (v := 1) C0 dL_alike_155 (by decide) ?_
          refine r_goto C0 160 dL_alike_156 (by decide) ?_
          refine r_istore_n (L' := [(2, .int (1 : Int32)), (0, .ref p0), (1, .ref p1), (3, .int v3)]) C0 dL_alike_160 rfl (by decide) rfl ?_
          refine r_iinc (j := 3) (v := (v3 + (1 : Int32))) (L' := [(3, .int (v3 + (1 : Int32))), (2, .int (1 : Int32)), (0, .ref p0), (1, .ref p1)]) C0 dL_alike_161 rfl rfl (by decide) rfl ?_
          refine r_goto C0 117 dL_alike_164 (by decide) ?_
          refine r_sub (L' := [(0, .ref p0), (1, .ref p1), (2, .int (1 : Int32)), (3, .int (v3 + (1 : Int32)))]) [2, 3, 1, 0] rfl ?_
          exact ih (1 : Int32) (v3 + (1 : Int32)) _ hf _ (by omega)
set_option maxHeartbeats 4000000 in
set_option maxRecDepth 100000 in
theorem g_L_alike_60 {Γ : zCx} {E : zEn} {S : zSk} {X : zMl} {M : zMi} (C0 : zCt Γ E RL cL_alike 4 (Option.some Jvm.ClassFile.FieldType.boolean) [] { frames := 9, cells := 374, slots := 2244, locals := 158 }) (F : Nat) (p0 : Nat) (p1 : Nat) (hk_p0 : K_X10 S p0) (hk_p1 : K_X10 S p1)  : ∀ (n : Nat) (v2 : Int32) (v3 : Int32) (r : Int32), f_L_alike_60 F p0 p1 n v2 v3 M = some r → ∀ kc : Nat, kc + (n * 5 + 140) ≤ 374 → zG Γ (zQX Γ E 374 2244 S (.inr (some (.int r)), M) X) E 4 kc (6 * kc) S ZT M X 60 [(0, .ref p0), (1, .ref p1), (2, .int v2), (3, .int v3)] [] := by
  intro n
  induction n with
  | zero => intro v2 v3 r hf; cases hf
  | succ n ih =>
    intro v2 v3 r hf kc hkc
    refine r_iload_n C0 dL_alike_60 rfl 3 rfl ?_
    refine r_bipush (v := 8) C0 dL_alike_61 (by decide) ?_
    refine r_aload_n C0 dL_alike_63 rfl 0 rfl ?_
    refine r_iconst (v := 1) C0 dL_alike_64 (by decide) ?_
    refine r_callWp C0 (st := [.int (8 : Int32), .int v3]) (kc1 := kc + 1) [.ref p0, .int (1 : Int32)] hf vs_159 (fun hl r1 hr1 => c_L_tryAbout hl F p0 (1 : Int32) hk_p0 M r1 hr1) rfl rfl (Nat.le_of_ble_eq_true rfl) dL_alike_65 (zrm_k 374 rfl (by omega)) (by omega) (fun r1 hr1 hf => ?_)
    refine r_imul C0 dL_alike_68 ?_
    refine r_icmp_ge C0 115 dL_alike_69 (by decide) hf (fun hf => ?_) (fun hf => ?_)
    · refine r_iconst (v := 0) C0 dL_alike_115 (by decide) ?_
      refine r_istore_n (L' := [(3, .int (0 : Int32)), (0, .ref p0), (1, .ref p1), (2, .int v2)]) C0 dL_alike_116 rfl (by decide) rfl ?_
      refine r_sub (L' := [(0, .ref p0), (1, .ref p1), (2, .int v2), (3, .int (0 : Int32))]) [1, 2, 3, 0] rfl ?_
      exact g_L_alike_117 C0 F p0 p1 hk_p0 hk_p1 22 v2 (0 : Int32) _ hf _ (by omega)
    · refine r_iload_n C0 dL_alike_72 rfl 2 rfl ?_
      refine r_if_eq C0 115 dL_alike_73 (by decide) hf (fun hf => ?_) (fun hf => ?_)
      · refine r_iconst (v := 0) C0 dL_alike_115 (by decide) ?_
        refine r_istore_n (L' := [(3, .int (0 : Int32)), (0, .ref p0), (1, .ref p1), (2, .int v2)]) C0 dL_alike_116 rfl (by decide) rfl ?_
        refine r_sub (L' := [(0, .ref p0), (1, .ref p1), (2, .int v2), (3, .int (0 : Int32))]) [1, 2, 3, 0] rfl ?_
        exact g_L_alike_117 C0 F p0 p1 hk_p0 hk_p1 22 v2 (0 : Int32) _ hf _ (by omega)
      · refine r_aload_n C0 dL_alike_76 rfl 0 rfl ?_
        refine r_iload_n C0 dL_alike_77 rfl 3 rfl ?_
        refine r_bipush (v := 8) C0 dL_alike_78 (by decide) ?_
        refine r_idiv' C0 dL_alike_80 (by decide) ?_
        refine r_iload_n C0 dL_alike_81 rfl 3 rfl ?_
        refine r_bipush (v := 8) C0 dL_alike_82 (by decide) ?_
        refine r_irem' C0 dL_alike_84 (by decide) ?_
        refine r_callWp C0 (st := []) (kc1 := kc + 3) [.ref p0, .int (v3 / (8 : Int32)), .int (v3 - v3 / (8 : Int32) * (8 : Int32))] hf vs_161 (fun hl r2 hr2 => c_L_tryShip hl F p0 (v3 / (8 : Int32)) (v3 - v3 / (8 : Int32) * (8 : Int32)) hk_p0 M r2 hr2) rfl rfl (Nat.le_of_ble_eq_true rfl) dL_alike_85 (zrm_k 374 rfl (by omega)) (by omega) (fun r2 hr2 hf => ?_)
        refine r_aload_n C0 dL_alike_88 rfl 1 rfl ?_
        refine r_iload_n C0 dL_alike_89 rfl 3 rfl ?_
        refine r_bipush (v := 8) C0 dL_alike_90 (by decide) ?_
        refine r_idiv' C0 dL_alike_92 (by decide) ?_
        refine r_iload_n C0 dL_alike_93 rfl 3 rfl ?_
        refine r_bipush (v := 8) C0 dL_alike_94 (by decide) ?_
        refine r_irem' C0 dL_alike_96 (by decide) ?_
        refine r_callWp C0 (st := [.int r2]) (kc1 := kc + 5) [.ref p1, .int (v3 / (8 : Int32)), .int (v3 - v3 / (8 : Int32) * (8 : Int32))] hf vs_161 (fun hl r3 hr3 => c_L_tryShip hl F p1 (v3 / (8 : Int32)) (v3 - v3 / (8 : Int32) * (8 : Int32)) hk_p1 M r3 hr3) rfl rfl (Nat.le_of_ble_eq_true rfl) dL_alike_97 (zrm_k 374 rfl (by omega)) (by omega) (fun r3 hr3 hf => ?_)
        refine r_icmp_ne C0 107 dL_alike_100 (by decide) hf (fun hf => ?_) (fun hf => ?_)
        · refine r_iconst (v := 0) C0 dL_alike_107 (by decide) ?_
          refine r_istore_n (L' := [(2, .int (0 : Int32)), (0, .ref p0), (1, .ref p1), (3, .int v3)]) C0 dL_alike_108 rfl (by decide) rfl ?_
          refine r_iinc (j := 3) (v := (v3 + (1 : Int32))) (L' := [(3, .int (v3 + (1 : Int32))), (2, .int (0 : Int32)), (0, .ref p0), (1, .ref p1)]) C0 dL_alike_109 rfl rfl (by decide) rfl ?_
          refine r_goto C0 60 dL_alike_112 (by decide) ?_
          refine r_sub (L' := [(0, .ref p0), (1, .ref p1), (2, .int (0 : Int32)), (3, .int (v3 + (1 : Int32)))]) [2, 3, 1, 0] rfl ?_
          exact ih (0 : Int32) (v3 + (1 : Int32)) _ hf _ (by omega)
        · refine r_iconst (v := 1) C0 dL_alike_103 (by decide) ?_
          refine r_goto C0 108 dL_alike_104 (by decide) ?_
          refine r_istore_n (L' := [(2, .int (1 : Int32)), (0, .ref p0), (1, .ref p1), (3, .int v3)]) C0 dL_alike_108 rfl (by decide) rfl ?_
          refine r_iinc (j := 3) (v := (v3 + (1 : Int32))) (L' := [(3, .int (v3 + (1 : Int32))), (2, .int (1 : Int32)), (0, .ref p0), (1, .ref p1)]) C0 dL_alike_109 rfl rfl (by decide) rfl ?_
          refine r_goto C0 60 dL_alike_112 (by decide) ?_
          refine r_sub (L' := [(0, .ref p0), (1, .ref p1), (2, .int (1 : Int32)), (3, .int (v3 + (1 : Int32)))]) [2, 3, 1, 0] rfl ?_
          exact ih (1 : Int32) (v3 + (1 : Int32)) _ hf _ (by omega)
set_option maxHeartbeats 4000000 in
set_option maxRecDepth 100000 in
theorem g_L_alike_4 {Γ : zCx} {E : zEn} {S : zSk} {X : zMl} {M : zMi} (C0 : zCt Γ E RL cL_alike 4 (Option.some Jvm.ClassFile.FieldType.boolean) [] { frames := 9, cells := 374, slots := 2244, locals := 158 }) (F : Nat) (p0 : Nat) (p1 : Nat) (hk_p0 : K_X10 S p0) (hk_p1 : K_X10 S p1)  : ∀ (n : Nat) (v2 : Int32) (v3 : Int32) (r : Int32), f_L_alike_4 F p0 p1 n v2 v3 M = some r → ∀ kc : Nat, kc + (n * 4 + 310) ≤ 374 → zG Γ (zQX Γ E 374 2244 S (.inr (some (.int r)), M) X) E 4 kc (6 * kc) S ZT M X 4 [(0, .ref p0), (1, .ref p1), (2, .int v2), (3, .int v3)] [] := by
  intro n
  induction n with
  | zero => intro v2 v3 r hf; cases hf
  | succ n ih =>
    intro v2 v3 r hf kc hkc
    refine r_iload_n C0 dL_alike_4 rfl 3 rfl ?_
    refine r_bipush (v := 14) C0 dL_alike_5 (by decide) ?_
    refine r_icmp_ge C0 58 dL_alike_7 (by decide) hf (fun hf => ?_) (fun hf => ?_)
    · refine r_iconst (v := 0) C0 dL_alike_58 (by decide) ?_
      refine r_istore_n (L' := [(3, .int (0 : Int32)), (0, .ref p0), (1, .ref p1), (2, .int v2)]) C0 dL_alike_59 rfl (by decide) rfl ?_
      refine r_sub (L' := [(0, .ref p0), (1, .ref p1), (2, .int v2), (3, .int (0 : Int32))]) [1, 2, 3, 0] rfl ?_
      exact g_L_alike_60 C0 F p0 p1 hk_p0 hk_p1 34 v2 (0 : Int32) _ hf _ (by omega)
    · refine r_iload_n C0 dL_alike_10 rfl 2 rfl ?_
      refine r_if_eq C0 50 dL_alike_11 (by decide) hf (fun hf => ?_) (fun hf => ?_)
      · refine r_iconst (v := 0) C0 dL_alike_50 (by decide) ?_
        refine r_istore_n (L' := [(2, .int (0 : Int32)), (0, .ref p0), (1, .ref p1), (3, .int v3)]) C0 dL_alike_51 rfl (by decide) rfl ?_
        refine r_iinc (j := 3) (v := (v3 + (1 : Int32))) (L' := [(3, .int (v3 + (1 : Int32))), (2, .int (0 : Int32)), (0, .ref p0), (1, .ref p1)]) C0 dL_alike_52 rfl rfl (by decide) rfl ?_
        refine r_goto C0 4 dL_alike_55 (by decide) ?_
        refine r_sub (L' := [(0, .ref p0), (1, .ref p1), (2, .int (0 : Int32)), (3, .int (v3 + (1 : Int32)))]) [2, 3, 1, 0] rfl ?_
        exact ih (0 : Int32) (v3 + (1 : Int32)) _ hf _ (by omega)
      · refine r_aload_n C0 dL_alike_14 rfl 0 rfl ?_
        refine r_iload_n C0 dL_alike_15 rfl 3 rfl ?_
        refine r_callWp C0 (st := []) (kc1 := kc + 1) [.ref p0, .int v3] hf vs_159 (fun hl r1 hr1 => c_L_tryAbout hl F p0 v3 hk_p0 M r1 hr1) rfl rfl (Nat.le_of_ble_eq_true rfl) dL_alike_16 (zrm_k 374 rfl (by omega)) (by omega) (fun r1 hr1 hf => ?_)
        refine r_aload_n C0 dL_alike_19 rfl 1 rfl ?_
        refine r_iload_n C0 dL_alike_20 rfl 3 rfl ?_
        refine r_callWp C0 (st := [.int r1]) (kc1 := kc + 2) [.ref p1, .int v3] hf vs_159 (fun hl r2 hr2 => c_L_tryAbout hl F p1 v3 hk_p1 M r2 hr2) rfl rfl (Nat.le_of_ble_eq_true rfl) dL_alike_21 (zrm_k 374 rfl (by omega)) (by omega) (fun r2 hr2 hf => ?_)
        refine r_icmp_ne C0 50 dL_alike_24 (by decide) hf (fun hf => ?_) (fun hf => ?_)
        · refine r_iconst (v := 0) C0 dL_alike_50 (by decide) ?_
          refine r_istore_n (L' := [(2, .int (0 : Int32)), (0, .ref p0), (1, .ref p1), (3, .int v3)]) C0 dL_alike_51 rfl (by decide) rfl ?_
          refine r_iinc (j := 3) (v := (v3 + (1 : Int32))) (L' := [(3, .int (v3 + (1 : Int32))), (2, .int (0 : Int32)), (0, .ref p0), (1, .ref p1)]) C0 dL_alike_52 rfl rfl (by decide) rfl ?_
          refine r_goto C0 4 dL_alike_55 (by decide) ?_
          refine r_sub (L' := [(0, .ref p0), (1, .ref p1), (2, .int (0 : Int32)), (3, .int (v3 + (1 : Int32)))]) [2, 3, 1, 0] rfl ?_
          exact ih (0 : Int32) (v3 + (1 : Int32)) _ hf _ (by omega)
        · refine r_iload_n C0 dL_alike_27 rfl 3 rfl ?_
          refine r_bipush (v := 7) C0 dL_alike_28 (by decide) ?_
          refine r_icmp_gt C0 46 dL_alike_30 (by decide) hf (fun hf => ?_) (fun hf => ?_)
          · refine r_iconst (v := 1) C0 dL_alike_46 (by decide) ?_
            refine r_goto C0 51 dL_alike_47 (by decide) ?_
            refine r_istore_n (L' := [(2, .int (1 : Int32)), (0, .ref p0), (1, .ref p1), (3, .int v3)]) C0 dL_alike_51 rfl (by decide) rfl ?_
            refine r_iinc (j := 3) (v := (v3 + (1 : Int32))) (L' := [(3, .int (v3 + (1 : Int32))), (2, .int (1 : Int32)), (0, .ref p0), (1, .ref p1)]) C0 dL_alike_52 rfl rfl (by decide) rfl ?_
            refine r_goto C0 4 dL_alike_55 (by decide) ?_
            refine r_sub (L' := [(0, .ref p0), (1, .ref p1), (2, .int (1 : Int32)), (3, .int (v3 + (1 : Int32)))]) [2, 3, 1, 0] rfl ?_
            exact ih (1 : Int32) (v3 + (1 : Int32)) _ hf _ (by omega)
          · refine r_aload_n C0 dL_alike_33 rfl 0 rfl ?_
            refine r_iload_n C0 dL_alike_34 rfl 3 rfl ?_
            refine r_callWp C0 (st := []) (kc1 := kc + 3) [.ref p0, .int v3] hf vs_160 (fun hl r3 hr3 => c_L_tryAccount hl F p0 v3 hk_p0 M r3 hr3) rfl rfl (Nat.le_of_ble_eq_true rfl) dL_alike_35 (zrm_k 374 rfl (by omega)) (by omega) (fun r3 hr3 hf => ?_)
            refine r_aload_n C0 dL_alike_38 rfl 1 rfl ?_
            refine r_iload_n C0 dL_alike_39 rfl 3 rfl ?_
            refine r_callWp C0 (st := [.int r3]) (kc1 := kc + 4) [.ref p1, .int v3] hf vs_160 (fun hl r4 hr4 => c_L_tryAccount hl F p1 v3 hk_p1 M r4 hr4) rfl rfl (Nat.le_of_ble_eq_true rfl) dL_alike_40 (zrm_k 374 rfl (by omega)) (by omega) (fun r4 hr4 hf => ?_)
            refine r_icmp_ne C0 50 dL_alike_43 (by decide) hf (fun hf => ?_) (fun hf => ?_)
            · refine r_iconst (v := 0) C0 dL_alike_50 (by decide) ?_
              refine r_istore_n (L' := [(2, .int (0 : Int32)), (0, .ref p0), (1, .ref p1), (3, .int v3)]) C0 dL_alike_51 rfl (by decide) rfl ?_
              refine r_iinc (j := 3) (v := (v3 + (1 : Int32))) (L' := [(3, .int (v3 + (1 : Int32))), (2, .int (0 : Int32)), (0, .ref p0), (1, .ref p1)]) C0 dL_alike_52 rfl rfl (by decide) rfl ?_
              refine r_goto C0 4 dL_alike_55 (by decide) ?_
              refine r_sub (L' := [(0, .ref p0), (1, .ref p1), (2, .int (0 : Int32)), (3, .int (v3 + (1 : Int32)))]) [2, 3, 1, 0] rfl ?_
              exact ih (0 : Int32) (v3 + (1 : Int32)) _ hf _ (by omega)
            · refine r_iconst (v := 1) C0 dL_alike_46 (by decide) ?_
              refine r_goto C0 51 dL_alike_47 (by decide) ?_
              refine r_istore_n (L' := [(2, .int (1 : Int32)), (0, .ref p0), (1, .ref p1), (3, .int v3)]) C0 dL_alike_51 rfl (by decide) rfl ?_
              refine r_iinc (j := 3) (v := (v3 + (1 : Int32))) (L' := [(3, .int (v3 + (1 : Int32))), (2, .int (1 : Int32)), (0, .ref p0), (1, .ref p1)]) C0 dL_alike_52 rfl rfl (by decide) rfl ?_
              refine r_goto C0 4 dL_alike_55 (by decide) ?_
              refine r_sub (L' := [(0, .ref p0), (1, .ref p1), (2, .int (1 : Int32)), (3, .int (v3 + (1 : Int32)))]) [2, 3, 1, 0] rfl ?_
              exact ih (1 : Int32) (v3 + (1 : Int32)) _ hf _ (by omega)
set_option maxHeartbeats 4000000 in
set_option maxRecDepth 100000 in
theorem c_L_alike {l : Launch} {E : zEn} {S : zSk} {X : zMl} (hl : l.stackTraces = false) (F : Nat) (p0 : Nat) (p1 : Nat) (hk_p0 : K_X10 S p0) (hk_p1 : K_X10 S p1) (M : zMi) (r : Int32) (hf : f_L_alike F p0 p1 M = some r) : zMX l E yL_alike cL_alike 4 (Option.some Jvm.ClassFile.FieldType.boolean) { frames := 9, cells := 374, slots := 2244, locals := 158 } 374 2244 [.ref p0, .ref p1] S M X (.inr (some (.int r)), M) := by
  refine zMX.intro (L0 := [(0, .ref p0), (1, .ref p1)]) hl (by decide) (Nat.le_of_ble_eq_true rfl) rfl (fun Γ C0 => ?_)
  unfold f_L_alike at hf
  refine r_iconst (v := 1) C0 dL_alike_0 (by decide) ?_
  refine r_istore_n (L' := [(2, .int (1 : Int32)), (0, .ref p0), (1, .ref p1)]) C0 dL_alike_1 rfl (by decide) rfl ?_
  refine r_iconst (v := 0) C0 dL_alike_2 (by decide) ?_
  refine r_istore_n (L' := [(3, .int (0 : Int32)), (2, .int (1 : Int32)), (0, .ref p0), (1, .ref p1)]) C0 dL_alike_3 rfl (by decide) rfl ?_
  refine r_sub (L' := [(0, .ref p0), (1, .ref p1), (2, .int (1 : Int32)), (3, .int (0 : Int32))]) [2, 3, 1, 0] rfl ?_
  exact g_L_alike_4 C0 F p0 p1 hk_p0 hk_p1 16 (1 : Int32) (0 : Int32) _ hf _ (Nat.le_of_ble_eq_true rfl)
set_option maxHeartbeats 4000000 in
set_option maxRecDepth 100000 in
theorem g_L_refuses_387 {Γ : zCx} {E : zEn} {S : zSk} {X : zMl} (C0 : zCt Γ E RL cL_refuses 6 (Option.some Jvm.ClassFile.FieldType.boolean) [] { frames := 9, cells := 87, slots := 522, locals := 208 }) (F : Nat) (p0 : Nat) (hk_p0 : K_X10 S p0)  (v1 : Int32) (v2 : Int32) (s0 : Int32) (M : zMi) (r : Int32 × zMi) (hf : f_L_refuses_387 F p0 v1 v2 s0 M = some r) (kc : Nat) (hkc : kc + (26) ≤ 87) : zG Γ (zQX Γ E 87 522 S (.inr (some (.int r.1)), r.2) X) E 6 kc (6 * kc) S ZT M X 387 [(0, .ref p0), (1, .int v1), (2, .int v2)] [.int s0] := by
  unfold f_L_refuses_387 at hf
  refine r_istore (L' := [(5, .int s0), (0, .ref p0), (1, .int v1), (2, .int v2)]) C0 dL_refuses_387 (by decide) rfl ?_
  refine r_iload C0 dL_refuses_389 0 rfl ?_
  refine r_if_eq C0 581 dL_refuses_391 (by decide) hf (fun hf => ?_) (fun hf => ?_)
  · refine r_iconst (v := 0) C0 dL_refuses_581 (by decide) ?_
    obtain rfl := Option.some.inj hf
    refine r_widen (k1 := 87) (s1 := 522) (by omega) (by omega) ?_
    exact rX_zret C0 rfl rfl dL_refuses_582
  · refine r_aload_n C0 dL_refuses_394 rfl 1 rfl ?_
    refine r_iload_n C0 dL_refuses_395 rfl 2 rfl ?_
    refine r_bipush (v := 100) C0 dL_refuses_396 (by decide) ?_
    refine r_callWp C0 (st := []) (kc1 := kc + 2) [.ref p0, .int v1, .int (100 : Int32)] hf vs_173 (fun hl r1 hr1 => c_L_tryNeeds hl F p0 v1 (100 : Int32) hk_p0 M r1 hr1) rfl rfl (Nat.le_of_ble_eq_true rfl) dL_refuses_398 (zrm_k 87 rfl (by omega)) (by omega) (fun r1 hr1 hf => ?_)
    refine r_sipush (v := -1001) C0 dL_refuses_401 (by decide) ?_
    refine r_icmp_ne C0 581 dL_refuses_404 (by decide) hf (fun hf => ?_) (fun hf => ?_)
    · refine r_iconst (v := 0) C0 dL_refuses_581 (by decide) ?_
      obtain rfl := Option.some.inj hf
      refine r_widen (k1 := 87) (s1 := 522) (by omega) (by omega) ?_
      exact rX_zret C0 rfl rfl dL_refuses_582
    · refine r_aload_n C0 dL_refuses_407 rfl 1 rfl ?_
      refine r_iconst (v := 0) C0 dL_refuses_408 (by decide) ?_
      refine r_bipush (v := 100) C0 dL_refuses_409 (by decide) ?_
      refine r_callWp C0 (st := []) (kc1 := kc + 4) [.ref p0, .int (0 : Int32), .int (100 : Int32)] hf vs_173 (fun hl r2 hr2 => c_L_tryNeeds hl F p0 (0 : Int32) (100 : Int32) hk_p0 M r2 hr2) rfl rfl (Nat.le_of_ble_eq_true rfl) dL_refuses_411 (zrm_k 87 rfl (by omega)) (by omega) (fun r2 hr2 hf => ?_)
      refine r_sipush (v := -1002) C0 dL_refuses_414 (by decide) ?_
      refine r_icmp_ne C0 581 dL_refuses_417 (by decide) hf (fun hf => ?_) (fun hf => ?_)
      · refine r_iconst (v := 0) C0 dL_refuses_581 (by decide) ?_
        obtain rfl := Option.some.inj hf
        refine r_widen (k1 := 87) (s1 := 522) (by omega) (by omega) ?_
        exact rX_zret C0 rfl rfl dL_refuses_582
      · refine r_aload_n C0 dL_refuses_420 rfl 1 rfl ?_
        refine r_iload_n C0 dL_refuses_421 rfl 3 rfl ?_
        refine r_iconst (v := 0) C0 dL_refuses_422 (by decide) ?_
        refine r_callWp C0 (st := []) (kc1 := kc + 6) [.ref p0, .int v2, .int (0 : Int32)] hf vs_174 (fun hl r3 hr3 => c_L_tryReach hl F p0 v2 (0 : Int32) hk_p0 M r3 hr3) rfl rfl (Nat.le_of_ble_eq_true rfl) dL_refuses_423 (zrm_k 87 rfl (by omega)) (by omega) (fun r3 hr3 hf => ?_)
        refine r_sipush (v := -1001) C0 dL_refuses_426 (by decide) ?_
        refine r_icmp_ne C0 581 dL_refuses_429 (by decide) hf (fun hf => ?_) (fun hf => ?_)
        · refine r_iconst (v := 0) C0 dL_refuses_581 (by decide) ?_
          obtain rfl := Option.some.inj hf
          refine r_widen (k1 := 87) (s1 := 522) (by omega) (by omega) ?_
          exact rX_zret C0 rfl rfl dL_refuses_582
        · refine r_aload_n C0 dL_refuses_432 rfl 1 rfl ?_
          refine r_iconst (v := 0) C0 dL_refuses_433 (by decide) ?_
          refine r_iload_n C0 dL_refuses_434 rfl 2 rfl ?_
          refine r_callWp C0 (st := []) (kc1 := kc + 8) [.ref p0, .int (0 : Int32), .int v1] hf vs_174 (fun hl r4 hr4 => c_L_tryReach hl F p0 (0 : Int32) v1 hk_p0 M r4 hr4) rfl rfl (Nat.le_of_ble_eq_true rfl) dL_refuses_435 (zrm_k 87 rfl (by omega)) (by omega) (fun r4 hr4 hf => ?_)
          refine r_sipush (v := -1001) C0 dL_refuses_438 (by decide) ?_
          refine r_icmp_ne C0 581 dL_refuses_441 (by decide) hf (fun hf => ?_) (fun hf => ?_)
          · refine r_iconst (v := 0) C0 dL_refuses_581 (by decide) ?_
            obtain rfl := Option.some.inj hf
            refine r_widen (k1 := 87) (s1 := 522) (by omega) (by omega) ?_
            exact rX_zret C0 rfl rfl dL_refuses_582
          · refine r_aload_n C0 dL_refuses_444 rfl 1 rfl ?_
            refine r_iconst (v := 0) C0 dL_refuses_445 (by decide) ?_
            refine r_iload_n C0 dL_refuses_446 rfl 2 rfl ?_
            refine r_callWp C0 (st := []) (kc1 := kc + 10) [.ref p0, .int (0 : Int32), .int v1] hf vs_175 (fun hl r5 hr5 => c_L_tryCalmDays hl F p0 (0 : Int32) v1 hk_p0 M r5 hr5) rfl rfl (Nat.le_of_ble_eq_true rfl) dL_refuses_447 (zrm_k 87 rfl (by omega)) (by omega) (fun r5 hr5 hf => ?_)
            refine r_sipush (v := -1001) C0 dL_refuses_450 (by decide) ?_
            refine r_icmp_ne C0 581 dL_refuses_453 (by decide) hf (fun hf => ?_) (fun hf => ?_)
            · refine r_iconst (v := 0) C0 dL_refuses_581 (by decide) ?_
              obtain rfl := Option.some.inj hf
              refine r_widen (k1 := 87) (s1 := 522) (by omega) (by omega) ?_
              exact rX_zret C0 rfl rfl dL_refuses_582
            · refine r_aload_n C0 dL_refuses_456 rfl 1 rfl ?_
              refine r_bipush (v := 100) C0 dL_refuses_457 (by decide) ?_
              refine r_iconst (v := 0) C0 dL_refuses_459 (by decide) ?_
              refine r_callWw C0 (st := []) (kc1 := kc + 12) [.ref p0, .int (100 : Int32), .int (0 : Int32)] hf vs_176 (fun hl r6 hr6 => c_L_tryAhead hl F p0 (100 : Int32) (0 : Int32) hk_p0 M r6 hr6) rfl rfl (Nat.le_of_ble_eq_true rfl) dL_refuses_460 (zrm_k 87 rfl (by omega)) (by omega) (fun r6 hr6 hf => ?_)
              refine r_sipush (v := -1002) C0 dL_refuses_463 (by decide) ?_
              refine r_icmp_ne C0 581 dL_refuses_466 (by decide) hf (fun hf => ?_) (fun hf => ?_)
              · refine r_iconst (v := 0) C0 dL_refuses_581 (by decide) ?_
                obtain rfl := Option.some.inj hf
                refine r_widen (k1 := 87) (s1 := 522) (by omega) (by omega) ?_
                exact rX_zret C0 rfl rfl dL_refuses_582
              · refine r_aload_n C0 dL_refuses_469 rfl 1 rfl ?_
                refine r_iconst (v := 0) C0 dL_refuses_470 (by decide) ?_
                refine r_iconst (v := 5) C0 dL_refuses_471 (by decide) ?_
                refine r_callWw C0 (st := []) (kc1 := kc + 14) [.ref p0, .int (0 : Int32), .int (5 : Int32)] hf vs_176 (fun hl r7 hr7 => c_L_tryAhead hl F p0 (0 : Int32) (5 : Int32) hk_p0 r6.2 r7 hr7) rfl rfl (Nat.le_of_ble_eq_true rfl) dL_refuses_472 (zrm_k 87 rfl (by omega)) (by omega) (fun r7 hr7 hf => ?_)
                refine r_sipush (v := -1002) C0 dL_refuses_475 (by decide) ?_
                refine r_icmp_ne C0 581 dL_refuses_478 (by decide) hf (fun hf => ?_) (fun hf => ?_)
                · refine r_iconst (v := 0) C0 dL_refuses_581 (by decide) ?_
                  obtain rfl := Option.some.inj hf
                  refine r_widen (k1 := 87) (s1 := 522) (by omega) (by omega) ?_
                  exact rX_zret C0 rfl rfl dL_refuses_582
                · refine r_aload_n C0 dL_refuses_481 rfl 1 rfl ?_
                  refine r_iload_n C0 dL_refuses_482 rfl 2 rfl ?_
                  refine r_callWw C0 (st := []) (kc1 := kc + 15) [.ref p0, .int v1] hf vs_177 (fun hl r8 hr8 => c_L_tryDoneAfter hl F p0 v1 hk_p0 r7.2 r8 hr8) rfl rfl (Nat.le_of_ble_eq_true rfl) dL_refuses_483 (zrm_k 87 rfl (by omega)) (by omega) (fun r8 hr8 hf => ?_)
                  refine r_sipush (v := -1001) C0 dL_refuses_486 (by decide) ?_
                  refine r_icmp_ne C0 581 dL_refuses_489 (by decide) hf (fun hf => ?_) (fun hf => ?_)
                  · refine r_iconst (v := 0) C0 dL_refuses_581 (by decide) ?_
                    obtain rfl := Option.some.inj hf
                    refine r_widen (k1 := 87) (s1 := 522) (by omega) (by omega) ?_
                    exact rX_zret C0 rfl rfl dL_refuses_582
                  · refine r_aload_n C0 dL_refuses_492 rfl 1 rfl ?_
                    refine r_iconst (v := -1) C0 dL_refuses_493 (by decide) ?_
                    refine r_callWw C0 (st := []) (kc1 := kc + 16) [.ref p0, .int (-1 : Int32)] hf vs_178 (fun hl r9 hr9 => c_L_tryExtension hl F p0 (-1 : Int32) hk_p0 r8.2 r9 hr9) rfl rfl (Nat.le_of_ble_eq_true rfl) dL_refuses_494 (zrm_k 87 rfl (by omega)) (by omega) (fun r9 hr9 hf => ?_)
                    refine r_sipush (v := -1001) C0 dL_refuses_497 (by decide) ?_
                    refine r_icmp_ne C0 581 dL_refuses_500 (by decide) hf (fun hf => ?_) (fun hf => ?_)
                    · refine r_iconst (v := 0) C0 dL_refuses_581 (by decide) ?_
                      obtain rfl := Option.some.inj hf
                      refine r_widen (k1 := 87) (s1 := 522) (by omega) (by omega) ?_
                      exact rX_zret C0 rfl rfl dL_refuses_582
                    · refine r_aload_n C0 dL_refuses_503 rfl 1 rfl ?_
                      refine r_iconst (v := 4) C0 dL_refuses_504 (by decide) ?_
                      refine r_lconst (v := 0) C0 dL_refuses_505 (by decide) ?_
                      refine r_callWw C0 (st := []) (kc1 := kc + 18) [.ref p0, .int (4 : Int32), .long (0 : Int64)] hf vs_179 (fun hl r10 hr10 => c_L_tryScript hl F p0 (4 : Int32) (0 : Int64) hk_p0 r9.2 r10 hr10) rfl rfl (Nat.le_of_ble_eq_true rfl) dL_refuses_506 (zrm_k 87 rfl (by omega)) (by omega) (fun r10 hr10 hf => ?_)
                      refine r_sipush (v := -1002) C0 dL_refuses_509 (by decide) ?_
                      refine r_icmp_ne C0 581 dL_refuses_512 (by decide) hf (fun hf => ?_) (fun hf => ?_)
                      · refine r_iconst (v := 0) C0 dL_refuses_581 (by decide) ?_
                        obtain rfl := Option.some.inj hf
                        refine r_widen (k1 := 87) (s1 := 522) (by omega) (by omega) ?_
                        exact rX_zret C0 rfl rfl dL_refuses_582
                      · refine r_aload_n C0 dL_refuses_515 rfl 1 rfl ?_
                        refine r_iconst (v := 1) C0 dL_refuses_516 (by decide) ?_
                        refine r_ldc2 (v := 100000) C0 qw_759 dL_refuses_517 ?_
                        refine r_callWw C0 (st := []) (kc1 := kc + 20) [.ref p0, .int (1 : Int32), .long (100000 : Int64)] hf vs_179 (fun hl r11 hr11 => c_L_tryScript hl F p0 (1 : Int32) (100000 : Int64) hk_p0 r10.2 r11 hr11) rfl rfl (Nat.le_of_ble_eq_true rfl) dL_refuses_520 (zrm_k 87 rfl (by omega)) (by omega) (fun r11 hr11 hf => ?_)
                        refine r_sipush (v := -1002) C0 dL_refuses_523 (by decide) ?_
                        refine r_icmp_ne C0 581 dL_refuses_526 (by decide) hf (fun hf => ?_) (fun hf => ?_)
                        · refine r_iconst (v := 0) C0 dL_refuses_581 (by decide) ?_
                          obtain rfl := Option.some.inj hf
                          refine r_widen (k1 := 87) (s1 := 522) (by omega) (by omega) ?_
                          exact rX_zret C0 rfl rfl dL_refuses_582
                        · refine r_aload_n C0 dL_refuses_529 rfl 1 rfl ?_
                          refine r_lconst (v := 1) C0 dL_refuses_530 (by decide) ?_
                          refine r_bipush (v := 100) C0 dL_refuses_531 (by decide) ?_
                          refine r_callWw C0 (st := []) (kc1 := kc + 21) [.ref p0, .long (1 : Int64), .int (100 : Int32)] hf vs_180 (fun hl r12 hr12 => c_L_trySimulate hl F p0 (1 : Int64) (100 : Int32) hk_p0 r11.2 r12 hr12) rfl rfl (Nat.le_of_ble_eq_true rfl) dL_refuses_533 (zrm_k 87 rfl (by omega)) (by omega) (fun r12 hr12 hf => ?_)
                          refine r_sipush (v := -1002) C0 dL_refuses_536 (by decide) ?_
                          refine r_icmp_ne C0 581 dL_refuses_539 (by decide) hf (fun hf => ?_) (fun hf => ?_)
                          · refine r_iconst (v := 0) C0 dL_refuses_581 (by decide) ?_
                            obtain rfl := Option.some.inj hf
                            refine r_widen (k1 := 87) (s1 := 522) (by omega) (by omega) ?_
                            exact rX_zret C0 rfl rfl dL_refuses_582
                          · refine r_aload_n C0 dL_refuses_542 rfl 1 rfl ?_
                            refine r_iconst (v := 2) C0 dL_refuses_543 (by decide) ?_
                            refine r_callWw C0 (st := []) (kc1 := kc + 22) [.ref p0, .int (2 : Int32)] hf vs_181 (fun hl r13 hr13 => c_L_trySave hl F p0 (2 : Int32) hk_p0 r12.2 r13 hr13) rfl rfl (Nat.le_of_ble_eq_true rfl) dL_refuses_544 (zrm_k 87 rfl (by omega)) (by omega) (fun r13 hr13 hf => ?_)
                            refine r_sipush (v := -1001) C0 dL_refuses_547 (by decide) ?_
                            refine r_icmp_ne C0 581 dL_refuses_550 (by decide) hf (fun hf => ?_) (fun hf => ?_)
                            · refine r_iconst (v := 0) C0 dL_refuses_581 (by decide) ?_
                              obtain rfl := Option.some.inj hf
                              refine r_widen (k1 := 87) (s1 := 522) (by omega) (by omega) ?_
                              exact rX_zret C0 rfl rfl dL_refuses_582
                            · refine r_aload_n C0 dL_refuses_553 rfl 1 rfl ?_
                              refine r_iconst (v := -1) C0 dL_refuses_554 (by decide) ?_
                              refine r_callWw C0 (st := []) (kc1 := kc + 24) [.ref p0, .int (-1 : Int32)] hf vs_163 (fun hl r14 hr14 => c_L_tryRestore hl F p0 (-1 : Int32) hk_p0 r13.2 r14 hr14) rfl rfl (Nat.le_of_ble_eq_true rfl) dL_refuses_555 (zrm_k 87 rfl (by omega)) (by omega) (fun r14 hr14 hf => ?_)
                              refine r_sipush (v := -1001) C0 dL_refuses_558 (by decide) ?_
                              refine r_icmp_ne C0 581 dL_refuses_561 (by decide) hf (fun hf => ?_) (fun hf => ?_)
                              · refine r_iconst (v := 0) C0 dL_refuses_581 (by decide) ?_
                                obtain rfl := Option.some.inj hf
                                refine r_widen (k1 := 87) (s1 := 522) (by omega) (by omega) ?_
                                exact rX_zret C0 rfl rfl dL_refuses_582
                              · refine r_aload_n C0 dL_refuses_564 rfl 1 rfl ?_
                                refine r_sipush (v := 256) C0 dL_refuses_565 (by decide) ?_
                                refine r_callWw C0 (st := []) (kc1 := kc + 26) [.ref p0, .int (256 : Int32)] hf vs_152 (fun hl r15 hr15 => c_L_tryAppend hl F p0 (256 : Int32) hk_p0 r14.2 r15 hr15) rfl rfl (Nat.le_of_ble_eq_true rfl) dL_refuses_568 (zrm_k 87 rfl (by omega)) (by omega) (fun r15 hr15 hf => ?_)
                                refine r_sipush (v := -1002) C0 dL_refuses_571 (by decide) ?_
                                refine r_icmp_ne C0 581 dL_refuses_574 (by decide) hf (fun hf => ?_) (fun hf => ?_)
                                · refine r_iconst (v := 0) C0 dL_refuses_581 (by decide) ?_
                                  obtain rfl := Option.some.inj hf
                                  refine r_widen (k1 := 87) (s1 := 522) (by omega) (by omega) ?_
                                  exact rX_zret C0 rfl rfl dL_refuses_582
                                · refine r_iconst (v := 1) C0 dL_refuses_577 (by decide) ?_
                                  refine r_goto C0 582 dL_refuses_578 (by decide) ?_
                                  obtain rfl := Option.some.inj hf
                                  refine r_widen (k1 := 87) (s1 := 522) (by omega) (by omega) ?_
                                  exact rX_zret C0 rfl rfl dL_refuses_582
set_option maxHeartbeats 4000000 in
set_option maxRecDepth 100000 in
theorem g_L_refuses_272 {Γ : zCx} {E : zEn} {S : zSk} {X : zMl} (C0 : zCt Γ E RL cL_refuses 6 (Option.some Jvm.ClassFile.FieldType.boolean) [] { frames := 9, cells := 87, slots := 522, locals := 208 }) (F : Nat) (p0 : Nat) (hk_p0 : K_X10 S p0)  (v1 : Int32) (v2 : Int32) (M : zMi) (r : Int32 × zMi) (hf : f_L_refuses_272 F p0 v1 v2 M = some r) (kc : Nat) (hkc : kc + (45) ≤ 87) : zG Γ (zQX Γ E 87 522 S (.inr (some (.int r.1)), r.2) X) E 6 kc (6 * kc) S ZT M X 272 [(0, .ref p0), (1, .int v1), (2, .int v2)] [] := by
  unfold f_L_refuses_272 at hf
  refine r_aload_n C0 dL_refuses_272 rfl 0 rfl ?_
  refine r_iload_n C0 dL_refuses_273 rfl 1 rfl ?_
  refine r_iconst (v := 0) C0 dL_refuses_274 (by decide) ?_
  refine r_callWw C0 (st := []) (kc1 := kc + 3) [.ref p0, .int v1, .int (0 : Int32)] hf vs_169 (fun hl r1 hr1 => c_L_tryExtend hl F p0 v1 (0 : Int32) hk_p0 M r1 hr1) rfl rfl (Nat.le_of_ble_eq_true rfl) dL_refuses_275 (zrm_k 87 rfl (by omega)) (by omega) (fun r1 hr1 hf => ?_)
  refine r_sipush (v := -1001) C0 dL_refuses_278 (by decide) ?_
  refine r_icmp_ne C0 386 dL_refuses_281 (by decide) hf (fun hf => ?_) (fun hf => ?_)
  · refine r_iconst (v := 0) C0 dL_refuses_386 (by decide) ?_
    refine r_sub (L' := [(0, .ref p0), (1, .int v1), (2, .int v2)]) [0, 1, 2] rfl ?_
    exact g_L_refuses_387 C0 F p0 hk_p0 v1 v2 (0 : Int32) r1.2 _ hf _ (by omega)
  · refine r_aload_n C0 dL_refuses_284 rfl 0 rfl ?_
    refine r_iconst (v := 0) C0 dL_refuses_285 (by decide) ?_
    refine r_iconst (v := 0) C0 dL_refuses_286 (by decide) ?_
    refine r_callWw C0 (st := []) (kc1 := kc + 6) [.ref p0, .int (0 : Int32), .int (0 : Int32)] hf vs_169 (fun hl r2 hr2 => c_L_tryExtend hl F p0 (0 : Int32) (0 : Int32) hk_p0 r1.2 r2 hr2) rfl rfl (Nat.le_of_ble_eq_true rfl) dL_refuses_287 (zrm_k 87 rfl (by omega)) (by omega) (fun r2 hr2 hf => ?_)
    refine r_sipush (v := -1002) C0 dL_refuses_290 (by decide) ?_
    refine r_icmp_ne C0 386 dL_refuses_293 (by decide) hf (fun hf => ?_) (fun hf => ?_)
    · refine r_iconst (v := 0) C0 dL_refuses_386 (by decide) ?_
      refine r_sub (L' := [(0, .ref p0), (1, .int v1), (2, .int v2)]) [0, 1, 2] rfl ?_
      exact g_L_refuses_387 C0 F p0 hk_p0 v1 v2 (0 : Int32) r2.2 _ hf _ (by omega)
    · refine r_aload_n C0 dL_refuses_296 rfl 0 rfl ?_
      refine r_iconst (v := 0) C0 dL_refuses_297 (by decide) ?_
      refine r_bipush (v := 100) C0 dL_refuses_298 (by decide) ?_
      refine r_callWw C0 (st := []) (kc1 := kc + 9) [.ref p0, .int (0 : Int32), .int (100 : Int32)] hf vs_169 (fun hl r3 hr3 => c_L_tryExtend hl F p0 (0 : Int32) (100 : Int32) hk_p0 r2.2 r3 hr3) rfl rfl (Nat.le_of_ble_eq_true rfl) dL_refuses_300 (zrm_k 87 rfl (by omega)) (by omega) (fun r3 hr3 hf => ?_)
      refine r_sipush (v := -1002) C0 dL_refuses_303 (by decide) ?_
      refine r_icmp_ne C0 386 dL_refuses_306 (by decide) hf (fun hf => ?_) (fun hf => ?_)
      · refine r_iconst (v := 0) C0 dL_refuses_386 (by decide) ?_
        refine r_sub (L' := [(0, .ref p0), (1, .int v1), (2, .int v2)]) [0, 1, 2] rfl ?_
        exact g_L_refuses_387 C0 F p0 hk_p0 v1 v2 (0 : Int32) r3.2 _ hf _ (by omega)
      · refine r_aload_n C0 dL_refuses_309 rfl 0 rfl ?_
        refine r_iconst (v := 0) C0 dL_refuses_310 (by decide) ?_
        refine r_callWw C0 (st := []) (kc1 := kc + 11) [.ref p0, .int (0 : Int32)] hf vs_170 (fun hl r4 hr4 => c_L_tryBuy hl F p0 (0 : Int32) hk_p0 r3.2 r4 hr4) rfl rfl (Nat.le_of_ble_eq_true rfl) dL_refuses_311 (zrm_k 87 rfl (by omega)) (by omega) (fun r4 hr4 hf => ?_)
        refine r_sipush (v := -1002) C0 dL_refuses_314 (by decide) ?_
        refine r_icmp_ne C0 386 dL_refuses_317 (by decide) hf (fun hf => ?_) (fun hf => ?_)
        · refine r_iconst (v := 0) C0 dL_refuses_386 (by decide) ?_
          refine r_sub (L' := [(0, .ref p0), (1, .int v1), (2, .int v2)]) [0, 1, 2] rfl ?_
          exact g_L_refuses_387 C0 F p0 hk_p0 v1 v2 (0 : Int32) r4.2 _ hf _ (by omega)
        · refine r_aload_n C0 dL_refuses_320 rfl 0 rfl ?_
          refine r_sipush (v := 1000) C0 dL_refuses_321 (by decide) ?_
          refine r_callWw C0 (st := []) (kc1 := kc + 13) [.ref p0, .int (1000 : Int32)] hf vs_170 (fun hl r5 hr5 => c_L_tryBuy hl F p0 (1000 : Int32) hk_p0 r4.2 r5 hr5) rfl rfl (Nat.le_of_ble_eq_true rfl) dL_refuses_324 (zrm_k 87 rfl (by omega)) (by omega) (fun r5 hr5 hf => ?_)
          refine r_sipush (v := -1002) C0 dL_refuses_327 (by decide) ?_
          refine r_icmp_ne C0 386 dL_refuses_330 (by decide) hf (fun hf => ?_) (fun hf => ?_)
          · refine r_iconst (v := 0) C0 dL_refuses_386 (by decide) ?_
            refine r_sub (L' := [(0, .ref p0), (1, .int v1), (2, .int v2)]) [0, 1, 2] rfl ?_
            exact g_L_refuses_387 C0 F p0 hk_p0 v1 v2 (0 : Int32) r5.2 _ hf _ (by omega)
          · refine r_aload_n C0 dL_refuses_333 rfl 0 rfl ?_
            refine r_bipush (v := 30) C0 dL_refuses_334 (by decide) ?_
            refine r_iconst (v := 0) C0 dL_refuses_336 (by decide) ?_
            refine r_callWw C0 (st := []) (kc1 := kc + 15) [.ref p0, .int (30 : Int32), .int (0 : Int32)] hf vs_171 (fun hl r6 hr6 => c_L_trySetWaves hl F p0 (30 : Int32) (0 : Int32) hk_p0 r5.2 r6 hr6) rfl rfl (Nat.le_of_ble_eq_true rfl) dL_refuses_337 (zrm_k 87 rfl (by omega)) (by omega) (fun r6 hr6 hf => ?_)
            refine r_sipush (v := -1002) C0 dL_refuses_340 (by decide) ?_
            refine r_icmp_ne C0 386 dL_refuses_343 (by decide) hf (fun hf => ?_) (fun hf => ?_)
            · refine r_iconst (v := 0) C0 dL_refuses_386 (by decide) ?_
              refine r_sub (L' := [(0, .ref p0), (1, .int v1), (2, .int v2)]) [0, 1, 2] rfl ?_
              exact g_L_refuses_387 C0 F p0 hk_p0 v1 v2 (0 : Int32) r6.2 _ hf _ (by omega)
            · refine r_aload_n C0 dL_refuses_346 rfl 0 rfl ?_
              refine r_iconst (v := 0) C0 dL_refuses_347 (by decide) ?_
              refine r_bipush (v := 10) C0 dL_refuses_348 (by decide) ?_
              refine r_callWw C0 (st := []) (kc1 := kc + 17) [.ref p0, .int (0 : Int32), .int (10 : Int32)] hf vs_171 (fun hl r7 hr7 => c_L_trySetWaves hl F p0 (0 : Int32) (10 : Int32) hk_p0 r6.2 r7 hr7) rfl rfl (Nat.le_of_ble_eq_true rfl) dL_refuses_350 (zrm_k 87 rfl (by omega)) (by omega) (fun r7 hr7 hf => ?_)
              refine r_sipush (v := -1002) C0 dL_refuses_353 (by decide) ?_
              refine r_icmp_ne C0 386 dL_refuses_356 (by decide) hf (fun hf => ?_) (fun hf => ?_)
              · refine r_iconst (v := 0) C0 dL_refuses_386 (by decide) ?_
                refine r_sub (L' := [(0, .ref p0), (1, .int v1), (2, .int v2)]) [0, 1, 2] rfl ?_
                exact g_L_refuses_387 C0 F p0 hk_p0 v1 v2 (0 : Int32) r7.2 _ hf _ (by omega)
              · refine r_aload_n C0 dL_refuses_359 rfl 0 rfl ?_
                refine r_iconst (v := 0) C0 dL_refuses_360 (by decide) ?_
                refine r_callWw C0 (st := []) (kc1 := kc + 18) [.ref p0, .int (0 : Int32)] hf vs_172 (fun hl r8 hr8 => c_L_tryPass hl F p0 (0 : Int32) hk_p0 r7.2 r8 hr8) rfl rfl (Nat.le_of_ble_eq_true rfl) dL_refuses_361 (zrm_k 87 rfl (by omega)) (by omega) (fun r8 hr8 hf => ?_)
                refine r_sipush (v := -1002) C0 dL_refuses_364 (by decide) ?_
                refine r_icmp_ne C0 386 dL_refuses_367 (by decide) hf (fun hf => ?_) (fun hf => ?_)
                · refine r_iconst (v := 0) C0 dL_refuses_386 (by decide) ?_
                  refine r_sub (L' := [(0, .ref p0), (1, .int v1), (2, .int v2)]) [0, 1, 2] rfl ?_
                  exact g_L_refuses_387 C0 F p0 hk_p0 v1 v2 (0 : Int32) r8.2 _ hf _ (by omega)
                · refine r_aload_n C0 dL_refuses_370 rfl 0 rfl ?_
                  refine r_bipush (v := 100) C0 dL_refuses_371 (by decide) ?_
                  refine r_callWw C0 (st := []) (kc1 := kc + 19) [.ref p0, .int (100 : Int32)] hf vs_172 (fun hl r9 hr9 => c_L_tryPass hl F p0 (100 : Int32) hk_p0 r8.2 r9 hr9) rfl rfl (Nat.le_of_ble_eq_true rfl) dL_refuses_373 (zrm_k 87 rfl (by omega)) (by omega) (fun r9 hr9 hf => ?_)
                  refine r_sipush (v := -1002) C0 dL_refuses_376 (by decide) ?_
                  refine r_icmp_ne C0 386 dL_refuses_379 (by decide) hf (fun hf => ?_) (fun hf => ?_)
                  · refine r_iconst (v := 0) C0 dL_refuses_386 (by decide) ?_
                    refine r_sub (L' := [(0, .ref p0), (1, .int v1), (2, .int v2)]) [0, 1, 2] rfl ?_
                    exact g_L_refuses_387 C0 F p0 hk_p0 v1 v2 (0 : Int32) r9.2 _ hf _ (by omega)
                  · refine r_iconst (v := 1) C0 dL_refuses_382 (by decide) ?_
                    refine r_goto C0 387 dL_refuses_383 (by decide) ?_
                    refine r_sub (L' := [(0, .ref p0), (1, .int v1), (2, .int v2)]) [0, 1, 2] rfl ?_
                    exact g_L_refuses_387 C0 F p0 hk_p0 v1 v2 (1 : Int32) r9.2 _ hf _ (by omega)
