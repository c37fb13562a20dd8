set_option maxHeartbeats 4000000 in
set_option maxRecDepth 100000 in
theorem g_L_scripts_217 {Γ : zCx} {E : zEn} {S : zSk} {X : zMl} (C0 : zCt Γ E RL cL_scripts 11 (Option.some Jvm.ClassFile.FieldType.boolean) [] { frames := 9, cells := 49, slots := 294, locals := 208 }) (F : Nat) (p0 : Nat) (p1 : Int32) (hk_p0 : K_X10 S p0)  (v2 : Int32) (v3 : Int32) (v4 : Int32) (v5 : Int32) (v9 : Int32) (s0 : Int32) (s1 : Int32) (M : zMi) (r : Int32 × zMi) (hf : f_L_scripts_217 F p0 p1 v2 v3 v4 v5 v9 s0 s1 M = some r) (kc : Nat) (hkc : kc + (27) ≤ 49) : zG Γ (zQX Γ E 49 294 S (.inr (some (.int r.1)), r.2) X) E 11 kc (6 * kc) S ZT M X 217 [(0, .ref p0), (1, .int p1), (2, .int v2), (3, .int v3), (4, .int v4), (5, .int v5), (9, .int v9)] [.int s0, .int s1] := by
  unfold f_L_scripts_217 at hf
  refine r_icmp_ne C0 280 dL_scripts_217 (by decide) hf (fun hf => ?_) (fun hf => ?_)
  · refine r_iconst (v := 0) C0 dL_scripts_280 (by decide) ?_
    refine r_sub (L' := [(0, .ref p0), (1, .int p1), (2, .int v2), (3, .int v3), (9, .int v9)]) [0, 1, 2, 3, 6] rfl ?_
    exact g_L_scripts_281 C0 F p0 p1 hk_p0 v2 v3 v9 (0 : Int32) M _ hf _ (by omega)
  · refine r_aload_n C0 dL_scripts_220 rfl 0 rfl ?_
    refine r_iconst (v := 1) C0 dL_scripts_221 (by decide) ?_
    refine r_ldc2 (v := 30000) C0 qw_785 dL_scripts_222 ?_
    refine r_ldc2 (v := 1000) C0 qw_778 dL_scripts_225 ?_
    refine r_iload C0 dL_scripts_228 4 rfl ?_
    refine r_i2l C0 dL_scripts_230 ?_
    refine r_lmul C0 dL_scripts_231 ?_
    refine r_ladd C0 dL_scripts_232 ?_
    refine r_callWw C0 (st := []) (kc1 := kc + 2) [.ref p0, .int (1 : Int32), .long ((30000 : Int64) + ((1000 : Int64) * (v4).toInt64))] hf vs_179 (fun hl r1 hr1 => c_L_tryScript hl F p0 (1 : Int32) ((30000 : Int64) + ((1000 : Int64) * (v4).toInt64)) hk_p0 M r1 hr1) rfl rfl (Nat.le_of_ble_eq_true rfl) dL_scripts_233 (zrm_k 49 rfl (by omega)) (by omega) (fun r1 hr1 hf => ?_)
    refine r_iload C0 dL_scripts_236 5 rfl ?_
    refine r_iconst (v := 2) C0 dL_scripts_238 (by decide) ?_
    refine r_icmp_eq C0 248 dL_scripts_239 (by decide) hf (fun hf => ?_) (fun hf => ?_)
    · refine r_bipush (v := -9) C0 dL_scripts_248 (by decide) ?_
      refine r_goto C0 254 dL_scripts_250 (by decide) ?_
      refine r_sub (L' := [(0, .ref p0), (1, .int p1), (2, .int v2), (3, .int v3), (4, .int v4), (9, .int v9)]) [0, 1, 2, 3, 4, 6] rfl ?_
      exact g_L_scripts_254 C0 F p0 p1 hk_p0 v2 v3 v4 v9 (-9 : Int32) r1.1 r1.2 _ hf _ (by omega)
    · refine r_iload C0 dL_scripts_242 5 rfl ?_
      refine r_iconst (v := 3) C0 dL_scripts_244 (by decide) ?_
      refine r_icmp_ne C0 253 dL_scripts_245 (by decide) hf (fun hf => ?_) (fun hf => ?_)
      · refine r_iconst (v := 0) C0 dL_scripts_253 (by decide) ?_
        refine r_sub (L' := [(0, .ref p0), (1, .int p1), (2, .int v2), (3, .int v3), (4, .int v4), (9, .int v9)]) [0, 1, 2, 3, 4, 6] rfl ?_
        exact g_L_scripts_254 C0 F p0 p1 hk_p0 v2 v3 v4 v9 (0 : Int32) r1.1 r1.2 _ hf _ (by omega)
      · refine r_bipush (v := -9) C0 dL_scripts_248 (by decide) ?_
        refine r_goto C0 254 dL_scripts_250 (by decide) ?_
        refine r_sub (L' := [(0, .ref p0), (1, .int p1), (2, .int v2), (3, .int v3), (4, .int v4), (9, .int v9)]) [0, 1, 2, 3, 4, 6] rfl ?_
        exact g_L_scripts_254 C0 F p0 p1 hk_p0 v2 v3 v4 v9 (-9 : Int32) r1.1 r1.2 _ hf _ (by omega)
set_option maxHeartbeats 4000000 in
set_option maxRecDepth 100000 in
theorem c_L_scripts {l : Launch} {E : zEn} {S : zSk} {X : zMl} (hl : l.stackTraces = false) (F : Nat) (p0 : Nat) (p1 : Int32) (hk_p0 : K_X10 S p0) (M : zMi) (r : Int32 × zMi) (hf : f_L_scripts F p0 p1 M = some r) : zMX l E yL_scripts cL_scripts 11 (Option.some Jvm.ClassFile.FieldType.boolean) { frames := 9, cells := 49, slots := 294, locals := 208 } 49 294 [.ref p0, .int p1] S M X (.inr (some (.int r.1)), r.2) := by
  refine zMX.intro (L0 := [(0, .ref p0), (1, .int p1)]) hl (by decide) (Nat.le_of_ble_eq_true rfl) rfl (fun Γ C0 => ?_)
  unfold f_L_scripts at hf
  refine r_aload_n C0 dL_scripts_0 rfl 0 rfl ?_
  refine r_iconst (v := 0) C0 dL_scripts_1 (by decide) ?_
  refine r_callWp C0 (st := []) (kc1 := 1) [.ref p0, .int (0 : Int32)] hf vs_159 (fun hl r1 hr1 => c_L_tryAbout hl F p0 (0 : Int32) hk_p0 M r1 hr1) rfl rfl (Nat.le_of_ble_eq_true rfl) dL_scripts_2 (zrm_k 49 rfl (Nat.le_of_ble_eq_true rfl)) (Nat.le_of_ble_eq_true rfl) (fun r1 hr1 hf => ?_)
  refine r_istore_n (L' := [(2, .int r1), (0, .ref p0), (1, .int p1)]) C0 dL_scripts_5 rfl (by decide) rfl ?_
  refine r_aload_n C0 dL_scripts_6 rfl 1 rfl ?_
  refine r_iconst (v := 1) C0 dL_scripts_7 (by decide) ?_
  refine r_callWp C0 (st := []) (kc1 := 2) [.ref p0, .int (1 : Int32)] hf vs_159 (fun hl r2 hr2 => c_L_tryAbout hl F p0 (1 : Int32) hk_p0 M r2 hr2) rfl rfl (Nat.le_of_ble_eq_true rfl) dL_scripts_8 (zrm_k 49 rfl (Nat.le_of_ble_eq_true rfl)) (Nat.le_of_ble_eq_true rfl) (fun r2 hr2 hf => ?_)
  refine r_istore_n (L' := [(3, .int r2), (2, .int r1), (0, .ref p0), (1, .int p1)]) C0 dL_scripts_11 rfl (by decide) rfl ?_
  refine r_iload_n C0 dL_scripts_12 rfl 3 rfl ?_
  refine r_iload_n C0 dL_scripts_13 rfl 0 rfl ?_
  refine r_irem C0 dL_scripts_14 hf (fun hf => ?_)
  refine r_nm hf (fun x3 hf => ?_)
  refine r_istore (L' := [(4, .int x3), (3, .int r2), (2, .int r1), (0, .ref p0), (1, .int p1)]) C0 dL_scripts_15 (by decide) rfl ?_
  refine r_aload_n C0 dL_scripts_17 rfl 3 rfl ?_
  refine r_iload C0 dL_scripts_18 0 rfl ?_
  refine r_iconst (v := 5) C0 dL_scripts_20 (by decide) ?_
  refine r_callWp C0 (st := []) (kc1 := 4) [.ref p0, .int x3, .int (5 : Int32)] hf vs_161 (fun hl r4 hr4 => c_L_tryShip hl F p0 x3 (5 : Int32) hk_p0 M r4 hr4) rfl rfl (Nat.le_of_ble_eq_true rfl) dL_scripts_21 (zrm_k 49 rfl (Nat.le_of_ble_eq_true rfl)) (Nat.le_of_ble_eq_true rfl) (fun r4 hr4 hf => ?_)
  refine r_istore (L' := [(5, .int r4), (4, .int x3), (3, .int r2), (2, .int r1), (0, .ref p0), (1, .int p1)]) C0 dL_scripts_24 (by decide) rfl ?_
  refine r_aload_n C0 dL_scripts_26 rfl 4 rfl ?_
  refine r_bipush (v := 6) C0 dL_scripts_27 (by decide) ?_
  refine r_callWp C0 (st := []) (kc1 := 5) [.ref p0, .int (6 : Int32)] hf vs_159 (fun hl r5 hr5 => c_L_tryAbout hl F p0 (6 : Int32) hk_p0 M r5 hr5) rfl rfl (Nat.le_of_ble_eq_true rfl) dL_scripts_29 (zrm_k 49 rfl (Nat.le_of_ble_eq_true rfl)) (Nat.le_of_ble_eq_true rfl) (fun r5 hr5 hf => ?_)
  refine r_istore (L' := [(6, .int r5), (5, .int r4), (4, .int x3), (3, .int r2), (2, .int r1), (0, .ref p0), (1, .int p1)]) C0 dL_scripts_32 (by decide) rfl ?_
  refine r_aload_n C0 dL_scripts_34 rfl 5 rfl ?_
  refine r_bipush (v := 7) C0 dL_scripts_35 (by decide) ?_
  refine r_callWp C0 (st := []) (kc1 := 6) [.ref p0, .int (7 : Int32)] hf vs_159 (fun hl r6 hr6 => c_L_tryAbout hl F p0 (7 : Int32) hk_p0 M r6 hr6) rfl rfl (Nat.le_of_ble_eq_true rfl) dL_scripts_37 (zrm_k 49 rfl (Nat.le_of_ble_eq_true rfl)) (Nat.le_of_ble_eq_true rfl) (fun r6 hr6 hf => ?_)
  refine r_istore (L' := [(7, .int r6), (6, .int r5), (5, .int r4), (4, .int x3), (3, .int r2), (2, .int r1), (0, .ref p0), (1, .int p1)]) C0 dL_scripts_40 (by decide) rfl ?_
  refine r_aload_n C0 dL_scripts_42 rfl 6 rfl ?_
  refine r_bipush (v := 9) C0 dL_scripts_43 (by decide) ?_
  refine r_callWp C0 (st := []) (kc1 := 7) [.ref p0, .int (9 : Int32)] hf vs_159 (fun hl r7 hr7 => c_L_tryAbout hl F p0 (9 : Int32) hk_p0 M r7 hr7) rfl rfl (Nat.le_of_ble_eq_true rfl) dL_scripts_45 (zrm_k 49 rfl (Nat.le_of_ble_eq_true rfl)) (Nat.le_of_ble_eq_true rfl) (fun r7 hr7 hf => ?_)
  refine r_istore (L' := [(8, .int r7), (7, .int r6), (6, .int r5), (5, .int r4), (4, .int x3), (3, .int r2), (2, .int r1), (0, .ref p0), (1, .int p1)]) C0 dL_scripts_48 (by decide) rfl ?_
  refine r_aload_n C0 dL_scripts_50 rfl 7 rfl ?_
  refine r_iload_n C0 dL_scripts_51 rfl 8 rfl ?_
  refine r_i2l C0 dL_scripts_52 ?_
  refine r_ldc2 (v := 163) C0 qw_776 dL_scripts_53 ?_
  refine r_lmul C0 dL_scripts_56 ?_
  refine r_bipush (v := 20) C0 dL_scripts_57 (by decide) ?_
  refine r_callWw C0 (st := []) (kc1 := 8) [.ref p0, .long ((p1).toInt64 * (163 : Int64)), .int (20 : Int32)] hf vs_180 (fun hl r8 hr8 => c_L_trySimulate hl F p0 ((p1).toInt64 * (163 : Int64)) (20 : Int32) hk_p0 M r8 hr8) rfl rfl (Nat.le_of_ble_eq_true rfl) dL_scripts_59 (zrm_k 49 rfl (Nat.le_of_ble_eq_true rfl)) (Nat.le_of_ble_eq_true rfl) (fun r8 hr8 hf => ?_)
  refine r_istore (L' := [(9, .int r8.1), (8, .int r7), (7, .int r6), (6, .int r5), (5, .int r4), (4, .int x3), (3, .int r2), (2, .int r1), (0, .ref p0), (1, .int p1)]) C0 dL_scripts_62 (by decide) rfl ?_
  refine r_aload_n C0 dL_scripts_64 rfl 8 rfl ?_
  refine r_iconst (v := 1) C0 dL_scripts_65 (by decide) ?_
  refine r_ldc2 (v := 70000) C0 qw_777 dL_scripts_66 ?_
  refine r_ldc2 (v := 1000) C0 qw_778 dL_scripts_69 ?_
  refine r_iload C0 dL_scripts_72 3 rfl ?_
  refine r_i2l C0 dL_scripts_74 ?_
  refine r_lmul C0 dL_scripts_75 ?_
  refine r_ladd C0 dL_scripts_76 ?_
  refine r_iload C0 dL_scripts_77 2 rfl ?_
  refine r_i2l C0 dL_scripts_79 ?_
  refine r_ladd C0 dL_scripts_80 ?_
  refine r_callWw C0 (st := []) (kc1 := 10) [.ref p0, .int (1 : Int32), .long (((70000 : Int64) + ((1000 : Int64) * (r5).toInt64)) + (r6).toInt64)] hf vs_179 (fun hl r9 hr9 => c_L_tryScript hl F p0 (1 : Int32) (((70000 : Int64) + ((1000 : Int64) * (r5).toInt64)) + (r6).toInt64) hk_p0 r8.2 r9 hr9) rfl rfl (Nat.le_of_ble_eq_true rfl) dL_scripts_81 (zrm_k 49 rfl (Nat.le_of_ble_eq_true rfl)) (Nat.le_of_ble_eq_true rfl) (fun r9 hr9 hf => ?_)
  refine r_bipush (v := -9) C0 dL_scripts_84 (by decide) ?_
  refine r_icmp_ne C0 280 dL_scripts_86 (by decide) hf (fun hf => ?_) (fun hf => ?_)
  · refine r_iconst (v := 0) C0 dL_scripts_280 (by decide) ?_
    refine r_sub (L' := [(0, .ref p0), (1, .int p1), (2, .int r1), (3, .int r2), (9, .int r8.1)]) [8, 9, 7, 6, 0] rfl ?_
    exact g_L_scripts_281 C0 F p0 p1 hk_p0 r1 r2 r8.1 (0 : Int32) r9.2 _ hf _ (Nat.le_of_ble_eq_true rfl)
  · refine r_aload_n C0 dL_scripts_89 rfl 8 rfl ?_
    refine r_iconst (v := 1) C0 dL_scripts_90 (by decide) ?_
    refine r_ldc2 (v := 70001) C0 qw_779 dL_scripts_91 ?_
    refine r_ldc2 (v := 1000) C0 qw_778 dL_scripts_94 ?_
    refine r_iload C0 dL_scripts_97 3 rfl ?_
    refine r_i2l C0 dL_scripts_99 ?_
    refine r_lmul C0 dL_scripts_100 ?_
    refine r_ladd C0 dL_scripts_101 ?_
    refine r_iload C0 dL_scripts_102 2 rfl ?_
    refine r_i2l C0 dL_scripts_104 ?_
    refine r_ladd C0 dL_scripts_105 ?_
    refine r_callWw C0 (st := []) (kc1 := 12) [.ref p0, .int (1 : Int32), .long (((70001 : Int64) + ((1000 : Int64) * (r5).toInt64)) + (r6).toInt64)] hf vs_179 (fun hl r10 hr10 => c_L_tryScript hl F p0 (1 : Int32) (((70001 : Int64) + ((1000 : Int64) * (r5).toInt64)) + (r6).toInt64) hk_p0 r9.2 r10 hr10) rfl rfl (Nat.le_of_ble_eq_true rfl) dL_scripts_106 (zrm_k 49 rfl (Nat.le_of_ble_eq_true rfl)) (Nat.le_of_ble_eq_true rfl) (fun r10 hr10 hf => ?_)
    refine r_if_ne C0 280 dL_scripts_109 (by decide) hf (fun hf => ?_) (fun hf => ?_)
    · refine r_iconst (v := 0) C0 dL_scripts_280 (by decide) ?_
      refine r_sub (L' := [(0, .ref p0), (1, .int p1), (2, .int r1), (3, .int r2), (9, .int r8.1)]) [8, 9, 7, 6, 0] rfl ?_
      exact g_L_scripts_281 C0 F p0 p1 hk_p0 r1 r2 r8.1 (0 : Int32) r10.2 _ hf _ (Nat.le_of_ble_eq_true rfl)
    · refine r_aload_n C0 dL_scripts_112 rfl 8 rfl ?_
      refine r_iconst (v := 1) C0 dL_scripts_113 (by decide) ?_
      refine r_ldc2 (v := 80000) C0 qw_780 dL_scripts_114 ?_
      refine r_ldc2 (v := 1000) C0 qw_778 dL_scripts_117 ?_
      refine r_iload C0 dL_scripts_120 5 rfl ?_
      refine r_i2l C0 dL_scripts_122 ?_
      refine r_lmul C0 dL_scripts_123 ?_
      refine r_ladd C0 dL_scripts_124 ?_
      refine r_iload C0 dL_scripts_125 4 rfl ?_
      refine r_i2l C0 dL_scripts_127 ?_
      refine r_ladd C0 dL_scripts_128 ?_
      refine r_callWw C0 (st := []) (kc1 := 14) [.ref p0, .int (1 : Int32), .long (((80000 : Int64) + ((1000 : Int64) * (x3).toInt64)) + (r4).toInt64)] hf vs_179 (fun hl r11 hr11 => c_L_tryScript hl F p0 (1 : Int32) (((80000 : Int64) + ((1000 : Int64) * (x3).toInt64)) + (r4).toInt64) hk_p0 r10.2 r11 hr11) rfl rfl (Nat.le_of_ble_eq_true rfl) dL_scripts_129 (zrm_k 49 rfl (Nat.le_of_ble_eq_true rfl)) (Nat.le_of_ble_eq_true rfl) (fun r11 hr11 hf => ?_)
      refine r_bipush (v := -9) C0 dL_scripts_132 (by decide) ?_
      refine r_icmp_ne C0 280 dL_scripts_134 (by decide) hf (fun hf => ?_) (fun hf => ?_)
      · refine r_iconst (v := 0) C0 dL_scripts_280 (by decide) ?_
        refine r_sub (L' := [(0, .ref p0), (1, .int p1), (2, .int r1), (3, .int r2), (9, .int r8.1)]) [8, 9, 7, 6, 0] rfl ?_
        exact g_L_scripts_281 C0 F p0 p1 hk_p0 r1 r2 r8.1 (0 : Int32) r11.2 _ hf _ (Nat.le_of_ble_eq_true rfl)
      · refine r_aload_n C0 dL_scripts_137 rfl 8 rfl ?_
        refine r_iconst (v := 1) C0 dL_scripts_138 (by decide) ?_
        refine r_ldc2 (v := 80005) C0 qw_781 dL_scripts_139 ?_
        refine r_ldc2 (v := 1000) C0 qw_778 dL_scripts_142 ?_
        refine r_iload C0 dL_scripts_145 5 rfl ?_
        refine r_i2l C0 dL_scripts_147 ?_
        refine r_lmul C0 dL_scripts_148 ?_
        refine r_ladd C0 dL_scripts_149 ?_
        refine r_callWw C0 (st := []) (kc1 := 16) [.ref p0, .int (1 : Int32), .long ((80005 : Int64) + ((1000 : Int64) * (x3).toInt64))] hf vs_179 (fun hl r12 hr12 => c_L_tryScript hl F p0 (1 : Int32) ((80005 : Int64) + ((1000 : Int64) * (x3).toInt64)) hk_p0 r11.2 r12 hr12) rfl rfl (Nat.le_of_ble_eq_true rfl) dL_scripts_150 (zrm_k 49 rfl (Nat.le_of_ble_eq_true rfl)) (Nat.le_of_ble_eq_true rfl) (fun r12 hr12 hf => ?_)
        refine r_if_ne C0 280 dL_scripts_153 (by decide) hf (fun hf => ?_) (fun hf => ?_)
        · refine r_iconst (v := 0) C0 dL_scripts_280 (by decide) ?_
          refine r_sub (L' := [(0, .ref p0), (1, .int p1), (2, .int r1), (3, .int r2), (9, .int r8.1)]) [8, 9, 7, 6, 0] rfl ?_
          exact g_L_scripts_281 C0 F p0 p1 hk_p0 r1 r2 r8.1 (0 : Int32) r12.2 _ hf _ (Nat.le_of_ble_eq_true rfl)
        · refine r_aload_n C0 dL_scripts_156 rfl 8 rfl ?_
          refine r_iconst (v := 1) C0 dL_scripts_157 (by decide) ?_
          refine r_ldc2 (v := 90000) C0 qw_782 dL_scripts_158 ?_
          refine r_iload C0 dL_scripts_161 1 rfl ?_
          refine r_i2l C0 dL_scripts_163 ?_
          refine r_ladd C0 dL_scripts_164 ?_
          refine r_callWw C0 (st := []) (kc1 := 18) [.ref p0, .int (1 : Int32), .long ((90000 : Int64) + (r7).toInt64)] hf vs_179 (fun hl r13 hr13 => c_L_tryScript hl F p0 (1 : Int32) ((90000 : Int64) + (r7).toInt64) hk_p0 r12.2 r13 hr13) rfl rfl (Nat.le_of_ble_eq_true rfl) dL_scripts_165 (zrm_k 49 rfl (Nat.le_of_ble_eq_true rfl)) (Nat.le_of_ble_eq_true rfl) (fun r13 hr13 hf => ?_)
          refine r_bipush (v := -9) C0 dL_scripts_168 (by decide) ?_
          refine r_icmp_ne C0 280 dL_scripts_170 (by decide) hf (fun hf => ?_) (fun hf => ?_)
          · refine r_iconst (v := 0) C0 dL_scripts_280 (by decide) ?_
            refine r_sub (L' := [(0, .ref p0), (1, .int p1), (2, .int r1), (3, .int r2), (9, .int r8.1)]) [8, 9, 7, 6, 0] rfl ?_
            exact g_L_scripts_281 C0 F p0 p1 hk_p0 r1 r2 r8.1 (0 : Int32) r13.2 _ hf _ (Nat.le_of_ble_eq_true rfl)
          · refine r_aload_n C0 dL_scripts_173 rfl 8 rfl ?_
            refine r_iconst (v := 1) C0 dL_scripts_174 (by decide) ?_
            refine r_ldc2 (v := 90007) C0 qw_783 dL_scripts_175 ?_
            refine r_callWw C0 (st := []) (kc1 := 20) [.ref p0, .int (1 : Int32), .long (90007 : Int64)] hf vs_179 (fun hl r14 hr14 => c_L_tryScript hl F p0 (1 : Int32) (90007 : Int64) hk_p0 r13.2 r14 hr14) rfl rfl (Nat.le_of_ble_eq_true rfl) dL_scripts_178 (zrm_k 49 rfl (Nat.le_of_ble_eq_true rfl)) (Nat.le_of_ble_eq_true rfl) (fun r14 hr14 hf => ?_)
            refine r_if_ne C0 280 dL_scripts_181 (by decide) hf (fun hf => ?_) (fun hf => ?_)
            · refine r_iconst (v := 0) C0 dL_scripts_280 (by decide) ?_
              refine r_sub (L' := [(0, .ref p0), (1, .int p1), (2, .int r1), (3, .int r2), (9, .int r8.1)]) [8, 9, 7, 6, 0] rfl ?_
              exact g_L_scripts_281 C0 F p0 p1 hk_p0 r1 r2 r8.1 (0 : Int32) r14.2 _ hf _ (Nat.le_of_ble_eq_true rfl)
            · refine r_aload_n C0 dL_scripts_184 rfl 8 rfl ?_
              refine r_iconst (v := 1) C0 dL_scripts_185 (by decide) ?_
              refine r_ldc2 (v := 20000) C0 qw_784 dL_scripts_186 ?_
              refine r_ldc2 (v := 1000) C0 qw_778 dL_scripts_189 ?_
              refine r_iload C0 dL_scripts_192 5 rfl ?_
              refine r_i2l C0 dL_scripts_194 ?_
              refine r_lmul C0 dL_scripts_195 ?_
              refine r_ladd C0 dL_scripts_196 ?_
              refine r_callWw C0 (st := []) (kc1 := 22) [.ref p0, .int (1 : Int32), .long ((20000 : Int64) + ((1000 : Int64) * (x3).toInt64))] hf vs_179 (fun hl r15 hr15 => c_L_tryScript hl F p0 (1 : Int32) ((20000 : Int64) + ((1000 : Int64) * (x3).toInt64)) hk_p0 r14.2 r15 hr15) rfl rfl (Nat.le_of_ble_eq_true rfl) dL_scripts_197 (zrm_k 49 rfl (Nat.le_of_ble_eq_true rfl)) (Nat.le_of_ble_eq_true rfl) (fun r15 hr15 hf => ?_)
              refine r_iload C0 dL_scripts_200 4 rfl ?_
              refine r_if_ne C0 216 dL_scripts_202 (by decide) hf (fun hf => ?_) (fun hf => ?_)
              · refine r_iconst (v := 0) C0 dL_scripts_216 (by decide) ?_
                refine r_sub (L' := [(0, .ref p0), (1, .int p1), (2, .int r1), (3, .int r2), (4, .int x3), (5, .int r4), (9, .int r8.1)]) [8, 9, 7, 6, 5, 4, 0] rfl ?_
                exact g_L_scripts_217 C0 F p0 p1 hk_p0 r1 r2 x3 r4 r8.1 (0 : Int32) r15.1 r15.2 _ hf _ (Nat.le_of_ble_eq_true rfl)
              · refine r_iload C0 dL_scripts_205 3 rfl ?_
                refine r_iload_n C0 dL_scripts_207 rfl 7 rfl ?_
                refine r_icmp_ge C0 216 dL_scripts_208 (by decide) hf (fun hf => ?_) (fun hf => ?_)
                · refine r_iconst (v := 0) C0 dL_scripts_216 (by decide) ?_
                  refine r_sub (L' := [(0, .ref p0), (1, .int p1), (2, .int r1), (3, .int r2), (4, .int x3), (5, .int r4), (9, .int r8.1)]) [8, 9, 7, 6, 5, 4, 0] rfl ?_
                  exact g_L_scripts_217 C0 F p0 p1 hk_p0 r1 r2 x3 r4 r8.1 (0 : Int32) r15.1 r15.2 _ hf _ (Nat.le_of_ble_eq_true rfl)
                · refine r_bipush (v := -9) C0 dL_scripts_211 (by decide) ?_
                  refine r_goto C0 217 dL_scripts_213 (by decide) ?_
                  refine r_sub (L' := [(0, .ref p0), (1, .int p1), (2, .int r1), (3, .int r2), (4, .int x3), (5, .int r4), (9, .int r8.1)]) [8, 9, 7, 6, 5, 4, 0] rfl ?_
                  exact g_L_scripts_217 C0 F p0 p1 hk_p0 r1 r2 x3 r4 r8.1 (-9 : Int32) r15.1 r15.2 _ hf _ (Nat.le_of_ble_eq_true rfl)
set_option maxHeartbeats 4000000 in
set_option maxRecDepth 100000 in
theorem c_L_act {l : Launch} {E : zEn} {S : zSk} {X : zMl} (hl : l.stackTraces = false) (F : Nat) (p0 : Nat) (p1 : Int32) (p2 : Int32) (hk_p0 : K_X10 S p0) (M : zMi) (r : Int32 × zMi) (hf : f_L_act F p0 p1 p2 M = some r) : zMX l E yL_act cL_act 4 (Option.some Jvm.ClassFile.FieldType.int) { frames := 9, cells := 5, slots := 30, locals := 180 } 5 30 [.ref p0, .int p1, .int p2] S M X (.inr (some (.int r.1)), r.2) := by
  refine zMX.intro (L0 := [(0, .ref p0), (1, .int p1), (2, .int p2)]) hl (by decide) (Nat.le_of_ble_eq_true rfl) rfl (fun Γ C0 => ?_)
  unfold f_L_act at hf
  refine r_iload_n C0 dL_act_0 rfl 2 rfl ?_
  refine r_aload_n C0 dL_act_1 rfl 0 rfl ?_
  refine r_iconst (v := 1) C0 dL_act_2 (by decide) ?_
  refine r_callWp C0 (st := [.int p2]) (kc1 := 1) [.ref p0, .int (1 : Int32)] hf vs_159 (fun hl r1 hr1 => c_L_tryAbout hl F p0 (1 : Int32) hk_p0 M r1 hr1) rfl rfl (Nat.le_of_ble_eq_true rfl) dL_act_3 (zrm_k 5 rfl (Nat.le_of_ble_eq_true rfl)) (Nat.le_of_ble_eq_true rfl) (fun r1 hr1 hf => ?_)
  refine r_irem C0 dL_act_6 hf (fun hf => ?_)
  refine r_nm hf (fun x2 hf => ?_)
  refine r_istore_n (L' := [(3, .int x2), (0, .ref p0), (1, .int p1), (2, .int p2)]) C0 dL_act_7 rfl (by decide) rfl ?_
  refine r_iload_n C0 dL_act_8 rfl 2 rfl ?_
  refine r_bipush (v := 16) C0 dL_act_9 (by decide) ?_
  refine r_irem' C0 dL_act_11 (by decide) ?_
  refine z_ite hf (fun hx hf => ?_) (fun hx0 hf => ?_)
  · refine r_tsIn (off := 76) C0 88 dL_act_12 (by rw [hx]; decide) (by rw [hx]; decide) (by rw [hx]; decide) (by decide) ?_
    refine r_aload_n C0 dL_act_88 rfl 1 rfl ?_
    refine r_iload_n C0 dL_act_89 rfl 0 rfl ?_
    refine r_iconst (v := 1) C0 dL_act_90 (by decide) ?_
    refine r_iload_n C0 dL_act_91 rfl 3 rfl ?_
    refine r_iconst (v := 4) C0 dL_act_92 (by decide) ?_
    refine r_idiv' C0 dL_act_93 (by decide) ?_
    refine r_sipush (v := 140) C0 dL_act_94 (by decide) ?_
    refine r_irem' C0 dL_act_97 (by decide) ?_
    refine r_iadd C0 dL_act_98 ?_
    refine r_callWw C0 (st := []) (kc1 := 4) [.ref p0, .int x2, .int ((1 : Int32) + ((p2 / (4 : Int32)) - (p2 / (4 : Int32)) / (140 : Int32) * (140 : Int32)))] hf vs_166 (fun hl r5 hr5 => c_L_tryTake hl F p0 x2 ((1 : Int32) + ((p2 / (4 : Int32)) - (p2 / (4 : Int32)) / (140 : Int32) * (140 : Int32))) hk_p0 M r5 hr5) rfl rfl (Nat.le_of_ble_eq_true rfl) dL_act_99 (zrm_k 5 rfl (Nat.le_of_ble_eq_true rfl)) (Nat.le_of_ble_eq_true rfl) (fun r5 hr5 hf => ?_)
    obtain rfl := Option.some.inj hf
    refine r_widen (k1 := 5) (s1 := 30) (Nat.le_of_ble_eq_true rfl) (Nat.le_of_ble_eq_true rfl) ?_
    exact rX_iret C0 rfl dL_act_102
  refine z_ite hf (fun hx hf => ?_) (fun hx1 hf => ?_)
  · refine r_tsIn (off := 76) C0 88 dL_act_12 (by rw [hx]; decide) (by rw [hx]; decide) (by rw [hx]; decide) (by decide) ?_
    refine r_aload_n C0 dL_act_88 rfl 1 rfl ?_
    refine r_iload_n C0 dL_act_89 rfl 0 rfl ?_
    refine r_iconst (v := 1) C0 dL_act_90 (by decide) ?_
    refine r_iload_n C0 dL_act_91 rfl 3 rfl ?_
    refine r_iconst (v := 4) C0 dL_act_92 (by decide) ?_
    refine r_idiv' C0 dL_act_93 (by decide) ?_
    refine r_sipush (v := 140) C0 dL_act_94 (by decide) ?_
    refine r_irem' C0 dL_act_97 (by decide) ?_
    refine r_iadd C0 dL_act_98 ?_
    refine r_callWw C0 (st := []) (kc1 := 4) [.ref p0, .int x2, .int ((1 : Int32) + ((p2 / (4 : Int32)) - (p2 / (4 : Int32)) / (140 : Int32) * (140 : Int32)))] hf vs_166 (fun hl r6 hr6 => c_L_tryTake hl F p0 x2 ((1 : Int32) + ((p2 / (4 : Int32)) - (p2 / (4 : Int32)) / (140 : Int32) * (140 : Int32))) hk_p0 M r6 hr6) rfl rfl (Nat.le_of_ble_eq_true rfl) dL_act_99 (zrm_k 5 rfl (Nat.le_of_ble_eq_true rfl)) (Nat.le_of_ble_eq_true rfl) (fun r6 hr6 hf => ?_)
    obtain rfl := Option.some.inj hf
    refine r_widen (k1 := 5) (s1 := 30) (Nat.le_of_ble_eq_true rfl) (Nat.le_of_ble_eq_true rfl) ?_
    exact rX_iret C0 rfl dL_act_102
  refine z_ite hf (fun hx hf => ?_) (fun hx2 hf => ?_)
  · refine r_tsIn (off := 91) C0 103 dL_act_12 (by rw [hx]; decide) (by rw [hx]; decide) (by rw [hx]; decide) (by decide) ?_
    refine r_aload_n C0 dL_act_103 rfl 1 rfl ?_
    refine r_iload_n C0 dL_act_104 rfl 0 rfl ?_
    refine r_callWw C0 (st := []) (kc1 := 3) [.ref p0, .int x2] hf vs_167 (fun hl r7 hr7 => c_L_trySend hl F p0 x2 hk_p0 M r7 hr7) rfl rfl (Nat.le_of_ble_eq_true rfl) dL_act_105 (zrm_k 5 rfl (Nat.le_of_ble_eq_true rfl)) (Nat.le_of_ble_eq_true rfl) (fun r7 hr7 hf => ?_)
    obtain rfl := Option.some.inj hf
    refine r_widen (k1 := 5) (s1 := 30) (Nat.le_of_ble_eq_true rfl) (Nat.le_of_ble_eq_true rfl) ?_
    exact rX_iret C0 rfl dL_act_108
  refine z_ite hf (fun hx hf => ?_) (fun hx3 hf => ?_)
  · refine r_tsIn (off := 91) C0 103 dL_act_12 (by rw [hx]; decide) (by rw [hx]; decide) (by rw [hx]; decide) (by decide) ?_
    refine r_aload_n C0 dL_act_103 rfl 1 rfl ?_
    refine r_iload_n C0 dL_act_104 rfl 0 rfl ?_
    refine r_callWw C0 (st := []) (kc1 := 3) [.ref p0, .int x2] hf vs_167 (fun hl r8 hr8 => c_L_trySend hl F p0 x2 hk_p0 M r8 hr8) rfl rfl (Nat.le_of_ble_eq_true rfl) dL_act_105 (zrm_k 5 rfl (Nat.le_of_ble_eq_true rfl)) (Nat.le_of_ble_eq_true rfl) (fun r8 hr8 hf => ?_)
    obtain rfl := Option.some.inj hf
    refine r_widen (k1 := 5) (s1 := 30) (Nat.le_of_ble_eq_true rfl) (Nat.le_of_ble_eq_true rfl) ?_
    exact rX_iret C0 rfl dL_act_108
  refine z_ite hf (fun hx hf => ?_) (fun hx4 hf => ?_)
  · refine r_tsIn (off := 91) C0 103 dL_act_12 (by rw [hx]; decide) (by rw [hx]; decide) (by rw [hx]; decide) (by decide) ?_
    refine r_aload_n C0 dL_act_103 rfl 1 rfl ?_
    refine r_iload_n C0 dL_act_104 rfl 0 rfl ?_
    refine r_callWw C0 (st := []) (kc1 := 3) [.ref p0, .int x2] hf vs_167 (fun hl r9 hr9 => c_L_trySend hl F p0 x2 hk_p0 M r9 hr9) rfl rfl (Nat.le_of_ble_eq_true rfl) dL_act_105 (zrm_k 5 rfl (Nat.le_of_ble_eq_true rfl)) (Nat.le_of_ble_eq_true rfl) (fun r9 hr9 hf => ?_)
    obtain rfl := Option.some.inj hf
    refine r_widen (k1 := 5) (s1 := 30) (Nat.le_of_ble_eq_true rfl) (Nat.le_of_ble_eq_true rfl) ?_
    exact rX_iret C0 rfl dL_act_108
  refine z_ite hf (fun hx hf => ?_) (fun hx5 hf => ?_)
  · refine r_tsIn (off := 97) C0 109 dL_act_12 (by rw [hx]; decide) (by rw [hx]; decide) (by rw [hx]; decide) (by decide) ?_
    refine r_aload_n C0 dL_act_109 rfl 1 rfl ?_
    refine r_iload_n C0 dL_act_110 rfl 0 rfl ?_
    refine r_callWw C0 (st := []) (kc1 := 3) [.ref p0, .int x2] hf vs_168 (fun hl r10 hr10 => c_L_tryRecall hl F p0 x2 hk_p0 M r10 hr10) rfl rfl (Nat.le_of_ble_eq_true rfl) dL_act_111 (zrm_k 5 rfl (Nat.le_of_ble_eq_true rfl)) (Nat.le_of_ble_eq_true rfl) (fun r10 hr10 hf => ?_)
    obtain rfl := Option.some.inj hf
    refine r_widen (k1 := 5) (s1 := 30) (Nat.le_of_ble_eq_true rfl) (Nat.le_of_ble_eq_true rfl) ?_
    exact rX_iret C0 rfl dL_act_114
  refine z_ite hf (fun hx hf => ?_) (fun hx6 hf => ?_)
  · refine r_tsIn (off := 103) C0 115 dL_act_12 (by rw [hx]; decide) (by rw [hx]; decide) (by rw [hx]; decide) (by decide) ?_
    refine r_aload_n C0 dL_act_115 rfl 1 rfl ?_
    refine r_iload_n C0 dL_act_116 rfl 3 rfl ?_
    refine r_aload_n C0 dL_act_117 rfl 1 rfl ?_
    refine r_iconst (v := 0) C0 dL_act_118 (by decide) ?_
    refine r_callWp C0 (st := [.int p2, .ref p0]) (kc1 := 2) [.ref p0, .int (0 : Int32)] hf vs_159 (fun hl r11 hr11 => c_L_tryAbout hl F p0 (0 : Int32) hk_p0 M r11 hr11) rfl rfl (Nat.le_of_ble_eq_true rfl) dL_act_119 (zrm_k 5 rfl (Nat.le_of_ble_eq_true rfl)) (Nat.le_of_ble_eq_true rfl) (fun r11 hr11 hf => ?_)
    refine r_irem C0 dL_act_122 hf (fun hf => ?_)
    refine r_iconst (v := 1) C0 dL_act_123 (by decide) ?_
    refine r_iload_n C0 dL_act_124 rfl 3 rfl ?_
    refine r_bipush (v := 16) C0 dL_act_125 (by decide) ?_
    refine r_idiv' C0 dL_act_127 (by decide) ?_
    refine r_bipush (v := 99) C0 dL_act_128 (by decide) ?_
    refine r_irem' C0 dL_act_130 (by decide) ?_
    refine r_iadd C0 dL_act_131 ?_
    refine r_callWw C0 (st := []) (kc1 := 5) [.ref p0, .int (p2 - p2 / r11 * r11), .int ((1 : Int32) + ((p2 / (16 : Int32)) - (p2 / (16 : Int32)) / (99 : Int32) * (99 : Int32)))] hf vs_169 (fun hl r12 hr12 => c_L_tryExtend hl F p0 (p2 - p2 / r11 * r11) ((1 : Int32) + ((p2 / (16 : Int32)) - (p2 / (16 : Int32)) / (99 : Int32) * (99 : Int32))) hk_p0 M r12 hr12) rfl rfl (Nat.le_of_ble_eq_true rfl) dL_act_132 (zrm_k 5 rfl (Nat.le_of_ble_eq_true rfl)) (Nat.le_of_ble_eq_true rfl) (fun r12 hr12 hf => ?_)
    obtain rfl := Option.some.inj hf
    refine r_widen (k1 := 5) (s1 := 30) (Nat.le_of_ble_eq_true rfl) (Nat.le_of_ble_eq_true rfl) ?_
    exact rX_iret C0 rfl dL_act_135
  refine z_ite hf (fun hx hf => ?_) (fun hx7 hf => ?_)
  · refine r_tsIn (off := 124) C0 136 dL_act_12 (by rw [hx]; decide) (by rw [hx]; decide) (by rw [hx]; decide) (by decide) ?_
    refine r_aload_n C0 dL_act_136 rfl 1 rfl ?_
    refine r_iconst (v := 1) C0 dL_act_137 (by decide) ?_
    refine r_iload_n C0 dL_act_138 rfl 3 rfl ?_
    refine r_sipush (v := 999) C0 dL_act_139 (by decide) ?_
    refine r_irem' C0 dL_act_142 (by decide) ?_
    refine r_iadd C0 dL_act_143 ?_
    refine r_callWw C0 (st := []) (kc1 := 3) [.ref p0, .int ((1 : Int32) + (p2 - p2 / (999 : Int32) * (999 : Int32)))] hf vs_170 (fun hl r13 hr13 => c_L_tryBuy hl F p0 ((1 : Int32) + (p2 - p2 / (999 : Int32) * (999 : Int32))) hk_p0 M r13 hr13) rfl rfl (Nat.le_of_ble_eq_true rfl) dL_act_144 (zrm_k 5 rfl (Nat.le_of_ble_eq_true rfl)) (Nat.le_of_ble_eq_true rfl) (fun r13 hr13 hf => ?_)
    obtain rfl := Option.some.inj hf
    refine r_widen (k1 := 5) (s1 := 30) (Nat.le_of_ble_eq_true rfl) (Nat.le_of_ble_eq_true rfl) ?_
    exact rX_iret C0 rfl dL_act_147
  refine z_ite hf (fun hx hf => ?_) (fun hx8 hf => ?_)
  · refine r_tsIn (off := 136) C0 148 dL_act_12 (by rw [hx]; decide) (by rw [hx]; decide) (by rw [hx]; decide) (by decide) ?_
    refine r_aload_n C0 dL_act_148 rfl 1 rfl ?_
    refine r_iload_n C0 dL_act_149 rfl 3 rfl ?_
    refine r_bipush (v := 9) C0 dL_act_150 (by decide) ?_
    refine r_irem' C0 dL_act_152 (by decide) ?_
    refine r_iload_n C0 dL_act_153 rfl 3 rfl ?_
    refine r_bipush (v := 16) C0 dL_act_154 (by decide) ?_
    refine r_idiv' C0 dL_act_156 (by decide) ?_
    refine r_bipush (v := 10) C0 dL_act_157 (by decide) ?_
    refine r_irem' C0 dL_act_159 (by decide) ?_
    refine r_callWw C0 (st := []) (kc1 := 3) [.ref p0, .int (p2 - p2 / (9 : Int32) * (9 : Int32)), .int ((p2 / (16 : Int32)) - (p2 / (16 : Int32)) / (10 : Int32) * (10 : Int32))] hf vs_171 (fun hl r14 hr14 => c_L_trySetWaves hl F p0 (p2 - p2 / (9 : Int32) * (9 : Int32)) ((p2 / (16 : Int32)) - (p2 / (16 : Int32)) / (10 : Int32) * (10 : Int32)) hk_p0 M r14 hr14) rfl rfl (Nat.le_of_ble_eq_true rfl) dL_act_160 (zrm_k 5 rfl (Nat.le_of_ble_eq_true rfl)) (Nat.le_of_ble_eq_true rfl) (fun r14 hr14 hf => ?_)
    obtain rfl := Option.some.inj hf
    refine r_widen (k1 := 5) (s1 := 30) (Nat.le_of_ble_eq_true rfl) (Nat.le_of_ble_eq_true rfl) ?_
    exact rX_iret C0 rfl dL_act_163
  refine z_ite hf (fun hx hf => ?_) (fun hx9 hf => ?_)
  · refine r_tsIn (off := 152) C0 164 dL_act_12 (by rw [hx]; decide) (by rw [hx]; decide) (by rw [hx]; decide) (by decide) ?_
    refine r_aload_n C0 dL_act_164 rfl 1 rfl ?_
    refine r_iconst (v := 1) C0 dL_act_165 (by decide) ?_
    refine r_iload_n C0 dL_act_166 rfl 3 rfl ?_
    refine r_bipush (v := 15) C0 dL_act_167 (by decide) ?_
    refine r_irem' C0 dL_act_169 (by decide) ?_
    refine r_iadd C0 dL_act_170 ?_
    refine r_callWw C0 (st := []) (kc1 := 2) [.ref p0, .int ((1 : Int32) + (p2 - p2 / (15 : Int32) * (15 : Int32)))] hf vs_172 (fun hl r15 hr15 => c_L_tryPass hl F p0 ((1 : Int32) + (p2 - p2 / (15 : Int32) * (15 : Int32))) hk_p0 M r15 hr15) rfl rfl (Nat.le_of_ble_eq_true rfl) dL_act_171 (zrm_k 5 rfl (Nat.le_of_ble_eq_true rfl)) (Nat.le_of_ble_eq_true rfl) (fun r15 hr15 hf => ?_)
    obtain rfl := Option.some.inj hf
    refine r_widen (k1 := 5) (s1 := 30) (Nat.le_of_ble_eq_true rfl) (Nat.le_of_ble_eq_true rfl) ?_
    exact rX_iret C0 rfl dL_act_174
  refine z_ite hf (fun hx hf => ?_) (fun hx10 hf => ?_)
  · refine r_tsIn (off := 152) C0 164 dL_act_12 (by rw [hx]; decide) (by rw [hx]; decide) (by rw [hx]; decide) (by decide) ?_
    refine r_aload_n C0 dL_act_164 rfl 1 rfl ?_
    refine r_iconst (v := 1) C0 dL_act_165 (by decide) ?_
    refine r_iload_n C0 dL_act_166 rfl 3 rfl ?_
    refine r_bipush (v := 15) C0 dL_act_167 (by decide) ?_
    refine r_irem' C0 dL_act_169 (by decide) ?_
    refine r_iadd C0 dL_act_170 ?_
    refine r_callWw C0 (st := []) (kc1 := 2) [.ref p0, .int ((1 : Int32) + (p2 - p2 / (15 : Int32) * (15 : Int32)))] hf vs_172 (fun hl r16 hr16 => c_L_tryPass hl F p0 ((1 : Int32) + (p2 - p2 / (15 : Int32) * (15 : Int32))) hk_p0 M r16 hr16) rfl rfl (Nat.le_of_ble_eq_true rfl) dL_act_171 (zrm_k 5 rfl (Nat.le_of_ble_eq_true rfl)) (Nat.le_of_ble_eq_true rfl) (fun r16 hr16 hf => ?_)
    obtain rfl := Option.some.inj hf
    refine r_widen (k1 := 5) (s1 := 30) (Nat.le_of_ble_eq_true rfl) (Nat.le_of_ble_eq_true rfl) ?_
    exact rX_iret C0 rfl dL_act_174
  refine z_ite hf (fun hx hf => ?_) (fun hx11 hf => ?_)
  · refine r_tsIn (off := 152) C0 164 dL_act_12 (by rw [hx]; decide) (by rw [hx]; decide) (by rw [hx]; decide) (by decide) ?_
    refine r_aload_n C0 dL_act_164 rfl 1 rfl ?_
    refine r_iconst (v := 1) C0 dL_act_165 (by decide) ?_
    refine r_iload_n C0 dL_act_166 rfl 3 rfl ?_
    refine r_bipush (v := 15) C0 dL_act_167 (by decide) ?_
    refine r_irem' C0 dL_act_169 (by decide) ?_
    refine r_iadd C0 dL_act_170 ?_
    refine r_callWw C0 (st := []) (kc1 := 2) [.ref p0, .int ((1 : Int32) + (p2 - p2 / (15 : Int32) * (15 : Int32)))] hf vs_172 (fun hl r17 hr17 => c_L_tryPass hl F p0 ((1 : Int32) + (p2 - p2 / (15 : Int32) * (15 : Int32))) hk_p0 M r17 hr17) rfl rfl (Nat.le_of_ble_eq_true rfl) dL_act_171 (zrm_k 5 rfl (Nat.le_of_ble_eq_true rfl)) (Nat.le_of_ble_eq_true rfl) (fun r17 hr17 hf => ?_)
    obtain rfl := Option.some.inj hf
    refine r_widen (k1 := 5) (s1 := 30) (Nat.le_of_ble_eq_true rfl) (Nat.le_of_ble_eq_true rfl) ?_
    exact rX_iret C0 rfl dL_act_174
  refine z_ite hf (fun hx hf => ?_) (fun hx12 hf => ?_)
  · refine r_tsIn (off := 152) C0 164 dL_act_12 (by rw [hx]; decide) (by rw [hx]; decide) (by rw [hx]; decide) (by decide) ?_
    refine r_aload_n C0 dL_act_164 rfl 1 rfl ?_
    refine r_iconst (v := 1) C0 dL_act_165 (by decide) ?_
    refine r_iload_n C0 dL_act_166 rfl 3 rfl ?_
    refine r_bipush (v := 15) C0 dL_act_167 (by decide) ?_
    refine r_irem' C0 dL_act_169 (by decide) ?_
    refine r_iadd C0 dL_act_170 ?_
    refine r_callWw C0 (st := []) (kc1 := 2) [.ref p0, .int ((1 : Int32) + (p2 - p2 / (15 : Int32) * (15 : Int32)))] hf vs_172 (fun hl r18 hr18 => c_L_tryPass hl F p0 ((1 : Int32) + (p2 - p2 / (15 : Int32) * (15 : Int32))) hk_p0 M r18 hr18) rfl rfl (Nat.le_of_ble_eq_true rfl) dL_act_171 (zrm_k 5 rfl (Nat.le_of_ble_eq_true rfl)) (Nat.le_of_ble_eq_true rfl) (fun r18 hr18 hf => ?_)
    obtain rfl := Option.some.inj hf
    refine r_widen (k1 := 5) (s1 := 30) (Nat.le_of_ble_eq_true rfl) (Nat.le_of_ble_eq_true rfl) ?_
    exact rX_iret C0 rfl dL_act_174
  refine z_ite hf (fun hx hf => ?_) (fun hx13 hf => ?_)
  · refine r_tsIn (off := 152) C0 164 dL_act_12 (by rw [hx]; decide) (by rw [hx]; decide) (by rw [hx]; decide) (by decide) ?_
    refine r_aload_n C0 dL_act_164 rfl 1 rfl ?_
    refine r_iconst (v := 1) C0 dL_act_165 (by decide) ?_
    refine r_iload_n C0 dL_act_166 rfl 3 rfl ?_
    refine r_bipush (v := 15) C0 dL_act_167 (by decide) ?_
    refine r_irem' C0 dL_act_169 (by decide) ?_
    refine r_iadd C0 dL_act_170 ?_
    refine r_callWw C0 (st := []) (kc1 := 2) [.ref p0, .int ((1 : Int32) + (p2 - p2 / (15 : Int32) * (15 : Int32)))] hf vs_172 (fun hl r19 hr19 => c_L_tryPass hl F p0 ((1 : Int32) + (p2 - p2 / (15 : Int32) * (15 : Int32))) hk_p0 M r19 hr19) rfl rfl (Nat.le_of_ble_eq_true rfl) dL_act_171 (zrm_k 5 rfl (Nat.le_of_ble_eq_true rfl)) (Nat.le_of_ble_eq_true rfl) (fun r19 hr19 hf => ?_)
    obtain rfl := Option.some.inj hf
    refine r_widen (k1 := 5) (s1 := 30) (Nat.le_of_ble_eq_true rfl) (Nat.le_of_ble_eq_true rfl) ?_
    exact rX_iret C0 rfl dL_act_174
  refine z_ite hf (fun hx hf => ?_) (fun hx14 hf => ?_)
  · refine r_tsIn (off := 163) C0 175 dL_act_12 (by rw [hx]; decide) (by rw [hx]; decide) (by rw [hx]; decide) (by decide) ?_
    refine r_aload_n C0 dL_act_175 rfl 1 rfl ?_
    refine r_callWw C0 (st := []) (kc1 := 2) [.ref p0] hf vs_162 (fun hl r20 hr20 => c_L_tryUndo hl F p0 hk_p0 M r20 hr20) rfl rfl (Nat.le_of_ble_eq_true rfl) dL_act_176 (zrm_k 5 rfl (Nat.le_of_ble_eq_true rfl)) (Nat.le_of_ble_eq_true rfl) (fun r20 hr20 hf => ?_)
    obtain rfl := Option.some.inj hf
    refine r_widen (k1 := 5) (s1 := 30) (Nat.le_of_ble_eq_true rfl) (Nat.le_of_ble_eq_true rfl) ?_
    exact rX_iret C0 rfl dL_act_179
  have hy0 := z_ne (a := 0) hx0 (by decide)
  have hy1 := z_ne (a := 1) hx1 (by decide)
  have hy2 := z_ne (a := 2) hx2 (by decide)
  have hy3 := z_ne (a := 3) hx3 (by decide)
  have hy4 := z_ne (a := 4) hx4 (by decide)
  have hy5 := z_ne (a := 5) hx5 (by decide)
  have hy6 := z_ne (a := 6) hx6 (by decide)
  have hy7 := z_ne (a := 7) hx7 (by decide)
  have hy8 := z_ne (a := 8) hx8 (by decide)
  have hy9 := z_ne (a := 9) hx9 (by decide)
  have hy10 := z_ne (a := 10) hx10 (by decide)
  have hy11 := z_ne (a := 11) hx11 (by decide)
  have hy12 := z_ne (a := 12) hx12 (by decide)
  have hy13 := z_ne (a := 13) hx13 (by decide)
  have hy14 := z_ne (a := 14) hx14 (by decide)
  refine r_tsOut C0 180 dL_act_12 (by omega) (by decide) ?_
  refine r_iload_n C0 dL_act_180 rfl 3 rfl ?_
  refine r_iconst (v := 2) C0 dL_act_181 (by decide) ?_
  refine r_irem' C0 dL_act_182 (by decide) ?_
  refine r_if_ne C0 194 dL_act_183 (by decide) hf (fun hf => ?_) (fun hf => ?_)
  · refine r_aload_n C0 dL_act_194 rfl 1 rfl ?_
    refine r_iconst (v := 1) C0 dL_act_195 (by decide) ?_
    refine r_callWw C0 (st := []) (kc1 := 3) [.ref p0, .int (1 : Int32)] hf vs_163 (fun hl r3 hr3 => c_L_tryRestore hl F p0 (1 : Int32) hk_p0 M r3 hr3) rfl rfl (Nat.le_of_ble_eq_true rfl) dL_act_196 (zrm_k 5 rfl (Nat.le_of_ble_eq_true rfl)) (Nat.le_of_ble_eq_true rfl) (fun r3 hr3 hf => ?_)
    obtain rfl := Option.some.inj hf
    refine r_widen (k1 := 5) (s1 := 30) (Nat.le_of_ble_eq_true rfl) (Nat.le_of_ble_eq_true rfl) ?_
    exact rX_iret C0 rfl dL_act_199
  · refine r_aload_n C0 dL_act_186 rfl 1 rfl ?_
    refine r_iconst (v := 1) C0 dL_act_187 (by decide) ?_
    refine r_callWw C0 (st := []) (kc1 := 2) [.ref p0, .int (1 : Int32)] hf vs_181 (fun hl r4 hr4 => c_L_trySave hl F p0 (1 : Int32) hk_p0 M r4 hr4) rfl rfl (Nat.le_of_ble_eq_true rfl) dL_act_188 (zrm_k 5 rfl (Nat.le_of_ble_eq_true rfl)) (Nat.le_of_ble_eq_true rfl) (fun r4 hr4 hf => ?_)
    refine r_goto C0 199 dL_act_191 (by decide) ?_
    obtain rfl := Option.some.inj hf
    refine r_widen (k1 := 5) (s1 := 30) (Nat.le_of_ble_eq_true rfl) (Nat.le_of_ble_eq_true rfl) ?_
    exact rX_iret C0 rfl dL_act_199
set_option maxHeartbeats 4000000 in
set_option maxRecDepth 100000 in
theorem g_L_law_236 {Γ : zCx} {Q : State → Prop} {E : zEn} {S : zSk} {X : zMl} {ret : Option FieldType} {hh : List (Nat × Nat × Nat × Nat)} (C0 : zCt Γ E R_law cL_law 9 ret hh room_1) (F : Nat) (b : Nat) (len : Nat) (xs : Nat → Int32) (p1 : Nat) (p2 : Nat) (k_86 : Int32 → Int32 → zMi → Option (Int32)) (k_141 : Int32 → Int32 → Int32 → zMi → Option (Int32)) (TK_86 : Nat) (TK_141 : Nat) (hX : va_X b len xs (gS Γ) (gS Γ).heap) (hbl : b < (gS Γ).heap.size) (hbA : ¬ E.2.2 ≤ b) (hk_p1 : K_X10 S p1) (hk_p2 : K_X10 S p2) (hk_k_86 : ∀ (v3_ : Int32) (v4_ : Int32) (M : zMi) , k_86 v3_ v4_ M = some (1 : Int32) → ∀ kc : Nat, kc + TK_86 ≤ 700000 → zG Γ Q E 9 kc (6 * kc) S ZT M X 86 [(0, .ref b), (1, .ref p1), (2, .ref p2), (3, .int v3_), (4, .int v4_)] []) (hk_k_141 : ∀ (v3_ : Int32) (v4_ : Int32) (v5_ : Int32) (M : zMi) , k_141 v3_ v4_ v5_ M = some (1 : Int32) → ∀ kc : Nat, kc + TK_141 ≤ 700000 → zG Γ Q E 9 kc (6 * kc) S ZT M X 141 [(0, .ref b), (1, .ref p1), (2, .ref p2), (3, .int v3_), (4, .int v4_), (5, .int v5_)] []) (hend : ∀ (kc : Nat) (M : zMi) (L : List (Nat × Value)), kc ≤ 700000 → zG Γ Q E 9 kc (6 * kc) S ZT M X 370 L [.int 1]) (v4 : Int32) (v5 : Int32) (v6 : Int32) (v7 : Int32) (s0 : Int32) (M : zMi) (hf : f_L_law_236 F len xs p1 p2 k_86 k_141 v4 v5 v6 v7 s0 M = some (1 : Int32)) (kc : Nat) (hkc : kc + (8878 + TK_141) ≤ 700000) : zG Γ Q E 9 kc (6 * kc) S ZT M X 236 [(0, .ref b), (1, .ref p1), (2, .ref p2), (4, .int v4), (5, .int v5), (6, .int v6), (7, .int v7)] [.int s0] := by
  unfold f_L_law_236 at hf
  refine r_istore_n (L' := [(3, .int s0), (0, .ref b), (1, .ref p1), (2, .ref p2), (4, .int v4), (5, .int v5), (6, .int v6), (7, .int v7)]) C0 dL_law_236 rfl (by decide) rfl ?_
  refine r_iload C0 dL_law_237 5 rfl ?_
  refine r_iconst (v := 4) C0 dL_law_239 (by decide) ?_
  refine r_irem' C0 dL_law_240 (by decide) ?_
  refine r_iconst (v := 3) C0 dL_law_241 (by decide) ?_
  refine r_icmp_ne C0 357 dL_law_242 (by decide) hf (fun hf => ?_) (fun hf => ?_)
  · refine r_iinc (j := 5) (v := (v5 + (1 : Int32))) (L' := [(5, .int (v5 + (1 : Int32))), (3, .int s0), (0, .ref b), (1, .ref p1), (2, .ref p2), (4, .int v4), (6, .int v6), (7, .int v7)]) C0 dL_law_357 rfl rfl (by decide) rfl ?_
    refine r_goto C0 141 dL_law_360 (by decide) ?_
    refine r_sub (L' := [(0, .ref b), (1, .ref p1), (2, .ref p2), (3, .int s0), (4, .int v4), (5, .int (v5 + (1 : Int32)))]) [2, 3, 4, 1, 5, 0] rfl ?_
    exact hk_k_141 s0 v4 (v5 + (1 : Int32)) M hf _ (by omega)
  · refine r_iload_n C0 dL_law_245 rfl 0 rfl ?_
    refine r_if_eq C0 357 dL_law_246 (by decide) hf (fun hf => ?_) (fun hf => ?_)
    · refine r_iinc (j := 5) (v := (v5 + (1 : Int32))) (L' := [(5, .int (v5 + (1 : Int32))), (3, .int s0), (0, .ref b), (1, .ref p1), (2, .ref p2), (4, .int v4), (6, .int v6), (7, .int v7)]) C0 dL_law_357 rfl rfl (by decide) rfl ?_
      refine r_goto C0 141 dL_law_360 (by decide) ?_
      refine r_sub (L' := [(0, .ref b), (1, .ref p1), (2, .ref p2), (3, .int s0), (4, .int v4), (5, .int (v5 + (1 : Int32)))]) [2, 3, 4, 1, 5, 0] rfl ?_
      exact hk_k_141 s0 v4 (v5 + (1 : Int32)) M hf _ (by omega)
    · refine r_aload_n C0 dL_law_249 rfl 2 rfl ?_
      refine r_iconst (v := 5) C0 dL_law_250 (by decide) ?_
      refine r_callWp C0 (st := []) (kc1 := kc + 1) [.ref p1, .int (5 : Int32)] hf vs_159 (fun hl r1 hr1 => c_L_tryAbout hl F p1 (5 : Int32) hk_p1 M r1 hr1) rfl rfl (Nat.le_of_ble_eq_true rfl) dL_law_251 (zrm_k 700000 rfl (by omega)) (by omega) (fun r1 hr1 hf => ?_)
      refine r_istore (L' := [(8, .int r1), (3, .int s0), (0, .ref b), (1, .ref p1), (2, .ref p2), (4, .int v4), (5, .int v5), (6, .int v6), (7, .int v7)]) C0 dL_law_254 (by decide) rfl ?_
      refine r_aload_n C0 dL_law_256 rfl 3 rfl ?_
      refine r_iload C0 dL_law_257 7 rfl ?_
      refine r_callAw C0 (st := []) (kc1 := kc + 50) [.ref p1, .int v6] hf vs_189 (fun hl r2 hr2 => c_L_scripts hl F p1 v6 hk_p1 M r2 hr2) rfl rfl (Nat.le_of_ble_eq_true rfl) dL_law_259 (zrm_k 700000 rfl (by omega)) (by omega) (fun r2 hr2 hf => ?_)
      refine r_if_eq C0 355 dL_law_262 (by decide) hf (fun hf => ?_) (fun hf => ?_)
      · refine r_iconst (v := 0) C0 dL_law_355 (by decide) ?_
        refine r_istore_n (L' := [(3, .int (0 : Int32)), (8, .int r1), (0, .ref b), (1, .ref p1), (2, .ref p2), (4, .int v4), (5, .int v5), (6, .int v6), (7, .int v7)]) C0 dL_law_356 rfl (by decide) rfl ?_
        refine r_iinc (j := 6) (v := (v5 + (1 : Int32))) (L' := [(5, .int (v5 + (1 : Int32))), (3, .int (0 : Int32)), (8, .int r1), (0, .ref b), (1, .ref p1), (2, .ref p2), (4, .int v4), (6, .int v6), (7, .int v7)]) C0 dL_law_357 rfl rfl (by decide) rfl ?_
        refine r_goto C0 141 dL_law_360 (by decide) ?_
        refine r_sub (L' := [(0, .ref b), (1, .ref p1), (2, .ref p2), (3, .int (0 : Int32)), (4, .int v4), (5, .int (v5 + (1 : Int32)))]) [3, 4, 5, 1, 6, 0] rfl ?_
        exact hk_k_141 (0 : Int32) v4 (v5 + (1 : Int32)) r2.2 hf _ (by omega)
      · refine r_aload_n C0 dL_law_265 rfl 4 rfl ?_
        refine r_iconst (v := 0) C0 dL_law_266 (by decide) ?_
        refine r_callWw C0 (st := []) (kc1 := kc + 51) [.ref p2, .int (0 : Int32)] hf vs_181 (fun hl r3 hr3 => c_L_trySave hl F p2 (0 : Int32) hk_p2 r2.2 r3 hr3) rfl rfl (Nat.le_of_ble_eq_true rfl) dL_law_267 (zrm_k 700000 rfl (by omega)) (by omega) (fun r3 hr3 hf => ?_)
        refine r_iload C0 dL_law_270 0 rfl ?_
        refine r_icmp_ne C0 355 dL_law_272 (by decide) hf (fun hf => ?_) (fun hf => ?_)
        · refine r_iconst (v := 0) C0 dL_law_355 (by decide) ?_
          refine r_istore_n (L' := [(3, .int (0 : Int32)), (8, .int r1), (0, .ref b), (1, .ref p1), (2, .ref p2), (4, .int v4), (5, .int v5), (6, .int v6), (7, .int v7)]) C0 dL_law_356 rfl (by decide) rfl ?_
          refine r_iinc (j := 6) (v := (v5 + (1 : Int32))) (L' := [(5, .int (v5 + (1 : Int32))), (3, .int (0 : Int32)), (8, .int r1), (0, .ref b), (1, .ref p1), (2, .ref p2), (4, .int v4), (6, .int v6), (7, .int v7)]) C0 dL_law_357 rfl rfl (by decide) rfl ?_
          refine r_goto C0 141 dL_law_360 (by decide) ?_
          refine r_sub (L' := [(0, .ref b), (1, .ref p1), (2, .ref p2), (3, .int (0 : Int32)), (4, .int v4), (5, .int (v5 + (1 : Int32)))]) [3, 4, 5, 1, 6, 0] rfl ?_
          exact hk_k_141 (0 : Int32) v4 (v5 + (1 : Int32)) r3.2 hf _ (by omega)
        · refine r_aload_n C0 dL_law_275 rfl 3 rfl ?_
          refine r_iconst (v := 0) C0 dL_law_276 (by decide) ?_
          refine r_callWw C0 (st := []) (kc1 := kc + 52) [.ref p1, .int (0 : Int32)] hf vs_181 (fun hl r4 hr4 => c_L_trySave hl F p1 (0 : Int32) hk_p1 r3.2 r4 hr4) rfl rfl (Nat.le_of_ble_eq_true rfl) dL_law_277 (zrm_k 700000 rfl (by omega)) (by omega) (fun r4 hr4 hf => ?_)
          refine r_iload C0 dL_law_280 0 rfl ?_
          refine r_icmp_ne C0 355 dL_law_282 (by decide) hf (fun hf => ?_) (fun hf => ?_)
          · refine r_iconst (v := 0) C0 dL_law_355 (by decide) ?_
            refine r_istore_n (L' := [(3, .int (0 : Int32)), (8, .int r1), (0, .ref b), (1, .ref p1), (2, .ref p2), (4, .int v4), (5, .int v5), (6, .int v6), (7, .int v7)]) C0 dL_law_356 rfl (by decide) rfl ?_
            refine r_iinc (j := 6) (v := (v5 + (1 : Int32))) (L' := [(5, .int (v5 + (1 : Int32))), (3, .int (0 : Int32)), (8, .int r1), (0, .ref b), (1, .ref p1), (2, .ref p2), (4, .int v4), (6, .int v6), (7, .int v7)]) C0 dL_law_357 rfl rfl (by decide) rfl ?_
            refine r_goto C0 141 dL_law_360 (by decide) ?_
            refine r_sub (L' := [(0, .ref b), (1, .ref p1), (2, .ref p2), (3, .int (0 : Int32)), (4, .int v4), (5, .int (v5 + (1 : Int32)))]) [3, 4, 5, 1, 6, 0] rfl ?_
            exact hk_k_141 (0 : Int32) v4 (v5 + (1 : Int32)) r4.2 hf _ (by omega)
          · refine r_aload_n C0 dL_law_285 rfl 3 rfl ?_
            refine r_iconst (v := 0) C0 dL_law_286 (by decide) ?_
            refine r_callWw C0 (st := []) (kc1 := kc + 54) [.ref p1, .int (0 : Int32)] hf vs_163 (fun hl r5 hr5 => c_L_tryRestore hl F p1 (0 : Int32) hk_p1 r4.2 r5 hr5) rfl rfl (Nat.le_of_ble_eq_true rfl) dL_law_287 (zrm_k 700000 rfl (by omega)) (by omega) (fun r5 hr5 hf => ?_)
            refine r_iload C0 dL_law_290 0 rfl ?_
            refine r_icmp_ne C0 355 dL_law_292 (by decide) hf (fun hf => ?_) (fun hf => ?_)
            · refine r_iconst (v := 0) C0 dL_law_355 (by decide) ?_
              refine r_istore_n (L' := [(3, .int (0 : Int32)), (8, .int r1), (0, .ref b), (1, .ref p1), (2, .ref p2), (4, .int v4), (5, .int v5), (6, .int v6), (7, .int v7)]) C0 dL_law_356 rfl (by decide) rfl ?_
              refine r_iinc (j := 6) (v := (v5 + (1 : Int32))) (L' := [(5, .int (v5 + (1 : Int32))), (3, .int (0 : Int32)), (8, .int r1), (0, .ref b), (1, .ref p1), (2, .ref p2), (4, .int v4), (6, .int v6), (7, .int v7)]) C0 dL_law_357 rfl rfl (by decide) rfl ?_
              refine r_goto C0 141 dL_law_360 (by decide) ?_
              refine r_sub (L' := [(0, .ref b), (1, .ref p1), (2, .ref p2), (3, .int (0 : Int32)), (4, .int v4), (5, .int (v5 + (1 : Int32)))]) [3, 4, 5, 1, 6, 0] rfl ?_
              exact hk_k_141 (0 : Int32) v4 (v5 + (1 : Int32)) r5.2 hf _ (by omega)
            · refine r_aload_n C0 dL_law_295 rfl 3 rfl ?_
              refine r_iload C0 dL_law_296 8 rfl ?_
              refine r_callAw C0 (st := []) (kc1 := kc + 864) [.ref p1, .int v7] hf vs_190 (fun hl r6 hr6 => c_L_hands hl F p1 v7 hk_p1 r5.2 r6 hr6) rfl rfl (Nat.le_of_ble_eq_true rfl) dL_law_298 (zrm_k 700000 rfl (by omega)) (by omega) (fun r6 hr6 hf => ?_)
              refine r_if_eq C0 355 dL_law_301 (by decide) hf (fun hf => ?_) (fun hf => ?_)
              · refine r_iconst (v := 0) C0 dL_law_355 (by decide) ?_
                refine r_istore_n (L' := [(3, .int (0 : Int32)), (8, .int r1), (0, .ref b), (1, .ref p1), (2, .ref p2), (4, .int v4), (5, .int v5), (6, .int v6), (7, .int v7)]) C0 dL_law_356 rfl (by decide) rfl ?_
                refine r_iinc (j := 6) (v := (v5 + (1 : Int32))) (L' := [(5, .int (v5 + (1 : Int32))), (3, .int (0 : Int32)), (8, .int r1), (0, .ref b), (1, .ref p1), (2, .ref p2), (4, .int v4), (6, .int v6), (7, .int v7)]) C0 dL_law_357 rfl rfl (by decide) rfl ?_
                refine r_goto C0 141 dL_law_360 (by decide) ?_
                refine r_sub (L' := [(0, .ref b), (1, .ref p1), (2, .ref p2), (3, .int (0 : Int32)), (4, .int v4), (5, .int (v5 + (1 : Int32)))]) [3, 4, 5, 1, 6, 0] rfl ?_
                exact hk_k_141 (0 : Int32) v4 (v5 + (1 : Int32)) r6.2 hf _ (by omega)
              · refine r_aload_n C0 dL_law_304 rfl 3 rfl ?_
                refine r_iload C0 dL_law_305 8 rfl ?_
                refine r_callAw C0 (st := []) (kc1 := kc + 8499) [.ref p1, .int v7] hf vs_191 (fun hl r7 hr7 => c_L_days hl F p1 v7 hk_p1 r6.2 r7 hr7) rfl rfl (Nat.le_of_ble_eq_true rfl) dL_law_307 (zrm_k 700000 rfl (by omega)) (by omega) (fun r7 hr7 hf => ?_)
                refine r_if_eq C0 355 dL_law_310 (by decide) hf (fun hf => ?_) (fun hf => ?_)
                · refine r_iconst (v := 0) C0 dL_law_355 (by decide) ?_
                  refine r_istore_n (L' := [(3, .int (0 : Int32)), (8, .int r1), (0, .ref b), (1, .ref p1), (2, .ref p2), (4, .int v4), (5, .int v5), (6, .int v6), (7, .int v7)]) C0 dL_law_356 rfl (by decide) rfl ?_
                  refine r_iinc (j := 6) (v := (v5 + (1 : Int32))) (L' := [(5, .int (v5 + (1 : Int32))), (3, .int (0 : Int32)), (8, .int r1), (0, .ref b), (1, .ref p1), (2, .ref p2), (4, .int v4), (6, .int v6), (7, .int v7)]) C0 dL_law_357 rfl rfl (by decide) rfl ?_
                  refine r_goto C0 141 dL_law_360 (by decide) ?_
                  refine r_sub (L' := [(0, .ref b), (1, .ref p1), (2, .ref p2), (3, .int (0 : Int32)), (4, .int v4), (5, .int (v5 + (1 : Int32)))]) [3, 4, 5, 1, 6, 0] rfl ?_
                  exact hk_k_141 (0 : Int32) v4 (v5 + (1 : Int32)) r7.2 hf _ (by omega)
                · refine r_aload_n C0 dL_law_313 rfl 3 rfl ?_
                  refine r_iconst (v := 0) C0 dL_law_314 (by decide) ?_
                  refine r_callWw C0 (st := []) (kc1 := kc + 8501) [.ref p1, .int (0 : Int32)] hf vs_163 (fun hl r8 hr8 => c_L_tryRestore hl F p1 (0 : Int32) hk_p1 r7.2 r8 hr8) rfl rfl (Nat.le_of_ble_eq_true rfl) dL_law_315 (zrm_k 700000 rfl (by omega)) (by omega) (fun r8 hr8 hf => ?_)
                  refine r_iload C0 dL_law_318 0 rfl ?_
                  refine r_icmp_ne C0 355 dL_law_320 (by decide) hf (fun hf => ?_) (fun hf => ?_)
                  · refine r_iconst (v := 0) C0 dL_law_355 (by decide) ?_
                    refine r_istore_n (L' := [(3, .int (0 : Int32)), (8, .int r1), (0, .ref b), (1, .ref p1), (2, .ref p2), (4, .int v4), (5, .int v5), (6, .int v6), (7, .int v7)]) C0 dL_law_356 rfl (by decide) rfl ?_
                    refine r_iinc (j := 6) (v := (v5 + (1 : Int32))) (L' := [(5, .int (v5 + (1 : Int32))), (3, .int (0 : Int32)), (8, .int r1), (0, .ref b), (1, .ref p1), (2, .ref p2), (4, .int v4), (6, .int v6), (7, .int v7)]) C0 dL_law_357 rfl rfl (by decide) rfl ?_
                    refine r_goto C0 141 dL_law_360 (by decide) ?_
                    refine r_sub (L' := [(0, .ref b), (1, .ref p1), (2, .ref p2), (3, .int (0 : Int32)), (4, .int v4), (5, .int (v5 + (1 : Int32)))]) [3, 4, 5, 1, 6, 0] rfl ?_
                    exact hk_k_141 (0 : Int32) v4 (v5 + (1 : Int32)) r8.2 hf _ (by omega)
                  · refine r_aload_n C0 dL_law_323 rfl 4 rfl ?_
                    refine r_iconst (v := 0) C0 dL_law_324 (by decide) ?_
                    refine r_callWw C0 (st := []) (kc1 := kc + 8503) [.ref p2, .int (0 : Int32)] hf vs_163 (fun hl r9 hr9 => c_L_tryRestore hl F p2 (0 : Int32) hk_p2 r8.2 r9 hr9) rfl rfl (Nat.le_of_ble_eq_true rfl) dL_law_325 (zrm_k 700000 rfl (by omega)) (by omega) (fun r9 hr9 hf => ?_)
                    refine r_iload C0 dL_law_328 0 rfl ?_
                    refine r_icmp_ne C0 355 dL_law_330 (by decide) hf (fun hf => ?_) (fun hf => ?_)
                    · refine r_iconst (v := 0) C0 dL_law_355 (by decide) ?_
                      refine r_istore_n (L' := [(3, .int (0 : Int32)), (8, .int r1), (0, .ref b), (1, .ref p1), (2, .ref p2), (4, .int v4), (5, .int v5), (6, .int v6), (7, .int v7)]) C0 dL_law_356 rfl (by decide) rfl ?_
                      refine r_iinc (j := 6) (v := (v5 + (1 : Int32))) (L' := [(5, .int (v5 + (1 : Int32))), (3, .int (0 : Int32)), (8, .int r1), (0, .ref b), (1, .ref p1), (2, .ref p2), (4, .int v4), (6, .int v6), (7, .int v7)]) C0 dL_law_357 rfl rfl (by decide) rfl ?_
                      refine r_goto C0 141 dL_law_360 (by decide) ?_
                      refine r_sub (L' := [(0, .ref b), (1, .ref p1), (2, .ref p2), (3, .int (0 : Int32)), (4, .int v4), (5, .int (v5 + (1 : Int32)))]) [3, 4, 5, 1, 6, 0] rfl ?_
                      exact hk_k_141 (0 : Int32) v4 (v5 + (1 : Int32)) r9.2 hf _ (by omega)
                    · refine r_aload_n C0 dL_law_333 rfl 3 rfl ?_
                      refine r_callWw C0 (st := []) (kc1 := kc + 8504) [.ref p1] hf vs_162 (fun hl r10 hr10 => c_L_tryUndo hl F p1 hk_p1 r9.2 r10 hr10) rfl rfl (Nat.le_of_ble_eq_true rfl) dL_law_334 (zrm_k 700000 rfl (by omega)) (by omega) (fun r10 hr10 hf => ?_)
                      refine r_sipush (v := -1003) C0 dL_law_337 (by decide) ?_
                      refine r_icmp_ne C0 355 dL_law_340 (by decide) hf (fun hf => ?_) (fun hf => ?_)
                      · refine r_iconst (v := 0) C0 dL_law_355 (by decide) ?_
                        refine r_istore_n (L' := [(3, .int (0 : Int32)), (8, .int r1), (0, .ref b), (1, .ref p1), (2, .ref p2), (4, .int v4), (5, .int v5), (6, .int v6), (7, .int v7)]) C0 dL_law_356 rfl (by decide) rfl ?_
                        refine r_iinc (j := 6) (v := (v5 + (1 : Int32))) (L' := [(5, .int (v5 + (1 : Int32))), (3, .int (0 : Int32)), (8, .int r1), (0, .ref b), (1, .ref p1), (2, .ref p2), (4, .int v4), (6, .int v6), (7, .int v7)]) C0 dL_law_357 rfl rfl (by decide) rfl ?_
                        refine r_goto C0 141 dL_law_360 (by decide) ?_
                        refine r_sub (L' := [(0, .ref b), (1, .ref p1), (2, .ref p2), (3, .int (0 : Int32)), (4, .int v4), (5, .int (v5 + (1 : Int32)))]) [3, 4, 5, 1, 6, 0] rfl ?_
                        exact hk_k_141 (0 : Int32) v4 (v5 + (1 : Int32)) r10.2 hf _ (by omega)
                      · refine r_aload_n C0 dL_law_343 rfl 3 rfl ?_
                        refine r_aload_n C0 dL_law_344 rfl 4 rfl ?_
                        refine r_callAp C0 (st := []) (kc1 := kc + 8878) [.ref p1, .ref p2] hf vs_186 (fun hl r11 hr11 => c_L_alike hl F p1 p2 hk_p1 hk_p2 r10.2 r11 hr11) rfl rfl (Nat.le_of_ble_eq_true rfl) dL_law_345 (zrm_k 700000 rfl (by omega)) (by omega) (fun r11 hr11 hf => ?_)
                        refine r_if_eq C0 355 dL_law_348 (by decide) hf (fun hf => ?_) (fun hf => ?_)
                        · refine r_iconst (v := 0) C0 dL_law_355 (by decide) ?_
                          refine r_istore_n (L' := [(3, .int (0 : Int32)), (8, .int r1), (0, .ref b), (1, .ref p1), (2, .ref p2), (4, .int v4), (5, .int v5), (6, .int v6), (7, .int v7)]) C0 dL_law_356 rfl (by decide) rfl ?_
                          refine r_iinc (j := 6) (v := (v5 + (1 : Int32))) (L' := [(5, .int (v5 + (1 : Int32))), (3, .int (0 : Int32)), (8, .int r1), (0, .ref b), (1, .ref p1), (2, .ref p2), (4, .int v4), (6, .int v6), (7, .int v7)]) C0 dL_law_357 rfl rfl (by decide) rfl ?_
                          refine r_goto C0 141 dL_law_360 (by decide) ?_
                          refine r_sub (L' := [(0, .ref b), (1, .ref p1), (2, .ref p2), (3, .int (0 : Int32)), (4, .int v4), (5, .int (v5 + (1 : Int32)))]) [3, 4, 5, 1, 6, 0] rfl ?_
                          exact hk_k_141 (0 : Int32) v4 (v5 + (1 : Int32)) r10.2 hf _ (by omega)
                        · refine r_iconst (v := 1) C0 dL_law_351 (by decide) ?_
                          refine r_goto C0 356 dL_law_352 (by decide) ?_
                          refine r_istore_n (L' := [(3, .int (1 : Int32)), (8, .int r1), (0, .ref b), (1, .ref p1), (2, .ref p2), (4, .int v4), (5, .int v5), (6, .int v6), (7, .int v7)]) C0 dL_law_356 rfl (by decide) rfl ?_
                          refine r_iinc (j := 6) (v := (v5 + (1 : Int32))) (L' := [(5, .int (v5 + (1 : Int32))), (3, .int (1 : Int32)), (8, .int r1), (0, .ref b), (1, .ref p1), (2, .ref p2), (4, .int v4), (6, .int v6), (7, .int v7)]) C0 dL_law_357 rfl rfl (by decide) rfl ?_
                          refine r_goto C0 141 dL_law_360 (by decide) ?_
                          refine r_sub (L' := [(0, .ref b), (1, .ref p1), (2, .ref p2), (3, .int (1 : Int32)), (4, .int v4), (5, .int (v5 + (1 : Int32)))]) [3, 4, 5, 1, 6, 0] rfl ?_
                          exact hk_k_141 (1 : Int32) v4 (v5 + (1 : Int32)) r10.2 hf _ (by omega)
set_option maxHeartbeats 4000000 in
set_option maxRecDepth 100000 in
theorem g_L_law_141 {Γ : zCx} {Q : State → Prop} {E : zEn} {S : zSk} {X : zMl} {ret : Option FieldType} {hh : List (Nat × Nat × Nat × Nat)} (C0 : zCt Γ E R_law cL_law 9 ret hh room_1) (F : Nat) (b : Nat) (len : Nat) (xs : Nat → Int32) (p1 : Nat) (p2 : Nat) (k_86 : Int32 → Int32 → zMi → Option (Int32)) (TK_86 : Nat) (hX : va_X b len xs (gS Γ) (gS Γ).heap) (hbl : b < (gS Γ).heap.size) (hbA : ¬ E.2.2 ≤ b) (hk_p1 : K_X10 S p1) (hk_p2 : K_X10 S p2) (hk_k_86 : ∀ (v3_ : Int32) (v4_ : Int32) (M : zMi) , k_86 v3_ v4_ M = some (1 : Int32) → ∀ kc : Nat, kc + TK_86 ≤ 700000 → zG Γ Q E 9 kc (6 * kc) S ZT M X 86 [(0, .ref b), (1, .ref p1), (2, .ref p2), (3, .int v3_), (4, .int v4_)] []) (hend : ∀ (kc : Nat) (M : zMi) (L : List (Nat × Value)), kc ≤ 700000 → zG Γ Q E 9 kc (6 * kc) S ZT M X 370 L [.int 1]) : ∀ (n : Nat) (v3 : Int32) (v4 : Int32) (v5 : Int32) (M : zMi), f_L_law_141 F len xs p1 p2 k_86 n v3 v4 v5 M = some (1 : Int32) → ∀ kc : Nat, kc + (n * 9558 + 0 + TK_86) ≤ 700000 → zG Γ Q E 9 kc (6 * kc) S ZT M X 141 [(0, .ref b), (1, .ref p1), (2, .ref p2), (3, .int v3), (4, .int v4), (5, .int v5)] [] := by
  intro n
  induction n with
  | zero => intro v3 v4 v5 M hf; cases hf
  | succ n ih =>
    intro v3 v4 v5 M hf kc hkc
    refine r_iload C0 dL_law_141 5 rfl ?_
    refine r_bipush (v := 12) C0 dL_law_143 (by decide) ?_
    refine r_icmp_ge C0 363 dL_law_145 (by decide) hf (fun hf => ?_) (fun hf => ?_)
    · refine r_iinc (j := 4) (v := (v4 + (1 : Int32))) (L' := [(4, .int (v4 + (1 : Int32))), (0, .ref b), (1, .ref p1), (2, .ref p2), (3, .int v3), (5, .int v5)]) C0 dL_law_363 rfl rfl (by decide) rfl ?_
      refine r_goto C0 86 dL_law_366 (by decide) ?_
      refine r_sub (L' := [(0, .ref b), (1, .ref p1), (2, .ref p2), (3, .int v3), (4, .int (v4 + (1 : Int32)))]) [1, 2, 3, 4, 0] rfl ?_
      exact hk_k_86 v3 (v4 + (1 : Int32)) M hf _ (by omega)
    · refine r_iload_n C0 dL_law_148 rfl 3 rfl ?_
      refine r_if_eq C0 363 dL_law_149 (by decide) hf (fun hf => ?_) (fun hf => ?_)
      · refine r_iinc (j := 4) (v := (v4 + (1 : Int32))) (L' := [(4, .int (v4 + (1 : Int32))), (0, .ref b), (1, .ref p1), (2, .ref p2), (3, .int v3), (5, .int v5)]) C0 dL_law_363 rfl rfl (by decide) rfl ?_
        refine r_goto C0 86 dL_law_366 (by decide) ?_
        refine r_sub (L' := [(0, .ref b), (1, .ref p1), (2, .ref p2), (3, .int v3), (4, .int (v4 + (1 : Int32)))]) [1, 2, 3, 4, 0] rfl ?_
        exact hk_k_86 v3 (v4 + (1 : Int32)) M hf _ (by omega)
      · refine r_aload_n C0 dL_law_152 rfl 0 rfl ?_
        refine r_bipush (v := 40) C0 dL_law_153 (by decide) ?_
        refine r_iload C0 dL_law_155 4 rfl ?_
        refine r_imul C0 dL_law_157 ?_
        refine r_bipush (v := 11) C0 dL_law_158 (by decide) ?_
        refine r_iadd C0 dL_law_160 ?_
        refine r_iconst (v := 2) C0 dL_law_161 (by decide) ?_
        refine r_iload C0 dL_law_162 5 rfl ?_
        refine r_imul C0 dL_law_164 ?_
        refine r_iadd C0 dL_law_165 ?_
        refine r_callSN C0 (st := []) (kc1 := kc) [.ref b, .int ((((40 : Int32) * v4) + (11 : Int32)) + ((2 : Int32) * v5))] hX hbl hbA hf vs_154 (fun hl r1 hr1 => c_L_number hl F b len xs ((((40 : Int32) * v4) + (11 : Int32)) + ((2 : Int32) * v5)) hbA M r1 hr1) rfl rfl (Nat.le_of_ble_eq_true rfl) dL_law_166 (zrm_k 700000 rfl (by omega)) (by omega) (fun r1 hr1 hf => ?_)
        refine r_istore (L' := [(6, .int r1), (0, .ref b), (1, .ref p1), (2, .ref p2), (3, .int v3), (4, .int v4), (5, .int v5)]) C0 dL_law_169 (by decide) rfl ?_
        refine r_aload_n C0 dL_law_171 rfl 1 rfl ?_
        refine r_bipush (v := 40) C0 dL_law_172 (by decide) ?_
        refine r_iload C0 dL_law_174 5 rfl ?_
        refine r_imul C0 dL_law_176 ?_
        refine r_bipush (v := 12) C0 dL_law_177 (by decide) ?_
        refine r_iadd C0 dL_law_179 ?_
        refine r_iconst (v := 2) C0 dL_law_180 (by decide) ?_
        refine r_iload C0 dL_law_181 6 rfl ?_
        refine r_imul C0 dL_law_183 ?_
        refine r_iadd C0 dL_law_184 ?_
        refine r_callSN C0 (st := []) (kc1 := kc) [.ref b, .int ((((40 : Int32) * v4) + (12 : Int32)) + ((2 : Int32) * v5))] hX hbl hbA hf vs_154 (fun hl r2 hr2 => c_L_number hl F b len xs ((((40 : Int32) * v4) + (12 : Int32)) + ((2 : Int32) * v5)) hbA M r2 hr2) rfl rfl (Nat.le_of_ble_eq_true rfl) dL_law_185 (zrm_k 700000 rfl (by omega)) (by omega) (fun r2 hr2 hf => ?_)
        refine r_istore (L' := [(7, .int r2), (6, .int r1), (0, .ref b), (1, .ref p1), (2, .ref p2), (3, .int v3), (4, .int v4), (5, .int v5)]) C0 dL_law_188 (by decide) rfl ?_
        refine r_aload_n C0 dL_law_190 rfl 3 rfl ?_
        refine r_iload C0 dL_law_191 1 rfl ?_
        refine r_iload C0 dL_law_193 0 rfl ?_
        refine r_callAw C0 (st := []) (kc1 := kc + 5) [.ref p1, .int r1, .int r2] hf vs_188 (fun hl r3 hr3 => c_L_act hl F p1 r1 r2 hk_p1 M r3 hr3) rfl rfl (Nat.le_of_ble_eq_true rfl) dL_law_195 (zrm_k 700000 rfl (by omega)) (by omega) (fun r3 hr3 hf => ?_)
        refine r_aload_n C0 dL_law_198 rfl 4 rfl ?_
        refine r_iload C0 dL_law_199 1 rfl ?_
        refine r_iload C0 dL_law_201 0 rfl ?_
        refine r_callAw C0 (st := [.int r3.1]) (kc1 := kc + 10) [.ref p2, .int r1, .int r2] hf vs_188 (fun hl r4 hr4 => c_L_act hl F p2 r1 r2 hk_p2 r3.2 r4 hr4) rfl rfl (Nat.le_of_ble_eq_true rfl) dL_law_203 (zrm_k 700000 rfl (by omega)) (by omega) (fun r4 hr4 hf => ?_)
        refine r_icmp_ne C0 235 dL_law_206 (by decide) hf (fun hf => ?_) (fun hf => ?_)
        · refine r_iconst (v := 0) C0 dL_law_235 (by decide) ?_
          refine r_sub (L' := [(0, .ref b), (1, .ref p1), (2, .ref p2), (4, .int v4), (5, .int v5), (6, .int r1), (7, .int r2)]) [2, 3, 4, 6, 7, 1, 0] rfl ?_
          exact g_L_law_236 C0 F b len xs p1 p2 k_86 (f_L_law_141 F len xs p1 p2 k_86 n) TK_86 (n * 9558 + 0 + TK_86) hX hbl hbA hk_p1 hk_p2 hk_k_86 ih hend v4 v5 r1 r2 (0 : Int32) r4.2 hf _ (by omega)
        · refine r_aload_n C0 dL_law_209 rfl 4 rfl ?_
          refine r_callAw C0 (st := []) (kc1 := kc + 97) [.ref p2] hf vs_185 (fun hl r5 hr5 => c_L_refuses hl F p2 hk_p2 r4.2 r5 hr5) rfl rfl (Nat.le_of_ble_eq_true rfl) dL_law_210 (zrm_k 700000 rfl (by omega)) (by omega) (fun r5 hr5 hf => ?_)
          refine r_if_eq C0 235 dL_law_213 (by decide) hf (fun hf => ?_) (fun hf => ?_)
          · refine r_iconst (v := 0) C0 dL_law_235 (by decide) ?_
            refine r_sub (L' := [(0, .ref b), (1, .ref p1), (2, .ref p2), (4, .int v4), (5, .int v5), (6, .int r1), (7, .int r2)]) [2, 3, 4, 6, 7, 1, 0] rfl ?_
            exact g_L_law_236 C0 F b len xs p1 p2 k_86 (f_L_law_141 F len xs p1 p2 k_86 n) TK_86 (n * 9558 + 0 + TK_86) hX hbl hbA hk_p1 hk_p2 hk_k_86 ih hend v4 v5 r1 r2 (0 : Int32) r5.2 hf _ (by omega)
          · refine r_aload_n C0 dL_law_216 rfl 3 rfl ?_
            refine r_aload_n C0 dL_law_217 rfl 4 rfl ?_
            refine r_callAp C0 (st := []) (kc1 := kc + 471) [.ref p1, .ref p2] hf vs_186 (fun hl r6 hr6 => c_L_alike hl F p1 p2 hk_p1 hk_p2 r5.2 r6 hr6) rfl rfl (Nat.le_of_ble_eq_true rfl) dL_law_218 (zrm_k 700000 rfl (by omega)) (by omega) (fun r6 hr6 hf => ?_)
            refine r_if_eq C0 235 dL_law_221 (by decide) hf (fun hf => ?_) (fun hf => ?_)
            · refine r_iconst (v := 0) C0 dL_law_235 (by decide) ?_
              refine r_sub (L' := [(0, .ref b), (1, .ref p1), (2, .ref p2), (4, .int v4), (5, .int v5), (6, .int r1), (7, .int r2)]) [2, 3, 4, 6, 7, 1, 0] rfl ?_
              exact g_L_law_236 C0 F b len xs p1 p2 k_86 (f_L_law_141 F len xs p1 p2 k_86 n) TK_86 (n * 9558 + 0 + TK_86) hX hbl hbA hk_p1 hk_p2 hk_k_86 ih hend v4 v5 r1 r2 (0 : Int32) r5.2 hf _ (by omega)
            · refine r_aload_n C0 dL_law_224 rfl 3 rfl ?_
              refine r_callAp C0 (st := []) (kc1 := kc + 680) [.ref p1] hf vs_182 (fun hl r7 hr7 => c_L_sound hl F p1 hk_p1 r5.2 r7 hr7) rfl rfl (Nat.le_of_ble_eq_true rfl) dL_law_225 (zrm_k 700000 rfl (by omega)) (by omega) (fun r7 hr7 hf => ?_)
              refine r_if_eq C0 235 dL_law_228 (by decide) hf (fun hf => ?_) (fun hf => ?_)
              · refine r_iconst (v := 0) C0 dL_law_235 (by decide) ?_
                refine r_sub (L' := [(0, .ref b), (1, .ref p1), (2, .ref p2), (4, .int v4), (5, .int v5), (6, .int r1), (7, .int r2)]) [2, 3, 4, 6, 7, 1, 0] rfl ?_
                exact g_L_law_236 C0 F b len xs p1 p2 k_86 (f_L_law_141 F len xs p1 p2 k_86 n) TK_86 (n * 9558 + 0 + TK_86) hX hbl hbA hk_p1 hk_p2 hk_k_86 ih hend v4 v5 r1 r2 (0 : Int32) r5.2 hf _ (by omega)
              · refine r_iconst (v := 1) C0 dL_law_231 (by decide) ?_
                refine r_goto C0 236 dL_law_232 (by decide) ?_
                refine r_sub (L' := [(0, .ref b), (1, .ref p1), (2, .ref p2), (4, .int v4), (5, .int v5), (6, .int r1), (7, .int r2)]) [2, 3, 4, 6, 7, 1, 0] rfl ?_
                exact g_L_law_236 C0 F b len xs p1 p2 k_86 (f_L_law_141 F len xs p1 p2 k_86 n) TK_86 (n * 9558 + 0 + TK_86) hX hbl hbA hk_p1 hk_p2 hk_k_86 ih hend v4 v5 r1 r2 (1 : Int32) r5.2 hf _ (by omega)
