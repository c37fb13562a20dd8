set_option maxHeartbeats 4000000 in
set_option maxRecDepth 100000 in
theorem g_L_refuses_240 {Γ : zCx} {E : zEn} {S : zSk} {X : zMl} (C0 : zCt Γ E RL cL_refuses 6 (Option.some Jvm.ClassFile.FieldType.boolean) [] { frames := 9, cells := 87, slots := 522, locals := 208 }) (F : Nat) (p0 : Nat) (hk_p0 : K_X10 S p0)  (v1 : Int32) (v2 : Int32) (v3 : Int32) (M : zMi) (r : Int32 × zMi) (hf : f_L_refuses_240 F p0 v1 v2 v3 M = some r) (kc : Nat) (hkc : kc + (49) ≤ 87) : zG Γ (zQX Γ E 87 522 S (.inr (some (.int r.1)), r.2) X) E 6 kc (6 * kc) S ZT M X 240 [(0, .ref p0), (1, .int v1), (2, .int v2), (3, .int v3)] [] := by
  unfold f_L_refuses_240 at hf
  refine r_aload_n C0 dL_refuses_240 rfl 0 rfl ?_
  refine r_iconst (v := -1) C0 dL_refuses_241 (by decide) ?_
  refine r_callWw C0 (st := []) (kc1 := kc + 2) [.ref p0, .int (-1 : Int32)] hf vs_168 (fun hl r1 hr1 => c_L_tryRecall hl F p0 (-1 : Int32) hk_p0 M r1 hr1) rfl rfl (Nat.le_of_ble_eq_true rfl) dL_refuses_242 (zrm_k 87 rfl (by omega)) (by omega) (fun r1 hr1 hf => ?_)
  refine r_sipush (v := -1001) C0 dL_refuses_245 (by decide) ?_
  refine r_icmp_ne C0 386 dL_refuses_248 (by decide) hf (fun hf => ?_) (fun hf => ?_)
  · refine r_iconst (v := 0) C0 dL_refuses_386 (by decide) ?_
    refine r_sub (L' := [(0, .ref p0), (1, .int v1), (2, .int v2)]) [0, 1, 2] rfl ?_
    exact g_L_refuses_387 C0 F p0 hk_p0 v1 v2 (0 : Int32) r1.2 _ hf _ (by omega)
  · refine r_iload_n C0 dL_refuses_251 rfl 3 rfl ?_
    refine r_iconst (v := 2) C0 dL_refuses_252 (by decide) ?_
    refine r_icmp_eq C0 272 dL_refuses_253 (by decide) hf (fun hf => ?_) (fun hf => ?_)
    · refine r_sub (L' := [(0, .ref p0), (1, .int v1), (2, .int v2)]) [0, 1, 2] rfl ?_
      exact g_L_refuses_272 C0 F p0 hk_p0 v1 v2 r1.2 _ hf _ (by omega)
    · refine r_iload_n C0 dL_refuses_256 rfl 3 rfl ?_
      refine r_iconst (v := 3) C0 dL_refuses_257 (by decide) ?_
      refine r_icmp_eq C0 272 dL_refuses_258 (by decide) hf (fun hf => ?_) (fun hf => ?_)
      · refine r_sub (L' := [(0, .ref p0), (1, .int v1), (2, .int v2)]) [0, 1, 2] rfl ?_
        exact g_L_refuses_272 C0 F p0 hk_p0 v1 v2 r1.2 _ hf _ (by omega)
      · refine r_aload_n C0 dL_refuses_261 rfl 0 rfl ?_
        refine r_iconst (v := 0) C0 dL_refuses_262 (by decide) ?_
        refine r_callWw C0 (st := []) (kc1 := kc + 4) [.ref p0, .int (0 : Int32)] hf vs_168 (fun hl r2 hr2 => c_L_tryRecall hl F p0 (0 : Int32) hk_p0 r1.2 r2 hr2) rfl rfl (Nat.le_of_ble_eq_true rfl) dL_refuses_263 (zrm_k 87 rfl (by omega)) (by omega) (fun r2 hr2 hf => ?_)
        refine r_sipush (v := -1003) C0 dL_refuses_266 (by decide) ?_
        refine r_icmp_ne C0 386 dL_refuses_269 (by decide) hf (fun hf => ?_) (fun hf => ?_)
        · refine r_iconst (v := 0) C0 dL_refuses_386 (by decide) ?_
          refine r_sub (L' := [(0, .ref p0), (1, .int v1), (2, .int v2)]) [0, 1, 2] rfl ?_
          exact g_L_refuses_387 C0 F p0 hk_p0 v1 v2 (0 : Int32) r2.2 _ hf _ (by omega)
        · refine r_sub (L' := [(0, .ref p0), (1, .int v1), (2, .int v2)]) [0, 1, 2] rfl ?_
          exact g_L_refuses_272 C0 F p0 hk_p0 v1 v2 r2.2 _ hf _ (by omega)
set_option maxHeartbeats 4000000 in
set_option maxRecDepth 100000 in
theorem g_L_refuses_199 {Γ : zCx} {E : zEn} {S : zSk} {X : zMl} (C0 : zCt Γ E RL cL_refuses 6 (Option.some Jvm.ClassFile.FieldType.boolean) [] { frames := 9, cells := 87, slots := 522, locals := 208 }) (F : Nat) (p0 : Nat) (hk_p0 : K_X10 S p0)  (v1 : Int32) (v2 : Int32) (v3 : Int32) (v4 : Int32) (M : zMi) (r : Int32 × zMi) (hf : f_L_refuses_199 F p0 v1 v2 v3 v4 M = some r) (kc : Nat) (hkc : kc + (56) ≤ 87) : zG Γ (zQX Γ E 87 522 S (.inr (some (.int r.1)), r.2) X) E 6 kc (6 * kc) S ZT M X 199 [(0, .ref p0), (1, .int v1), (2, .int v2), (3, .int v3), (4, .int v4)] [] := by
  unfold f_L_refuses_199 at hf
  refine r_aload_n C0 dL_refuses_199 rfl 0 rfl ?_
  refine r_iconst (v := 0) C0 dL_refuses_200 (by decide) ?_
  refine r_sipush (v := 999) C0 dL_refuses_201 (by decide) ?_
  refine r_callWw C0 (st := []) (kc1 := kc + 3) [.ref p0, .int (0 : Int32), .int (999 : Int32)] hf vs_166 (fun hl r1 hr1 => c_L_tryTake hl F p0 (0 : Int32) (999 : Int32) hk_p0 M r1 hr1) rfl rfl (Nat.le_of_ble_eq_true rfl) dL_refuses_204 (zrm_k 87 rfl (by omega)) (by omega) (fun r1 hr1 hf => ?_)
  refine r_sipush (v := -1003) C0 dL_refuses_207 (by decide) ?_
  refine r_icmp_ne C0 386 dL_refuses_210 (by decide) hf (fun hf => ?_) (fun hf => ?_)
  · refine r_iconst (v := 0) C0 dL_refuses_386 (by decide) ?_
    refine r_sub (L' := [(0, .ref p0), (1, .int v1), (2, .int v2)]) [0, 1, 2] rfl ?_
    exact g_L_refuses_387 C0 F p0 hk_p0 v1 v2 (0 : Int32) r1.2 _ hf _ (by omega)
  · refine r_aload_n C0 dL_refuses_213 rfl 0 rfl ?_
    refine r_iload_n C0 dL_refuses_214 rfl 2 rfl ?_
    refine r_callWw C0 (st := []) (kc1 := kc + 5) [.ref p0, .int v2] hf vs_167 (fun hl r2 hr2 => c_L_trySend hl F p0 v2 hk_p0 r1.2 r2 hr2) rfl rfl (Nat.le_of_ble_eq_true rfl) dL_refuses_215 (zrm_k 87 rfl (by omega)) (by omega) (fun r2 hr2 hf => ?_)
    refine r_sipush (v := -1001) C0 dL_refuses_218 (by decide) ?_
    refine r_icmp_ne C0 386 dL_refuses_221 (by decide) hf (fun hf => ?_) (fun hf => ?_)
    · refine r_iconst (v := 0) C0 dL_refuses_386 (by decide) ?_
      refine r_sub (L' := [(0, .ref p0), (1, .int v1), (2, .int v2)]) [0, 1, 2] rfl ?_
      exact g_L_refuses_387 C0 F p0 hk_p0 v1 v2 (0 : Int32) r2.2 _ hf _ (by omega)
    · refine r_iload C0 dL_refuses_224 4 rfl ?_
      refine r_if_eq C0 240 dL_refuses_226 (by decide) hf (fun hf => ?_) (fun hf => ?_)
      · refine r_sub (L' := [(0, .ref p0), (1, .int v1), (2, .int v2), (3, .int v3)]) [0, 1, 2, 3] rfl ?_
        exact g_L_refuses_240 C0 F p0 hk_p0 v1 v2 v3 r2.2 _ hf _ (by omega)
      · refine r_aload_n C0 dL_refuses_229 rfl 0 rfl ?_
        refine r_iconst (v := 0) C0 dL_refuses_230 (by decide) ?_
        refine r_callWw C0 (st := []) (kc1 := kc + 7) [.ref p0, .int (0 : Int32)] hf vs_167 (fun hl r3 hr3 => c_L_trySend hl F p0 (0 : Int32) hk_p0 r2.2 r3 hr3) rfl rfl (Nat.le_of_ble_eq_true rfl) dL_refuses_231 (zrm_k 87 rfl (by omega)) (by omega) (fun r3 hr3 hf => ?_)
        refine r_sipush (v := -1003) C0 dL_refuses_234 (by decide) ?_
        refine r_icmp_ne C0 386 dL_refuses_237 (by decide) hf (fun hf => ?_) (fun hf => ?_)
        · refine r_iconst (v := 0) C0 dL_refuses_386 (by decide) ?_
          refine r_sub (L' := [(0, .ref p0), (1, .int v1), (2, .int v2)]) [0, 1, 2] rfl ?_
          exact g_L_refuses_387 C0 F p0 hk_p0 v1 v2 (0 : Int32) r3.2 _ hf _ (by omega)
        · refine r_sub (L' := [(0, .ref p0), (1, .int v1), (2, .int v2), (3, .int v3)]) [0, 1, 2, 3] rfl ?_
          exact g_L_refuses_240 C0 F p0 hk_p0 v1 v2 v3 r3.2 _ hf _ (by omega)
set_option maxHeartbeats 4000000 in
set_option maxRecDepth 100000 in
theorem g_L_refuses_34 {Γ : zCx} {E : zEn} {S : zSk} {X : zMl} (C0 : zCt Γ E RL cL_refuses 6 (Option.some Jvm.ClassFile.FieldType.boolean) [] { frames := 9, cells := 87, slots := 522, locals := 208 }) (F : Nat) (p0 : Nat) (hk_p0 : K_X10 S p0)  (v1 : Int32) (v2 : Int32) (v3 : Int32) (s0 : Int32) (M : zMi) (r : Int32 × zMi) (hf : f_L_refuses_34 F p0 v1 v2 v3 s0 M = some r) (kc : Nat) (hkc : kc + (82) ≤ 87) : zG Γ (zQX Γ E 87 522 S (.inr (some (.int r.1)), r.2) X) E 6 kc (6 * kc) S ZT M X 34 [(0, .ref p0), (1, .int v1), (2, .int v2), (3, .int v3)] [.int s0] := by
  unfold f_L_refuses_34 at hf
  refine r_istore (L' := [(4, .int s0), (0, .ref p0), (1, .int v1), (2, .int v2), (3, .int v3)]) C0 dL_refuses_34 (by decide) rfl ?_
  refine r_aload_n C0 dL_refuses_36 rfl 1 rfl ?_
  refine r_bipush (v := 14) C0 dL_refuses_37 (by decide) ?_
  refine r_callWp C0 (st := []) (kc1 := kc + 1) [.ref p0, .int (14 : Int32)] hf vs_159 (fun hl r1 hr1 => c_L_tryAbout hl F p0 (14 : Int32) hk_p0 M r1 hr1) rfl rfl (Nat.le_of_ble_eq_true rfl) dL_refuses_39 (zrm_k 87 rfl (by omega)) (by omega) (fun r1 hr1 hf => ?_)
  refine r_sipush (v := -1002) C0 dL_refuses_42 (by decide) ?_
  refine r_icmp_ne C0 386 dL_refuses_45 (by decide) hf (fun hf => ?_) (fun hf => ?_)
  · refine r_iconst (v := 0) C0 dL_refuses_386 (by decide) ?_
    refine r_sub (L' := [(0, .ref p0), (1, .int v1), (2, .int v2)]) [1, 2, 3] rfl ?_
    exact g_L_refuses_387 C0 F p0 hk_p0 v1 v2 (0 : Int32) M _ hf _ (by omega)
  · refine r_aload_n C0 dL_refuses_48 rfl 1 rfl ?_
    refine r_iload_n C0 dL_refuses_49 rfl 2 rfl ?_
    refine r_iconst (v := 5) C0 dL_refuses_50 (by decide) ?_
    refine r_callWp C0 (st := []) (kc1 := kc + 3) [.ref p0, .int v1, .int (5 : Int32)] hf vs_164 (fun hl r2 hr2 => c_L_tryZone hl F p0 v1 (5 : Int32) hk_p0 M r2 hr2) rfl rfl (Nat.le_of_ble_eq_true rfl) dL_refuses_51 (zrm_k 87 rfl (by omega)) (by omega) (fun r2 hr2 hf => ?_)
    refine r_sipush (v := -1001) C0 dL_refuses_54 (by decide) ?_
    refine r_icmp_ne C0 386 dL_refuses_57 (by decide) hf (fun hf => ?_) (fun hf => ?_)
    · refine r_iconst (v := 0) C0 dL_refuses_386 (by decide) ?_
      refine r_sub (L' := [(0, .ref p0), (1, .int v1), (2, .int v2)]) [1, 2, 3] rfl ?_
      exact g_L_refuses_387 C0 F p0 hk_p0 v1 v2 (0 : Int32) M _ hf _ (by omega)
    · refine r_aload_n C0 dL_refuses_60 rfl 1 rfl ?_
      refine r_iconst (v := 0) C0 dL_refuses_61 (by decide) ?_
      refine r_iconst (v := 5) C0 dL_refuses_62 (by decide) ?_
      refine r_callWp C0 (st := []) (kc1 := kc + 5) [.ref p0, .int (0 : Int32), .int (5 : Int32)] hf vs_164 (fun hl r3 hr3 => c_L_tryZone hl F p0 (0 : Int32) (5 : Int32) hk_p0 M r3 hr3) rfl rfl (Nat.le_of_ble_eq_true rfl) dL_refuses_63 (zrm_k 87 rfl (by omega)) (by omega) (fun r3 hr3 hf => ?_)
      refine r_sipush (v := -1002) C0 dL_refuses_66 (by decide) ?_
      refine r_icmp_ne C0 386 dL_refuses_69 (by decide) hf (fun hf => ?_) (fun hf => ?_)
      · refine r_iconst (v := 0) C0 dL_refuses_386 (by decide) ?_
        refine r_sub (L' := [(0, .ref p0), (1, .int v1), (2, .int v2)]) [1, 2, 3] rfl ?_
        exact g_L_refuses_387 C0 F p0 hk_p0 v1 v2 (0 : Int32) M _ hf _ (by omega)
      · refine r_aload_n C0 dL_refuses_72 rfl 1 rfl ?_
        refine r_iload_n C0 dL_refuses_73 rfl 3 rfl ?_
        refine r_bipush (v := 8) C0 dL_refuses_74 (by decide) ?_
        refine r_callWp C0 (st := []) (kc1 := kc + 7) [.ref p0, .int v2, .int (8 : Int32)] hf vs_161 (fun hl r4 hr4 => c_L_tryShip hl F p0 v2 (8 : Int32) hk_p0 M r4 hr4) rfl rfl (Nat.le_of_ble_eq_true rfl) dL_refuses_76 (zrm_k 87 rfl (by omega)) (by omega) (fun r4 hr4 hf => ?_)
        refine r_sipush (v := -1001) C0 dL_refuses_79 (by decide) ?_
        refine r_icmp_ne C0 386 dL_refuses_82 (by decide) hf (fun hf => ?_) (fun hf => ?_)
        · refine r_iconst (v := 0) C0 dL_refuses_386 (by decide) ?_
          refine r_sub (L' := [(0, .ref p0), (1, .int v1), (2, .int v2)]) [1, 2, 3] rfl ?_
          exact g_L_refuses_387 C0 F p0 hk_p0 v1 v2 (0 : Int32) M _ hf _ (by omega)
        · refine r_aload_n C0 dL_refuses_85 rfl 1 rfl ?_
          refine r_iconst (v := 0) C0 dL_refuses_86 (by decide) ?_
          refine r_bipush (v := 8) C0 dL_refuses_87 (by decide) ?_
          refine r_callWp C0 (st := []) (kc1 := kc + 9) [.ref p0, .int (0 : Int32), .int (8 : Int32)] hf vs_161 (fun hl r5 hr5 => c_L_tryShip hl F p0 (0 : Int32) (8 : Int32) hk_p0 M r5 hr5) rfl rfl (Nat.le_of_ble_eq_true rfl) dL_refuses_89 (zrm_k 87 rfl (by omega)) (by omega) (fun r5 hr5 hf => ?_)
          refine r_sipush (v := -1002) C0 dL_refuses_92 (by decide) ?_
          refine r_icmp_ne C0 386 dL_refuses_95 (by decide) hf (fun hf => ?_) (fun hf => ?_)
          · refine r_iconst (v := 0) C0 dL_refuses_386 (by decide) ?_
            refine r_sub (L' := [(0, .ref p0), (1, .int v1), (2, .int v2)]) [1, 2, 3] rfl ?_
            exact g_L_refuses_387 C0 F p0 hk_p0 v1 v2 (0 : Int32) M _ hf _ (by omega)
          · refine r_aload_n C0 dL_refuses_98 rfl 1 rfl ?_
            refine r_iconst (v := -1) C0 dL_refuses_99 (by decide) ?_
            refine r_callWp C0 (st := []) (kc1 := kc + 10) [.ref p0, .int (-1 : Int32)] hf vs_165 (fun hl r6 hr6 => c_L_tryWaves hl F p0 (-1 : Int32) hk_p0 M r6 hr6) rfl rfl (Nat.le_of_ble_eq_true rfl) dL_refuses_100 (zrm_k 87 rfl (by omega)) (by omega) (fun r6 hr6 hf => ?_)
            refine r_sipush (v := -1002) C0 dL_refuses_103 (by decide) ?_
            refine r_icmp_ne C0 386 dL_refuses_106 (by decide) hf (fun hf => ?_) (fun hf => ?_)
            · refine r_iconst (v := 0) C0 dL_refuses_386 (by decide) ?_
              refine r_sub (L' := [(0, .ref p0), (1, .int v1), (2, .int v2)]) [1, 2, 3] rfl ?_
              exact g_L_refuses_387 C0 F p0 hk_p0 v1 v2 (0 : Int32) M _ hf _ (by omega)
            · refine r_aload_n C0 dL_refuses_109 rfl 1 rfl ?_
              refine r_sipush (v := 10000) C0 dL_refuses_110 (by decide) ?_
              refine r_callWp C0 (st := []) (kc1 := kc + 11) [.ref p0, .int (10000 : Int32)] hf vs_165 (fun hl r7 hr7 => c_L_tryWaves hl F p0 (10000 : Int32) hk_p0 M r7 hr7) rfl rfl (Nat.le_of_ble_eq_true rfl) dL_refuses_113 (zrm_k 87 rfl (by omega)) (by omega) (fun r7 hr7 hf => ?_)
              refine r_sipush (v := -1002) C0 dL_refuses_116 (by decide) ?_
              refine r_icmp_ne C0 386 dL_refuses_119 (by decide) hf (fun hf => ?_) (fun hf => ?_)
              · refine r_iconst (v := 0) C0 dL_refuses_386 (by decide) ?_
                refine r_sub (L' := [(0, .ref p0), (1, .int v1), (2, .int v2)]) [1, 2, 3] rfl ?_
                exact g_L_refuses_387 C0 F p0 hk_p0 v1 v2 (0 : Int32) M _ hf _ (by omega)
              · refine r_aload_n C0 dL_refuses_122 rfl 1 rfl ?_
                refine r_bipush (v := 8) C0 dL_refuses_123 (by decide) ?_
                refine r_callWp C0 (st := []) (kc1 := kc + 12) [.ref p0, .int (8 : Int32)] hf vs_160 (fun hl r8 hr8 => c_L_tryAccount hl F p0 (8 : Int32) hk_p0 M r8 hr8) rfl rfl (Nat.le_of_ble_eq_true rfl) dL_refuses_125 (zrm_k 87 rfl (by omega)) (by omega) (fun r8 hr8 hf => ?_)
                refine r_sipush (v := -1002) C0 dL_refuses_128 (by decide) ?_
                refine r_icmp_ne C0 386 dL_refuses_131 (by decide) hf (fun hf => ?_) (fun hf => ?_)
                · refine r_iconst (v := 0) C0 dL_refuses_386 (by decide) ?_
                  refine r_sub (L' := [(0, .ref p0), (1, .int v1), (2, .int v2)]) [1, 2, 3] rfl ?_
                  exact g_L_refuses_387 C0 F p0 hk_p0 v1 v2 (0 : Int32) M _ hf _ (by omega)
                · refine r_aload_n C0 dL_refuses_134 rfl 1 rfl ?_
                  refine r_iload_n C0 dL_refuses_135 rfl 3 rfl ?_
                  refine r_iconst (v := 0) C0 dL_refuses_136 (by decide) ?_
                  refine r_callWw C0 (st := []) (kc1 := kc + 15) [.ref p0, .int v2, .int (0 : Int32)] hf vs_166 (fun hl r9 hr9 => c_L_tryTake hl F p0 v2 (0 : Int32) hk_p0 M r9 hr9) rfl rfl (Nat.le_of_ble_eq_true rfl) dL_refuses_137 (zrm_k 87 rfl (by omega)) (by omega) (fun r9 hr9 hf => ?_)
                  refine r_sipush (v := -1001) C0 dL_refuses_140 (by decide) ?_
                  refine r_icmp_ne C0 386 dL_refuses_143 (by decide) hf (fun hf => ?_) (fun hf => ?_)
                  · refine r_iconst (v := 0) C0 dL_refuses_386 (by decide) ?_
                    refine r_sub (L' := [(0, .ref p0), (1, .int v1), (2, .int v2)]) [1, 2, 3] rfl ?_
                    exact g_L_refuses_387 C0 F p0 hk_p0 v1 v2 (0 : Int32) r9.2 _ hf _ (by omega)
                  · refine r_aload_n C0 dL_refuses_146 rfl 1 rfl ?_
                    refine r_iconst (v := 0) C0 dL_refuses_147 (by decide) ?_
                    refine r_iconst (v := 0) C0 dL_refuses_148 (by decide) ?_
                    refine r_callWw C0 (st := []) (kc1 := kc + 18) [.ref p0, .int (0 : Int32), .int (0 : Int32)] hf vs_166 (fun hl r10 hr10 => c_L_tryTake hl F p0 (0 : Int32) (0 : Int32) hk_p0 r9.2 r10 hr10) rfl rfl (Nat.le_of_ble_eq_true rfl) dL_refuses_149 (zrm_k 87 rfl (by omega)) (by omega) (fun r10 hr10 hf => ?_)
                    refine r_sipush (v := -1002) C0 dL_refuses_152 (by decide) ?_
                    refine r_icmp_ne C0 386 dL_refuses_155 (by decide) hf (fun hf => ?_) (fun hf => ?_)
                    · refine r_iconst (v := 0) C0 dL_refuses_386 (by decide) ?_
                      refine r_sub (L' := [(0, .ref p0), (1, .int v1), (2, .int v2)]) [1, 2, 3] rfl ?_
                      exact g_L_refuses_387 C0 F p0 hk_p0 v1 v2 (0 : Int32) r10.2 _ hf _ (by omega)
                    · refine r_aload_n C0 dL_refuses_158 rfl 1 rfl ?_
                      refine r_iconst (v := 0) C0 dL_refuses_159 (by decide) ?_
                      refine r_sipush (v := 1000) C0 dL_refuses_160 (by decide) ?_
                      refine r_callWw C0 (st := []) (kc1 := kc + 21) [.ref p0, .int (0 : Int32), .int (1000 : Int32)] hf vs_166 (fun hl r11 hr11 => c_L_tryTake hl F p0 (0 : Int32) (1000 : Int32) hk_p0 r10.2 r11 hr11) rfl rfl (Nat.le_of_ble_eq_true rfl) dL_refuses_163 (zrm_k 87 rfl (by omega)) (by omega) (fun r11 hr11 hf => ?_)
                      refine r_sipush (v := -1002) C0 dL_refuses_166 (by decide) ?_
                      refine r_icmp_ne C0 386 dL_refuses_169 (by decide) hf (fun hf => ?_) (fun hf => ?_)
                      · refine r_iconst (v := 0) C0 dL_refuses_386 (by decide) ?_
                        refine r_sub (L' := [(0, .ref p0), (1, .int v1), (2, .int v2)]) [1, 2, 3] rfl ?_
                        exact g_L_refuses_387 C0 F p0 hk_p0 v1 v2 (0 : Int32) r11.2 _ hf _ (by omega)
                      · refine r_iload_n C0 dL_refuses_172 rfl 4 rfl ?_
                        refine r_if_eq C0 199 dL_refuses_173 (by decide) hf (fun hf => ?_) (fun hf => ?_)
                        · refine r_sub (L' := [(0, .ref p0), (1, .int v1), (2, .int v2), (3, .int v3), (4, .int s0)]) [1, 2, 3, 4, 0] rfl ?_
                          exact g_L_refuses_199 C0 F p0 hk_p0 v1 v2 v3 s0 r11.2 _ hf _ (by omega)
                        · refine r_aload_n C0 dL_refuses_176 rfl 1 rfl ?_
                          refine r_iconst (v := 0) C0 dL_refuses_177 (by decide) ?_
                          refine r_iconst (v := 1) C0 dL_refuses_178 (by decide) ?_
                          refine r_callWw C0 (st := []) (kc1 := kc + 24) [.ref p0, .int (0 : Int32), .int (1 : Int32)] hf vs_166 (fun hl r12 hr12 => c_L_tryTake hl F p0 (0 : Int32) (1 : Int32) hk_p0 r11.2 r12 hr12) rfl rfl (Nat.le_of_ble_eq_true rfl) dL_refuses_179 (zrm_k 87 rfl (by omega)) (by omega) (fun r12 hr12 hf => ?_)
                          refine r_sipush (v := -1003) C0 dL_refuses_182 (by decide) ?_
                          refine r_icmp_ne C0 386 dL_refuses_185 (by decide) hf (fun hf => ?_) (fun hf => ?_)
                          · refine r_iconst (v := 0) C0 dL_refuses_386 (by decide) ?_
                            refine r_sub (L' := [(0, .ref p0), (1, .int v1), (2, .int v2)]) [1, 2, 3] rfl ?_
                            exact g_L_refuses_387 C0 F p0 hk_p0 v1 v2 (0 : Int32) r12.2 _ hf _ (by omega)
                          · refine r_aload_n C0 dL_refuses_188 rfl 1 rfl ?_
                            refine r_iconst (v := 0) C0 dL_refuses_189 (by decide) ?_
                            refine r_callWw C0 (st := []) (kc1 := kc + 26) [.ref p0, .int (0 : Int32)] hf vs_167 (fun hl r13 hr13 => c_L_trySend hl F p0 (0 : Int32) hk_p0 r12.2 r13 hr13) rfl rfl (Nat.le_of_ble_eq_true rfl) dL_refuses_190 (zrm_k 87 rfl (by omega)) (by omega) (fun r13 hr13 hf => ?_)
                            refine r_sipush (v := -1003) C0 dL_refuses_193 (by decide) ?_
                            refine r_icmp_ne C0 386 dL_refuses_196 (by decide) hf (fun hf => ?_) (fun hf => ?_)
                            · refine r_iconst (v := 0) C0 dL_refuses_386 (by decide) ?_
                              refine r_sub (L' := [(0, .ref p0), (1, .int v1), (2, .int v2)]) [1, 2, 3] rfl ?_
                              exact g_L_refuses_387 C0 F p0 hk_p0 v1 v2 (0 : Int32) r13.2 _ hf _ (by omega)
                            · refine r_sub (L' := [(0, .ref p0), (1, .int v1), (2, .int v2), (3, .int v3), (4, .int s0)]) [1, 2, 3, 4, 0] rfl ?_
                              exact g_L_refuses_199 C0 F p0 hk_p0 v1 v2 v3 s0 r13.2 _ hf _ (by omega)
set_option maxHeartbeats 4000000 in
set_option maxRecDepth 100000 in
theorem c_L_refuses {l : Launch} {E : zEn} {S : zSk} {X : zMl} (hl : l.stackTraces = false) (F : Nat) (p0 : Nat) (hk_p0 : K_X10 S p0) (M : zMi) (r : Int32 × zMi) (hf : f_L_refuses F p0 M = some r) : zMX l E yL_refuses cL_refuses 6 (Option.some Jvm.ClassFile.FieldType.boolean) { frames := 9, cells := 87, slots := 522, locals := 208 } 87 522 [.ref p0] S M X (.inr (some (.int r.1)), r.2) := by
  refine zMX.intro (L0 := [(0, .ref p0)]) hl (by decide) (Nat.le_of_ble_eq_true rfl) rfl (fun Γ C0 => ?_)
  unfold f_L_refuses at hf
  refine r_aload_n C0 dL_refuses_0 rfl 0 rfl ?_
  refine r_iconst (v := 0) C0 dL_refuses_1 (by decide) ?_
  refine r_callWp C0 (st := []) (kc1 := 1) [.ref p0, .int (0 : Int32)] hf vs_159 (fun hl r1 hr1 => c_L_tryAbout hl F p0 (0 : Int32) hk_p0 M r1 hr1) rfl rfl (Nat.le_of_ble_eq_true rfl) dL_refuses_2 (zrm_k 87 rfl (Nat.le_of_ble_eq_true rfl)) (Nat.le_of_ble_eq_true rfl) (fun r1 hr1 hf => ?_)
  refine r_istore_n (L' := [(1, .int r1), (0, .ref p0)]) C0 dL_refuses_5 rfl (by decide) rfl ?_
  refine r_aload_n C0 dL_refuses_6 rfl 1 rfl ?_
  refine r_iconst (v := 1) C0 dL_refuses_7 (by decide) ?_
  refine r_callWp C0 (st := []) (kc1 := 2) [.ref p0, .int (1 : Int32)] hf vs_159 (fun hl r2 hr2 => c_L_tryAbout hl F p0 (1 : Int32) hk_p0 M r2 hr2) rfl rfl (Nat.le_of_ble_eq_true rfl) dL_refuses_8 (zrm_k 87 rfl (Nat.le_of_ble_eq_true rfl)) (Nat.le_of_ble_eq_true rfl) (fun r2 hr2 hf => ?_)
  refine r_istore_n (L' := [(2, .int r2), (1, .int r1), (0, .ref p0)]) C0 dL_refuses_11 rfl (by decide) rfl ?_
  refine r_aload_n C0 dL_refuses_12 rfl 2 rfl ?_
  refine r_iconst (v := 0) C0 dL_refuses_13 (by decide) ?_
  refine r_iconst (v := 5) C0 dL_refuses_14 (by decide) ?_
  refine r_callWp C0 (st := []) (kc1 := 4) [.ref p0, .int (0 : Int32), .int (5 : Int32)] hf vs_161 (fun hl r3 hr3 => c_L_tryShip hl F p0 (0 : Int32) (5 : Int32) hk_p0 M r3 hr3) rfl rfl (Nat.le_of_ble_eq_true rfl) dL_refuses_15 (zrm_k 87 rfl (Nat.le_of_ble_eq_true rfl)) (Nat.le_of_ble_eq_true rfl) (fun r3 hr3 hf => ?_)
  refine r_istore_n (L' := [(3, .int r3), (2, .int r2), (1, .int r1), (0, .ref p0)]) C0 dL_refuses_18 rfl (by decide) rfl ?_
  refine r_aload_n C0 dL_refuses_19 rfl 3 rfl ?_
  refine r_bipush (v := 6) C0 dL_refuses_20 (by decide) ?_
  refine r_callWp C0 (st := []) (kc1 := 5) [.ref p0, .int (6 : Int32)] hf vs_159 (fun hl r4 hr4 => c_L_tryAbout hl F p0 (6 : Int32) hk_p0 M r4 hr4) rfl rfl (Nat.le_of_ble_eq_true rfl) dL_refuses_22 (zrm_k 87 rfl (Nat.le_of_ble_eq_true rfl)) (Nat.le_of_ble_eq_true rfl) (fun r4 hr4 hf => ?_)
  refine r_iload_n C0 dL_refuses_25 rfl 2 rfl ?_
  refine r_icmp_ne C0 33 dL_refuses_26 (by decide) hf (fun hf => ?_) (fun hf => ?_)
  · refine r_iconst (v := 0) C0 dL_refuses_33 (by decide) ?_
    refine r_sub (L' := [(0, .ref p0), (1, .int r1), (2, .int r2), (3, .int r3)]) [3, 2, 1, 0] rfl ?_
    exact g_L_refuses_34 C0 F p0 hk_p0 r1 r2 r3 (0 : Int32) M _ hf _ (Nat.le_of_ble_eq_true rfl)
  · refine r_iconst (v := 1) C0 dL_refuses_29 (by decide) ?_
    refine r_goto C0 34 dL_refuses_30 (by decide) ?_
    refine r_sub (L' := [(0, .ref p0), (1, .int r1), (2, .int r2), (3, .int r3)]) [3, 2, 1, 0] rfl ?_
    exact g_L_refuses_34 C0 F p0 hk_p0 r1 r2 r3 (1 : Int32) M _ hf _ (Nat.le_of_ble_eq_true rfl)
set_option maxHeartbeats 4000000 in
set_option maxRecDepth 100000 in
theorem g_L_sound_476 {Γ : zCx} {E : zEn} {S : zSk} {X : zMl} {M : zMi} (C0 : zCt Γ E RL cL_sound 8 (Option.some Jvm.ClassFile.FieldType.boolean) [] { frames := 9, cells := 209, slots := 1254, locals := 158 }) (F : Nat) (p0 : Nat) (hk_p0 : K_X10 S p0)  (v3 : Int32) (v5 : Int32) (s0 : Int32) (s1 : Int32) (s2 : Int32) (r : Int32) (hf : f_L_sound_476 F p0 v3 v5 s0 s1 s2 M = some r) (kc : Nat) (hkc : kc + (3) ≤ 209) : zG Γ (zQX Γ E 209 1254 S (.inr (some (.int r)), M) X) E 8 kc (6 * kc) S ZT M X 476 [(0, .ref p0), (3, .int v3), (5, .int v5)] [.int s0, .int s1, .int s2] := by
  unfold f_L_sound_476 at hf
  refine r_isub C0 dL_sound_476 ?_
  refine r_icmp_gt C0 511 dL_sound_477 (by decide) hf (fun hf => ?_) (fun hf => ?_)
  · refine r_iconst (v := 0) C0 dL_sound_511 (by decide) ?_
    obtain rfl := Option.some.inj hf
    refine r_widen (k1 := 209) (s1 := 1254) (by omega) (by omega) ?_
    exact rX_zret C0 rfl rfl dL_sound_512
  · refine r_aload_n C0 dL_sound_480 rfl 0 rfl ?_
    refine r_iconst (v := 5) C0 dL_sound_481 (by decide) ?_
    refine r_callWp C0 (st := []) (kc1 := kc + 1) [.ref p0, .int (5 : Int32)] hf vs_160 (fun hl r1 hr1 => c_L_tryAccount hl F p0 (5 : Int32) hk_p0 M r1 hr1) rfl rfl (Nat.le_of_ble_eq_true rfl) dL_sound_482 (zrm_k 209 rfl (by omega)) (by omega) (fun r1 hr1 hf => ?_)
    refine r_aload_n C0 dL_sound_485 rfl 0 rfl ?_
    refine r_iconst (v := 4) C0 dL_sound_486 (by decide) ?_
    refine r_callWp C0 (st := [.int r1]) (kc1 := kc + 2) [.ref p0, .int (4 : Int32)] hf vs_160 (fun hl r2 hr2 => c_L_tryAccount hl F p0 (4 : Int32) hk_p0 M r2 hr2) rfl rfl (Nat.le_of_ble_eq_true rfl) dL_sound_487 (zrm_k 209 rfl (by omega)) (by omega) (fun r2 hr2 hf => ?_)
    refine r_icmp_gt C0 511 dL_sound_490 (by decide) hf (fun hf => ?_) (fun hf => ?_)
    · refine r_iconst (v := 0) C0 dL_sound_511 (by decide) ?_
      obtain rfl := Option.some.inj hf
      refine r_widen (k1 := 209) (s1 := 1254) (by omega) (by omega) ?_
      exact rX_zret C0 rfl rfl dL_sound_512
    · refine r_iload C0 dL_sound_493 2 rfl ?_
      refine r_aload_n C0 dL_sound_495 rfl 0 rfl ?_
      refine r_iconst (v := 0) C0 dL_sound_496 (by decide) ?_
      refine r_callWp C0 (st := [.int v5]) (kc1 := kc + 3) [.ref p0, .int (0 : Int32)] hf vs_159 (fun hl r3 hr3 => c_L_tryAbout hl F p0 (0 : Int32) hk_p0 M r3 hr3) rfl rfl (Nat.le_of_ble_eq_true rfl) dL_sound_497 (zrm_k 209 rfl (by omega)) (by omega) (fun r3 hr3 hf => ?_)
      refine r_icmp_lt C0 507 dL_sound_500 (by decide) hf (fun hf => ?_) (fun hf => ?_)
      · refine r_iconst (v := 1) C0 dL_sound_507 (by decide) ?_
        refine r_goto C0 512 dL_sound_508 (by decide) ?_
        obtain rfl := Option.some.inj hf
        refine r_widen (k1 := 209) (s1 := 1254) (by omega) (by omega) ?_
        exact rX_zret C0 rfl rfl dL_sound_512
      · refine r_iload_n C0 dL_sound_503 rfl 1 rfl ?_
        refine r_if_ne C0 511 dL_sound_504 (by decide) hf (fun hf => ?_) (fun hf => ?_)
        · refine r_iconst (v := 0) C0 dL_sound_511 (by decide) ?_
          obtain rfl := Option.some.inj hf
          refine r_widen (k1 := 209) (s1 := 1254) (by omega) (by omega) ?_
          exact rX_zret C0 rfl rfl dL_sound_512
        · refine r_iconst (v := 1) C0 dL_sound_507 (by decide) ?_
          refine r_goto C0 512 dL_sound_508 (by decide) ?_
          obtain rfl := Option.some.inj hf
          refine r_widen (k1 := 209) (s1 := 1254) (by omega) (by omega) ?_
          exact rX_zret C0 rfl rfl dL_sound_512
set_option maxHeartbeats 4000000 in
set_option maxRecDepth 100000 in
theorem g_L_sound_442 {Γ : zCx} {E : zEn} {S : zSk} {X : zMl} {M : zMi} (C0 : zCt Γ E RL cL_sound 8 (Option.some Jvm.ClassFile.FieldType.boolean) [] { frames := 9, cells := 209, slots := 1254, locals := 158 }) (F : Nat) (p0 : Nat) (hk_p0 : K_X10 S p0)  (v3 : Int32) (v5 : Int32) (v7 : Int32) (s0 : Int32) (s1 : Int32) (r : Int32) (hf : f_L_sound_442 F p0 v3 v5 v7 s0 s1 M = some r) (kc : Nat) (hkc : kc + (6) ≤ 209) : zG Γ (zQX Γ E 209 1254 S (.inr (some (.int r)), M) X) E 8 kc (6 * kc) S ZT M X 442 [(0, .ref p0), (3, .int v3), (5, .int v5), (7, .int v7)] [.int s0, .int s1] := by
  unfold f_L_sound_442 at hf
  refine r_icmp_ne C0 511 dL_sound_442 (by decide) hf (fun hf => ?_) (fun hf => ?_)
  · refine r_iconst (v := 0) C0 dL_sound_511 (by decide) ?_
    obtain rfl := Option.some.inj hf
    refine r_widen (k1 := 209) (s1 := 1254) (by omega) (by omega) ?_
    exact rX_zret C0 rfl rfl dL_sound_512
  · refine r_aload_n C0 dL_sound_445 rfl 0 rfl ?_
    refine r_bipush (v := 13) C0 dL_sound_446 (by decide) ?_
    refine r_callWp C0 (st := []) (kc1 := kc + 1) [.ref p0, .int (13 : Int32)] hf vs_159 (fun hl r1 hr1 => c_L_tryAbout hl F p0 (13 : Int32) hk_p0 M r1 hr1) rfl rfl (Nat.le_of_ble_eq_true rfl) dL_sound_448 (zrm_k 209 rfl (by omega)) (by omega) (fun r1 hr1 hf => ?_)
    refine r_if_lt C0 511 dL_sound_451 (by decide) hf (fun hf => ?_) (fun hf => ?_)
    · refine r_iconst (v := 0) C0 dL_sound_511 (by decide) ?_
      obtain rfl := Option.some.inj hf
      refine r_widen (k1 := 209) (s1 := 1254) (by omega) (by omega) ?_
      exact rX_zret C0 rfl rfl dL_sound_512
    · refine r_aload_n C0 dL_sound_454 rfl 0 rfl ?_
      refine r_bipush (v := 13) C0 dL_sound_455 (by decide) ?_
      refine r_callWp C0 (st := []) (kc1 := kc + 2) [.ref p0, .int (13 : Int32)] hf vs_159 (fun hl r2 hr2 => c_L_tryAbout hl F p0 (13 : Int32) hk_p0 M r2 hr2) rfl rfl (Nat.le_of_ble_eq_true rfl) dL_sound_457 (zrm_k 209 rfl (by omega)) (by omega) (fun r2 hr2 hf => ?_)
      refine r_aload_n C0 dL_sound_460 rfl 0 rfl ?_
      refine r_iconst (v := 2) C0 dL_sound_461 (by decide) ?_
      refine r_callWp C0 (st := [.int r2]) (kc1 := kc + 3) [.ref p0, .int (2 : Int32)] hf vs_159 (fun hl r3 hr3 => c_L_tryAbout hl F p0 (2 : Int32) hk_p0 M r3 hr3) rfl rfl (Nat.le_of_ble_eq_true rfl) dL_sound_462 (zrm_k 209 rfl (by omega)) (by omega) (fun r3 hr3 hf => ?_)
      refine r_iload C0 dL_sound_465 3 rfl ?_
      refine r_iconst (v := 2) C0 dL_sound_467 (by decide) ?_
      refine r_icmp_ne C0 475 dL_sound_468 (by decide) hf (fun hf => ?_) (fun hf => ?_)
      · refine r_iconst (v := 0) C0 dL_sound_475 (by decide) ?_
        refine r_sub (L' := [(0, .ref p0), (3, .int v3), (5, .int v5)]) [0, 1, 2] rfl ?_
        exact g_L_sound_476 C0 F p0 hk_p0 v3 v5 (0 : Int32) r3 r2 _ hf _ (by omega)
      · refine r_iconst (v := 1) C0 dL_sound_471 (by decide) ?_
        refine r_goto C0 476 dL_sound_472 (by decide) ?_
        refine r_sub (L' := [(0, .ref p0), (3, .int v3), (5, .int v5)]) [0, 1, 2] rfl ?_
        exact g_L_sound_476 C0 F p0 hk_p0 v3 v5 (1 : Int32) r3 r2 _ hf _ (by omega)
set_option maxHeartbeats 4000000 in
set_option maxRecDepth 100000 in
theorem g_L_sound_428 {Γ : zCx} {E : zEn} {S : zSk} {X : zMl} {M : zMi} (C0 : zCt Γ E RL cL_sound 8 (Option.some Jvm.ClassFile.FieldType.boolean) [] { frames := 9, cells := 209, slots := 1254, locals := 158 }) (F : Nat) (p0 : Nat) (hk_p0 : K_X10 S p0)  (v3 : Int32) (v5 : Int32) (v7 : Int32) (s0 : Int32) (r : Int32) (hf : f_L_sound_428 F p0 v3 v5 v7 s0 M = some r) (kc : Nat) (hkc : kc + (7) ≤ 209) : zG Γ (zQX Γ E 209 1254 S (.inr (some (.int r)), M) X) E 8 kc (6 * kc) S ZT M X 428 [(0, .ref p0), (3, .int v3), (5, .int v5), (7, .int v7)] [.int s0] := by
  unfold f_L_sound_428 at hf
  refine r_aload_n C0 dL_sound_428 rfl 0 rfl ?_
  refine r_bipush (v := 11) C0 dL_sound_429 (by decide) ?_
  refine r_callWp C0 (st := [.int s0]) (kc1 := kc + 1) [.ref p0, .int (11 : Int32)] hf vs_159 (fun hl r1 hr1 => c_L_tryAbout hl F p0 (11 : Int32) hk_p0 M r1 hr1) rfl rfl (Nat.le_of_ble_eq_true rfl) dL_sound_431 (zrm_k 209 rfl (by omega)) (by omega) (fun r1 hr1 hf => ?_)
  refine r_if_le C0 441 dL_sound_434 (by decide) hf (fun hf => ?_) (fun hf => ?_)
  · refine r_iconst (v := 0) C0 dL_sound_441 (by decide) ?_
    refine r_sub (L' := [(0, .ref p0), (3, .int v3), (5, .int v5), (7, .int v7)]) [0, 1, 2, 3] rfl ?_
    exact g_L_sound_442 C0 F p0 hk_p0 v3 v5 v7 (0 : Int32) s0 _ hf _ (by omega)
  · refine r_iconst (v := 1) C0 dL_sound_437 (by decide) ?_
    refine r_goto C0 442 dL_sound_438 (by decide) ?_
    refine r_sub (L' := [(0, .ref p0), (3, .int v3), (5, .int v5), (7, .int v7)]) [0, 1, 2, 3] rfl ?_
    exact g_L_sound_442 C0 F p0 hk_p0 v3 v5 v7 (1 : Int32) s0 _ hf _ (by omega)
set_option maxHeartbeats 4000000 in
set_option maxRecDepth 100000 in
theorem g_L_sound_417 {Γ : zCx} {E : zEn} {S : zSk} {X : zMl} {M : zMi} (C0 : zCt Γ E RL cL_sound 8 (Option.some Jvm.ClassFile.FieldType.boolean) [] { frames := 9, cells := 209, slots := 1254, locals := 158 }) (F : Nat) (p0 : Nat) (hk_p0 : K_X10 S p0)  (v3 : Int32) (v5 : Int32) (v7 : Int32) (r : Int32) (hf : f_L_sound_417 F p0 v3 v5 v7 M = some r) (kc : Nat) (hkc : kc + (7) ≤ 209) : zG Γ (zQX Γ E 209 1254 S (.inr (some (.int r)), M) X) E 8 kc (6 * kc) S ZT M X 417 [(0, .ref p0), (3, .int v3), (5, .int v5), (7, .int v7)] [] := by
  unfold f_L_sound_417 at hf
  refine r_iload C0 dL_sound_417 3 rfl ?_
  refine r_iconst (v := 2) C0 dL_sound_419 (by decide) ?_
  refine r_icmp_ne C0 427 dL_sound_420 (by decide) hf (fun hf => ?_) (fun hf => ?_)
  · refine r_iconst (v := 0) C0 dL_sound_427 (by decide) ?_
    refine r_sub (L' := [(0, .ref p0), (3, .int v3), (5, .int v5), (7, .int v7)]) [0, 1, 2, 3] rfl ?_
    exact g_L_sound_428 C0 F p0 hk_p0 v3 v5 v7 (0 : Int32) _ hf _ (by omega)
  · refine r_iconst (v := 1) C0 dL_sound_423 (by decide) ?_
    refine r_goto C0 428 dL_sound_424 (by decide) ?_
    refine r_sub (L' := [(0, .ref p0), (3, .int v3), (5, .int v5), (7, .int v7)]) [0, 1, 2, 3] rfl ?_
    exact g_L_sound_428 C0 F p0 hk_p0 v3 v5 v7 (1 : Int32) _ hf _ (by omega)
set_option maxHeartbeats 4000000 in
set_option maxRecDepth 100000 in
theorem g_L_sound_355 {Γ : zCx} {E : zEn} {S : zSk} {X : zMl} {M : zMi} (C0 : zCt Γ E RL cL_sound 8 (Option.some Jvm.ClassFile.FieldType.boolean) [] { frames := 9, cells := 209, slots := 1254, locals := 158 }) (F : Nat) (p0 : Nat) (hk_p0 : K_X10 S p0)  (v1 : Int32) (v2 : Int32) (v3 : Int32) (v5 : Int32) (v6 : Int32) (v7 : Int32) (s0 : Int32) (s1 : Int32) (r : Int32) (hf : f_L_sound_355 F p0 v1 v2 v3 v5 v6 v7 s0 s1 M = some r) (kc : Nat) (hkc : kc + (12) ≤ 209) : zG Γ (zQX Γ E 209 1254 S (.inr (some (.int r)), M) X) E 8 kc (6 * kc) S ZT M X 355 [(0, .ref p0), (1, .int v1), (2, .int v2), (3, .int v3), (5, .int v5), (6, .int v6), (7, .int v7)] [.int s0, .int s1] := by
  unfold f_L_sound_355 at hf
  refine r_icmp_ne C0 511 dL_sound_355 (by decide) hf (fun hf => ?_) (fun hf => ?_)
  · refine r_iconst (v := 0) C0 dL_sound_511 (by decide) ?_
    obtain rfl := Option.some.inj hf
    refine r_widen (k1 := 209) (s1 := 1254) (by omega) (by omega) ?_
    exact rX_zret C0 rfl rfl dL_sound_512
  · refine r_iload C0 dL_sound_358 5 rfl ?_
    refine r_aload_n C0 dL_sound_360 rfl 0 rfl ?_
    refine r_iconst (v := 1) C0 dL_sound_361 (by decide) ?_
    refine r_callWp C0 (st := [.int v6]) (kc1 := kc + 1) [.ref p0, .int (1 : Int32)] hf vs_160 (fun hl r1 hr1 => c_L_tryAccount hl F p0 (1 : Int32) hk_p0 M r1 hr1) rfl rfl (Nat.le_of_ble_eq_true rfl) dL_sound_362 (zrm_k 209 rfl (by omega)) (by omega) (fun r1 hr1 hf => ?_)
    refine r_icmp_ne C0 511 dL_sound_365 (by decide) hf (fun hf => ?_) (fun hf => ?_)
    · refine r_iconst (v := 0) C0 dL_sound_511 (by decide) ?_
      obtain rfl := Option.some.inj hf
      refine r_widen (k1 := 209) (s1 := 1254) (by omega) (by omega) ?_
      exact rX_zret C0 rfl rfl dL_sound_512
    · refine r_iload_n C0 dL_sound_368 rfl 2 rfl ?_
      refine r_iload C0 dL_sound_369 5 rfl ?_
      refine r_icmp_ne C0 511 dL_sound_371 (by decide) hf (fun hf => ?_) (fun hf => ?_)
      · refine r_iconst (v := 0) C0 dL_sound_511 (by decide) ?_
        obtain rfl := Option.some.inj hf
        refine r_widen (k1 := 209) (s1 := 1254) (by omega) (by omega) ?_
        exact rX_zret C0 rfl rfl dL_sound_512
      · refine r_iload_n C0 dL_sound_374 rfl 1 rfl ?_
        refine r_aload_n C0 dL_sound_375 rfl 0 rfl ?_
        refine r_iconst (v := 3) C0 dL_sound_376 (by decide) ?_
        refine r_callWp C0 (st := [.int v1]) (kc1 := kc + 2) [.ref p0, .int (3 : Int32)] hf vs_160 (fun hl r2 hr2 => c_L_tryAccount hl F p0 (3 : Int32) hk_p0 M r2 hr2) rfl rfl (Nat.le_of_ble_eq_true rfl) dL_sound_377 (zrm_k 209 rfl (by omega)) (by omega) (fun r2 hr2 hf => ?_)
        refine r_icmp_ne C0 511 dL_sound_380 (by decide) hf (fun hf => ?_) (fun hf => ?_)
        · refine r_iconst (v := 0) C0 dL_sound_511 (by decide) ?_
          obtain rfl := Option.some.inj hf
          refine r_widen (k1 := 209) (s1 := 1254) (by omega) (by omega) ?_
          exact rX_zret C0 rfl rfl dL_sound_512
        · refine r_aload_n C0 dL_sound_383 rfl 0 rfl ?_
          refine r_iconst (v := 0) C0 dL_sound_384 (by decide) ?_
          refine r_callWp C0 (st := []) (kc1 := kc + 3) [.ref p0, .int (0 : Int32)] hf vs_160 (fun hl r3 hr3 => c_L_tryAccount hl F p0 (0 : Int32) hk_p0 M r3 hr3) rfl rfl (Nat.le_of_ble_eq_true rfl) dL_sound_385 (zrm_k 209 rfl (by omega)) (by omega) (fun r3 hr3 hf => ?_)
          refine r_aload_n C0 dL_sound_388 rfl 0 rfl ?_
          refine r_iconst (v := 4) C0 dL_sound_389 (by decide) ?_
          refine r_callWp C0 (st := [.int r3]) (kc1 := kc + 4) [.ref p0, .int (4 : Int32)] hf vs_159 (fun hl r4 hr4 => c_L_tryAbout hl F p0 (4 : Int32) hk_p0 M r4 hr4) rfl rfl (Nat.le_of_ble_eq_true rfl) dL_sound_390 (zrm_k 209 rfl (by omega)) (by omega) (fun r4 hr4 hf => ?_)
          refine r_iload_n C0 dL_sound_393 rfl 1 rfl ?_
          refine r_iadd C0 dL_sound_394 ?_
          refine r_iload C0 dL_sound_395 5 rfl ?_
          refine r_iadd C0 dL_sound_397 ?_
          refine r_aload_n C0 dL_sound_398 rfl 0 rfl ?_
          refine r_iconst (v := 2) C0 dL_sound_399 (by decide) ?_
          refine r_callWp C0 (st := [.int ((r4 + v1) + v6), .int r3]) (kc1 := kc + 5) [.ref p0, .int (2 : Int32)] hf vs_160 (fun hl r5 hr5 => c_L_tryAccount hl F p0 (2 : Int32) hk_p0 M r5 hr5) rfl rfl (Nat.le_of_ble_eq_true rfl) dL_sound_400 (zrm_k 209 rfl (by omega)) (by omega) (fun r5 hr5 hf => ?_)
          refine r_iadd C0 dL_sound_403 ?_
          refine r_icmp_ne C0 511 dL_sound_404 (by decide) hf (fun hf => ?_) (fun hf => ?_)
          · refine r_iconst (v := 0) C0 dL_sound_511 (by decide) ?_
            obtain rfl := Option.some.inj hf
            refine r_widen (k1 := 209) (s1 := 1254) (by omega) (by omega) ?_
            exact rX_zret C0 rfl rfl dL_sound_512
          · refine r_iload C0 dL_sound_407 6 rfl ?_
            refine r_if_eq C0 417 dL_sound_409 (by decide) hf (fun hf => ?_) (fun hf => ?_)
            · refine r_sub (L' := [(0, .ref p0), (3, .int v3), (5, .int v5), (7, .int v7)]) [0, 3, 4, 6] rfl ?_
              exact g_L_sound_417 C0 F p0 hk_p0 v3 v5 v7 _ hf _ (by omega)
            · refine r_iload_n C0 dL_sound_412 rfl 3 rfl ?_
              refine r_iconst (v := 1) C0 dL_sound_413 (by decide) ?_
              refine r_icmp_ne C0 511 dL_sound_414 (by decide) hf (fun hf => ?_) (fun hf => ?_)
              · refine r_iconst (v := 0) C0 dL_sound_511 (by decide) ?_
                obtain rfl := Option.some.inj hf
                refine r_widen (k1 := 209) (s1 := 1254) (by omega) (by omega) ?_
                exact rX_zret C0 rfl rfl dL_sound_512
              · refine r_sub (L' := [(0, .ref p0), (3, .int v3), (5, .int v5), (7, .int v7)]) [0, 3, 4, 6] rfl ?_
                exact g_L_sound_417 C0 F p0 hk_p0 v3 v5 v7 _ hf _ (by omega)
set_option maxHeartbeats 4000000 in
set_option maxRecDepth 100000 in
theorem g_L_sound_339 {Γ : zCx} {E : zEn} {S : zSk} {X : zMl} {M : zMi} (C0 : zCt Γ E RL cL_sound 8 (Option.some Jvm.ClassFile.FieldType.boolean) [] { frames := 9, cells := 209, slots := 1254, locals := 158 }) (F : Nat) (p0 : Nat) (hk_p0 : K_X10 S p0)  (v1 : Int32) (v2 : Int32) (v3 : Int32) (v5 : Int32) (v6 : Int32) (v7 : Int32) (s0 : Int32) (r : Int32) (hf : f_L_sound_339 F p0 v1 v2 v3 v5 v6 v7 s0 M = some r) (kc : Nat) (hkc : kc + (13) ≤ 209) : zG Γ (zQX Γ E 209 1254 S (.inr (some (.int r)), M) X) E 8 kc (6 * kc) S ZT M X 339 [(0, .ref p0), (1, .int v1), (2, .int v2), (3, .int v3), (5, .int v5), (6, .int v6), (7, .int v7)] [.int s0] := by
  unfold f_L_sound_339 at hf
  refine r_aload_n C0 dL_sound_339 rfl 0 rfl ?_
  refine r_bipush (v := 8) C0 dL_sound_340 (by decide) ?_
  refine r_callWp C0 (st := [.int s0]) (kc1 := kc + 1) [.ref p0, .int (8 : Int32)] hf vs_159 (fun hl r1 hr1 => c_L_tryAbout hl F p0 (8 : Int32) hk_p0 M r1 hr1) rfl rfl (Nat.le_of_ble_eq_true rfl) dL_sound_342 (zrm_k 209 rfl (by omega)) (by omega) (fun r1 hr1 hf => ?_)
  refine r_bipush (v := -9) C0 dL_sound_345 (by decide) ?_
  refine r_icmp_eq C0 354 dL_sound_347 (by decide) hf (fun hf => ?_) (fun hf => ?_)
  · refine r_iconst (v := 0) C0 dL_sound_354 (by decide) ?_
    refine r_sub (L' := [(0, .ref p0), (1, .int v1), (2, .int v2), (3, .int v3), (5, .int v5), (6, .int v6), (7, .int v7)]) [0, 1, 2, 3, 4, 5, 6] rfl ?_
    exact g_L_sound_355 C0 F p0 hk_p0 v1 v2 v3 v5 v6 v7 (0 : Int32) s0 _ hf _ (by omega)
  · refine r_iconst (v := 1) C0 dL_sound_350 (by decide) ?_
    refine r_goto C0 355 dL_sound_351 (by decide) ?_
    refine r_sub (L' := [(0, .ref p0), (1, .int v1), (2, .int v2), (3, .int v3), (5, .int v5), (6, .int v6), (7, .int v7)]) [0, 1, 2, 3, 4, 5, 6] rfl ?_
    exact g_L_sound_355 C0 F p0 hk_p0 v1 v2 v3 v5 v6 v7 (1 : Int32) s0 _ hf _ (by omega)
set_option maxHeartbeats 4000000 in
set_option maxRecDepth 100000 in
theorem g_L_sound_311 {Γ : zCx} {E : zEn} {S : zSk} {X : zMl} {M : zMi} (C0 : zCt Γ E RL cL_sound 8 (Option.some Jvm.ClassFile.FieldType.boolean) [] { frames := 9, cells := 209, slots := 1254, locals := 158 }) (F : Nat) (p0 : Nat) (hk_p0 : K_X10 S p0)  (v1 : Int32) (v2 : Int32) (v3 : Int32) (v4 : Int32) (v5 : Int32) (v6 : Int32) (r : Int32) (hf : f_L_sound_311 F p0 v1 v2 v3 v4 v5 v6 M = some r) (kc : Nat) (hkc : kc + (14) ≤ 209) : zG Γ (zQX Γ E 209 1254 S (.inr (some (.int r)), M) X) E 8 kc (6 * kc) S ZT M X 311 [(0, .ref p0), (1, .int v1), (2, .int v2), (3, .int v3), (4, .int v4), (5, .int v5), (6, .int v6)] [] := by
  unfold f_L_sound_311 at hf
  refine r_aload_n C0 dL_sound_311 rfl 0 rfl ?_
  refine r_bipush (v := 10) C0 dL_sound_312 (by decide) ?_
  refine r_callWp C0 (st := []) (kc1 := kc + 1) [.ref p0, .int (10 : Int32)] hf vs_159 (fun hl r1 hr1 => c_L_tryAbout hl F p0 (10 : Int32) hk_p0 M r1 hr1) rfl rfl (Nat.le_of_ble_eq_true rfl) dL_sound_314 (zrm_k 209 rfl (by omega)) (by omega) (fun r1 hr1 hf => ?_)
  refine r_istore (L' := [(7, .int r1), (0, .ref p0), (1, .int v1), (2, .int v2), (3, .int v3), (4, .int v4), (5, .int v5), (6, .int v6)]) C0 dL_sound_317 (by decide) rfl ?_
  refine r_iload C0 dL_sound_319 5 rfl ?_
  refine r_if_eq C0 511 dL_sound_321 (by decide) hf (fun hf => ?_) (fun hf => ?_)
  · refine r_iconst (v := 0) C0 dL_sound_511 (by decide) ?_
    obtain rfl := Option.some.inj hf
    refine r_widen (k1 := 209) (s1 := 1254) (by omega) (by omega) ?_
    exact rX_zret C0 rfl rfl dL_sound_512
  · refine r_iload_n C0 dL_sound_324 rfl 4 rfl ?_
    refine r_iconst (v := 1) C0 dL_sound_325 (by decide) ?_
    refine r_icmp_gt C0 511 dL_sound_326 (by decide) hf (fun hf => ?_) (fun hf => ?_)
    · refine r_iconst (v := 0) C0 dL_sound_511 (by decide) ?_
      obtain rfl := Option.some.inj hf
      refine r_widen (k1 := 209) (s1 := 1254) (by omega) (by omega) ?_
      exact rX_zret C0 rfl rfl dL_sound_512
    · refine r_iload_n C0 dL_sound_329 rfl 4 rfl ?_
      refine r_iconst (v := 1) C0 dL_sound_330 (by decide) ?_
      refine r_icmp_ne C0 338 dL_sound_331 (by decide) hf (fun hf => ?_) (fun hf => ?_)
      · refine r_iconst (v := 0) C0 dL_sound_338 (by decide) ?_
        refine r_sub (L' := [(0, .ref p0), (1, .int v1), (2, .int v2), (3, .int v3), (5, .int v5), (6, .int v6), (7, .int r1)]) [1, 2, 3, 4, 6, 7, 0] rfl ?_
        exact g_L_sound_339 C0 F p0 hk_p0 v1 v2 v3 v5 v6 r1 (0 : Int32) _ hf _ (by omega)
      · refine r_iconst (v := 1) C0 dL_sound_334 (by decide) ?_
        refine r_goto C0 339 dL_sound_335 (by decide) ?_
        refine r_sub (L' := [(0, .ref p0), (1, .int v1), (2, .int v2), (3, .int v3), (5, .int v5), (6, .int v6), (7, .int r1)]) [1, 2, 3, 4, 6, 7, 0] rfl ?_
        exact g_L_sound_339 C0 F p0 hk_p0 v1 v2 v3 v5 v6 r1 (1 : Int32) _ hf _ (by omega)
set_option maxHeartbeats 4000000 in
set_option maxRecDepth 100000 in
theorem g_L_sound_267 {Γ : zCx} {E : zEn} {S : zSk} {X : zMl} {M : zMi} (C0 : zCt Γ E RL cL_sound 8 (Option.some Jvm.ClassFile.FieldType.boolean) [] { frames := 9, cells := 209, slots := 1254, locals := 158 }) (F : Nat) (p0 : Nat) (k_178 : Int32 → Int32 → Int32 → Int32 → Int32 → Int32 → Int32 → zMi → Option (Int32)) (TK_178 : Nat) (hk_p0 : K_X10 S p0) (hk_k_178 : ∀ (v1_ : Int32) (v2_ : Int32) (v3_ : Int32) (v4_ : Int32) (v5_ : Int32) (v6_ : Int32) (v7_ : Int32) (r : Int32) , k_178 v1_ v2_ v3_ v4_ v5_ v6_ v7_ M = some r → ∀ kc : Nat, kc + TK_178 ≤ 209 → zG Γ (zQX Γ E 209 1254 S (.inr (some (.int r)), M) X) E 8 kc (6 * kc) S ZT M X 178 [(0, .ref p0), (1, .int v1_), (2, .int v2_), (3, .int v3_), (4, .int v4_), (5, .int v5_), (6, .int v6_), (7, .int v7_)] [])  (v1 : Int32) (v2 : Int32) (v3 : Int32) (v5 : Int32) (v6 : Int32) (v7 : Int32) (r : Int32) (hf : f_L_sound_267 F p0 k_178 v1 v2 v3 v5 v6 v7 M = some r) (kc : Nat) (hkc : kc + (5 + TK_178) ≤ 209) : zG Γ (zQX Γ E 209 1254 S (.inr (some (.int r)), M) X) E 8 kc (6 * kc) S ZT M X 267 [(0, .ref p0), (1, .int v1), (2, .int v2), (3, .int v3), (5, .int v5), (6, .int v6), (7, .int v7)] [] := by
  unfold f_L_sound_267 at hf
  refine r_iload C0 dL_sound_267 6 rfl ?_
  refine r_iload C0 dL_sound_269 4 rfl ?_
  refine r_icmp_ne C0 298 dL_sound_271 (by decide) hf (fun hf => ?_) (fun hf => ?_)
  · refine r_iconst (v := 1) C0 dL_sound_298 (by decide) ?_
    refine r_goto C0 303 dL_sound_299 (by decide) ?_
    refine r_istore (L' := [(4, .int (1 : Int32)), (0, .ref p0), (1, .int v1), (2, .int v2), (3, .int v3), (5, .int v5), (6, .int v6), (7, .int v7)]) C0 dL_sound_303 (by decide) rfl ?_
    refine r_iinc (j := 7) (v := (v7 + (1 : Int32))) (L' := [(7, .int (v7 + (1 : Int32))), (4, .int (1 : Int32)), (0, .ref p0), (1, .int v1), (2, .int v2), (3, .int v3), (5, .int v5), (6, .int v6)]) C0 dL_sound_305 rfl rfl (by decide) rfl ?_
    refine r_goto C0 178 dL_sound_308 (by decide) ?_
    refine r_sub (L' := [(0, .ref p0), (1, .int v1), (2, .int v2), (3, .int v3), (4, .int (1 : Int32)), (5, .int v5), (6, .int v6), (7, .int (v7 + (1 : Int32)))]) [2, 3, 4, 5, 1, 6, 7, 0] rfl ?_
    exact hk_k_178 v1 v2 v3 (1 : Int32) v5 v6 (v7 + (1 : Int32)) _ hf _ (by omega)
  · refine r_aload_n C0 dL_sound_274 rfl 0 rfl ?_
    refine r_bipush (v := 7) C0 dL_sound_275 (by decide) ?_
    refine r_callWp C0 (st := []) (kc1 := kc + 1) [.ref p0, .int (7 : Int32)] hf vs_159 (fun hl r1 hr1 => c_L_tryAbout hl F p0 (7 : Int32) hk_p0 M r1 hr1) rfl rfl (Nat.le_of_ble_eq_true rfl) dL_sound_277 (zrm_k 209 rfl (by omega)) (by omega) (fun r1 hr1 hf => ?_)
    refine r_aload_n C0 dL_sound_280 rfl 0 rfl ?_
    refine r_iload C0 dL_sound_281 6 rfl ?_
    refine r_iconst (v := 0) C0 dL_sound_283 (by decide) ?_
    refine r_callWp C0 (st := [.int r1]) (kc1 := kc + 3) [.ref p0, .int v7, .int (0 : Int32)] hf vs_164 (fun hl r2 hr2 => c_L_tryZone hl F p0 v7 (0 : Int32) hk_p0 M r2 hr2) rfl rfl (Nat.le_of_ble_eq_true rfl) dL_sound_284 (zrm_k 209 rfl (by omega)) (by omega) (fun r2 hr2 hf => ?_)
    refine r_aload_n C0 dL_sound_287 rfl 0 rfl ?_
    refine r_iload C0 dL_sound_288 6 rfl ?_
    refine r_iconst (v := 4) C0 dL_sound_290 (by decide) ?_
    refine r_callWp C0 (st := [.int r2, .int r1]) (kc1 := kc + 5) [.ref p0, .int v7, .int (4 : Int32)] hf vs_164 (fun hl r3 hr3 => c_L_tryZone hl F p0 v7 (4 : Int32) hk_p0 M r3 hr3) rfl rfl (Nat.le_of_ble_eq_true rfl) dL_sound_291 (zrm_k 209 rfl (by omega)) (by omega) (fun r3 hr3 hf => ?_)
    refine r_isub C0 dL_sound_294 ?_
    refine r_icmp_ne C0 302 dL_sound_295 (by decide) hf (fun hf => ?_) (fun hf => ?_)
    · refine r_iconst (v := 0) C0 dL_sound_302 (by decide) ?_
      refine r_istore (L' := [(4, .int (0 : Int32)), (0, .ref p0), (1, .int v1), (2, .int v2), (3, .int v3), (5, .int v5), (6, .int v6), (7, .int v7)]) C0 dL_sound_303 (by decide) rfl ?_
      refine r_iinc (j := 7) (v := (v7 + (1 : Int32))) (L' := [(7, .int (v7 + (1 : Int32))), (4, .int (0 : Int32)), (0, .ref p0), (1, .int v1), (2, .int v2), (3, .int v3), (5, .int v5), (6, .int v6)]) C0 dL_sound_305 rfl rfl (by decide) rfl ?_
      refine r_goto C0 178 dL_sound_308 (by decide) ?_
      refine r_sub (L' := [(0, .ref p0), (1, .int v1), (2, .int v2), (3, .int v3), (4, .int (0 : Int32)), (5, .int v5), (6, .int v6), (7, .int (v7 + (1 : Int32)))]) [2, 3, 4, 5, 1, 6, 7, 0] rfl ?_
      exact hk_k_178 v1 v2 v3 (0 : Int32) v5 v6 (v7 + (1 : Int32)) _ hf _ (by omega)
    · refine r_iconst (v := 1) C0 dL_sound_298 (by decide) ?_
      refine r_goto C0 303 dL_sound_299 (by decide) ?_
      refine r_istore (L' := [(4, .int (1 : Int32)), (0, .ref p0), (1, .int v1), (2, .int v2), (3, .int v3), (5, .int v5), (6, .int v6), (7, .int v7)]) C0 dL_sound_303 (by decide) rfl ?_
      refine r_iinc (j := 7) (v := (v7 + (1 : Int32))) (L' := [(7, .int (v7 + (1 : Int32))), (4, .int (1 : Int32)), (0, .ref p0), (1, .int v1), (2, .int v2), (3, .int v3), (5, .int v5), (6, .int v6)]) C0 dL_sound_305 rfl rfl (by decide) rfl ?_
      refine r_goto C0 178 dL_sound_308 (by decide) ?_
      refine r_sub (L' := [(0, .ref p0), (1, .int v1), (2, .int v2), (3, .int v3), (4, .int (1 : Int32)), (5, .int v5), (6, .int v6), (7, .int (v7 + (1 : Int32)))]) [2, 3, 4, 5, 1, 6, 7, 0] rfl ?_
      exact hk_k_178 v1 v2 v3 (1 : Int32) v5 v6 (v7 + (1 : Int32)) _ hf _ (by omega)
set_option maxHeartbeats 4000000 in
set_option maxRecDepth 100000 in
theorem g_L_sound_240 {Γ : zCx} {E : zEn} {S : zSk} {X : zMl} {M : zMi} (C0 : zCt Γ E RL cL_sound 8 (Option.some Jvm.ClassFile.FieldType.boolean) [] { frames := 9, cells := 209, slots := 1254, locals := 158 }) (F : Nat) (p0 : Nat) (k_178 : Int32 → Int32 → Int32 → Int32 → Int32 → Int32 → Int32 → zMi → Option (Int32)) (TK_178 : Nat) (hk_p0 : K_X10 S p0) (hk_k_178 : ∀ (v1_ : Int32) (v2_ : Int32) (v3_ : Int32) (v4_ : Int32) (v5_ : Int32) (v6_ : Int32) (v7_ : Int32) (r : Int32) , k_178 v1_ v2_ v3_ v4_ v5_ v6_ v7_ M = some r → ∀ kc : Nat, kc + TK_178 ≤ 209 → zG Γ (zQX Γ E 209 1254 S (.inr (some (.int r)), M) X) E 8 kc (6 * kc) S ZT M X 178 [(0, .ref p0), (1, .int v1_), (2, .int v2_), (3, .int v3_), (4, .int v4_), (5, .int v5_), (6, .int v6_), (7, .int v7_)] [])  (v1 : Int32) (v2 : Int32) (v3 : Int32) (v5 : Int32) (v6 : Int32) (v7 : Int32) (s0 : Int32) (s1 : Int32) (r : Int32) (hf : f_L_sound_240 F p0 k_178 v1 v2 v3 v5 v6 v7 s0 s1 M = some r) (kc : Nat) (hkc : kc + (9 + TK_178) ≤ 209) : zG Γ (zQX Γ E 209 1254 S (.inr (some (.int r)), M) X) E 8 kc (6 * kc) S ZT M X 240 [(0, .ref p0), (1, .int v1), (2, .int v2), (3, .int v3), (5, .int v5), (6, .int v6), (7, .int v7)] [.int s0, .int s1] := by
  unfold f_L_sound_240 at hf
  refine r_icmp_ne C0 302 dL_sound_240 (by decide) hf (fun hf => ?_) (fun hf => ?_)
  · refine r_iconst (v := 0) C0 dL_sound_302 (by decide) ?_
    refine r_istore (L' := [(4, .int (0 : Int32)), (0, .ref p0), (1, .int v1), (2, .int v2), (3, .int v3), (5, .int v5), (6, .int v6), (7, .int v7)]) C0 dL_sound_303 (by decide) rfl ?_
    refine r_iinc (j := 7) (v := (v7 + (1 : Int32))) (L' := [(7, .int (v7 + (1 : Int32))), (4, .int (0 : Int32)), (0, .ref p0), (1, .int v1), (2, .int v2), (3, .int v3), (5, .int v5), (6, .int v6)]) C0 dL_sound_305 rfl rfl (by decide) rfl ?_
    refine r_goto C0 178 dL_sound_308 (by decide) ?_
    refine r_sub (L' := [(0, .ref p0), (1, .int v1), (2, .int v2), (3, .int v3), (4, .int (0 : Int32)), (5, .int v5), (6, .int v6), (7, .int (v7 + (1 : Int32)))]) [2, 3, 4, 5, 1, 6, 7, 0] rfl ?_
    exact hk_k_178 v1 v2 v3 (0 : Int32) v5 v6 (v7 + (1 : Int32)) _ hf _ (by omega)
  · refine r_iload C0 dL_sound_243 6 rfl ?_
    refine r_iload C0 dL_sound_245 4 rfl ?_
    refine r_icmp_le C0 267 dL_sound_247 (by decide) hf (fun hf => ?_) (fun hf => ?_)
    · refine r_sub (L' := [(0, .ref p0), (1, .int v1), (2, .int v2), (3, .int v3), (5, .int v5), (6, .int v6), (7, .int v7)]) [0, 1, 2, 3, 4, 5, 6] rfl ?_
      exact g_L_sound_267 C0 F p0 k_178 TK_178 hk_p0 hk_k_178 v1 v2 v3 v5 v6 v7 _ hf _ (by omega)
    · refine r_aload_n C0 dL_sound_250 rfl 0 rfl ?_
      refine r_iload C0 dL_sound_251 6 rfl ?_
      refine r_iconst (v := 4) C0 dL_sound_253 (by decide) ?_
      refine r_callWp C0 (st := []) (kc1 := kc + 2) [.ref p0, .int v7, .int (4 : Int32)] hf vs_164 (fun hl r1 hr1 => c_L_tryZone hl F p0 v7 (4 : Int32) hk_p0 M r1 hr1) rfl rfl (Nat.le_of_ble_eq_true rfl) dL_sound_254 (zrm_k 209 rfl (by omega)) (by omega) (fun r1 hr1 hf => ?_)
      refine r_aload_n C0 dL_sound_257 rfl 0 rfl ?_
      refine r_iload C0 dL_sound_258 6 rfl ?_
      refine r_iconst (v := 0) C0 dL_sound_260 (by decide) ?_
      refine r_callWp C0 (st := [.int r1]) (kc1 := kc + 4) [.ref p0, .int v7, .int (0 : Int32)] hf vs_164 (fun hl r2 hr2 => c_L_tryZone hl F p0 v7 (0 : Int32) hk_p0 M r2 hr2) rfl rfl (Nat.le_of_ble_eq_true rfl) dL_sound_261 (zrm_k 209 rfl (by omega)) (by omega) (fun r2 hr2 hf => ?_)
      refine r_icmp_ne C0 302 dL_sound_264 (by decide) hf (fun hf => ?_) (fun hf => ?_)
      · refine r_iconst (v := 0) C0 dL_sound_302 (by decide) ?_
        refine r_istore (L' := [(4, .int (0 : Int32)), (0, .ref p0), (1, .int v1), (2, .int v2), (3, .int v3), (5, .int v5), (6, .int v6), (7, .int v7)]) C0 dL_sound_303 (by decide) rfl ?_
        refine r_iinc (j := 7) (v := (v7 + (1 : Int32))) (L' := [(7, .int (v7 + (1 : Int32))), (4, .int (0 : Int32)), (0, .ref p0), (1, .int v1), (2, .int v2), (3, .int v3), (5, .int v5), (6, .int v6)]) C0 dL_sound_305 rfl rfl (by decide) rfl ?_
        refine r_goto C0 178 dL_sound_308 (by decide) ?_
        refine r_sub (L' := [(0, .ref p0), (1, .int v1), (2, .int v2), (3, .int v3), (4, .int (0 : Int32)), (5, .int v5), (6, .int v6), (7, .int (v7 + (1 : Int32)))]) [2, 3, 4, 5, 1, 6, 7, 0] rfl ?_
        exact hk_k_178 v1 v2 v3 (0 : Int32) v5 v6 (v7 + (1 : Int32)) _ hf _ (by omega)
      · refine r_sub (L' := [(0, .ref p0), (1, .int v1), (2, .int v2), (3, .int v3), (5, .int v5), (6, .int v6), (7, .int v7)]) [0, 1, 2, 3, 4, 5, 6] rfl ?_
        exact g_L_sound_267 C0 F p0 k_178 TK_178 hk_p0 hk_k_178 v1 v2 v3 v5 v6 v7 _ hf _ (by omega)
set_option maxHeartbeats 4000000 in
set_option maxRecDepth 100000 in
theorem g_L_sound_228 {Γ : zCx} {E : zEn} {S : zSk} {X : zMl} {M : zMi} (C0 : zCt Γ E RL cL_sound 8 (Option.some Jvm.ClassFile.FieldType.boolean) [] { frames := 9, cells := 209, slots := 1254, locals := 158 }) (F : Nat) (p0 : Nat) (k_178 : Int32 → Int32 → Int32 → Int32 → Int32 → Int32 → Int32 → zMi → Option (Int32)) (TK_178 : Nat) (hk_p0 : K_X10 S p0) (hk_k_178 : ∀ (v1_ : Int32) (v2_ : Int32) (v3_ : Int32) (v4_ : Int32) (v5_ : Int32) (v6_ : Int32) (v7_ : Int32) (r : Int32) , k_178 v1_ v2_ v3_ v4_ v5_ v6_ v7_ M = some r → ∀ kc : Nat, kc + TK_178 ≤ 209 → zG Γ (zQX Γ E 209 1254 S (.inr (some (.int r)), M) X) E 8 kc (6 * kc) S ZT M X 178 [(0, .ref p0), (1, .int v1_), (2, .int v2_), (3, .int v3_), (4, .int v4_), (5, .int v5_), (6, .int v6_), (7, .int v7_)] [])  (v1 : Int32) (v2 : Int32) (v3 : Int32) (v5 : Int32) (v6 : Int32) (v7 : Int32) (s0 : Int32) (r : Int32) (hf : f_L_sound_228 F p0 k_178 v1 v2 v3 v5 v6 v7 s0 M = some r) (kc : Nat) (hkc : kc + (9 + TK_178) ≤ 209) : zG Γ (zQX Γ E 209 1254 S (.inr (some (.int r)), M) X) E 8 kc (6 * kc) S ZT M X 228 [(0, .ref p0), (1, .int v1), (2, .int v2), (3, .int v3), (5, .int v5), (6, .int v6), (7, .int v7)] [.int s0] := by
  unfold f_L_sound_228 at hf
  refine r_iload C0 dL_sound_228 6 rfl ?_
  refine r_iload C0 dL_sound_230 4 rfl ?_
  refine r_icmp_ge C0 239 dL_sound_232 (by decide) hf (fun hf => ?_) (fun hf => ?_)
  · refine r_iconst (v := 0) C0 dL_sound_239 (by decide) ?_
    refine r_sub (L' := [(0, .ref p0), (1, .int v1), (2, .int v2), (3, .int v3), (5, .int v5), (6, .int v6), (7, .int v7)]) [0, 1, 2, 3, 4, 5, 6] rfl ?_
    exact g_L_sound_240 C0 F p0 k_178 TK_178 hk_p0 hk_k_178 v1 v2 v3 v5 v6 v7 (0 : Int32) s0 _ hf _ (by omega)
  · refine r_iconst (v := 1) C0 dL_sound_235 (by decide) ?_
    refine r_goto C0 240 dL_sound_236 (by decide) ?_
    refine r_sub (L' := [(0, .ref p0), (1, .int v1), (2, .int v2), (3, .int v3), (5, .int v5), (6, .int v6), (7, .int v7)]) [0, 1, 2, 3, 4, 5, 6] rfl ?_
    exact g_L_sound_240 C0 F p0 k_178 TK_178 hk_p0 hk_k_178 v1 v2 v3 v5 v6 v7 (1 : Int32) s0 _ hf _ (by omega)
set_option maxHeartbeats 4000000 in
set_option maxRecDepth 100000 in
theorem g_L_sound_178 {Γ : zCx} {E : zEn} {S : zSk} {X : zMl} {M : zMi} (C0 : zCt Γ E RL cL_sound 8 (Option.some Jvm.ClassFile.FieldType.boolean) [] { frames := 9, cells := 209, slots := 1254, locals := 158 }) (F : Nat) (p0 : Nat) (hk_p0 : K_X10 S p0)  : ∀ (n : Nat) (v1 : Int32) (v2 : Int32) (v3 : Int32) (v4 : Int32) (v5 : Int32) (v6 : Int32) (v7 : Int32) (r : Int32), f_L_sound_178 F p0 n v1 v2 v3 v4 v5 v6 v7 M = some r → ∀ kc : Nat, kc + (n * 16 + 15) ≤ 209 → zG Γ (zQX Γ E 209 1254 S (.inr (some (.int r)), M) X) E 8 kc (6 * kc) S ZT M X 178 [(0, .ref p0), (1, .int v1), (2, .int v2), (3, .int v3), (4, .int v4), (5, .int v5), (6, .int v6), (7, .int v7)] [] := by
  intro n
  induction n with
  | zero => intro v1 v2 v3 v4 v5 v6 v7 r hf; cases hf
  | succ n ih =>
    intro v1 v2 v3 v4 v5 v6 v7 r hf kc hkc
    refine r_iload C0 dL_sound_178 7 rfl ?_
    refine r_aload_n C0 dL_sound_180 rfl 0 rfl ?_
    refine r_iconst (v := 0) C0 dL_sound_181 (by decide) ?_
    refine r_callWp C0 (st := [.int v7]) (kc1 := kc + 1) [.ref p0, .int (0 : Int32)] hf vs_159 (fun hl r1 hr1 => c_L_tryAbout hl F p0 (0 : Int32) hk_p0 M r1 hr1) rfl rfl (Nat.le_of_ble_eq_true rfl) dL_sound_182 (zrm_k 209 rfl (by omega)) (by omega) (fun r1 hr1 hf => ?_)
    refine r_icmp_ge C0 311 dL_sound_185 (by decide) hf (fun hf => ?_) (fun hf => ?_)
    · refine r_sub (L' := [(0, .ref p0), (1, .int v1), (2, .int v2), (3, .int v3), (4, .int v4), (5, .int v5), (6, .int v6)]) [0, 1, 2, 3, 4, 5, 6] rfl ?_
      exact g_L_sound_311 C0 F p0 hk_p0 v1 v2 v3 v4 v5 v6 _ hf _ (by omega)
    · refine r_iload C0 dL_sound_188 4 rfl ?_
      refine r_if_eq C0 311 dL_sound_190 (by decide) hf (fun hf => ?_) (fun hf => ?_)
      · refine r_sub (L' := [(0, .ref p0), (1, .int v1), (2, .int v2), (3, .int v3), (4, .int v4), (5, .int v5), (6, .int v6)]) [0, 1, 2, 3, 4, 5, 6] rfl ?_
        exact g_L_sound_311 C0 F p0 hk_p0 v1 v2 v3 v4 v5 v6 _ hf _ (by omega)
      · refine r_iload C0 dL_sound_193 6 rfl ?_
        refine r_aload_n C0 dL_sound_195 rfl 0 rfl ?_
        refine r_iload C0 dL_sound_196 7 rfl ?_
        refine r_iconst (v := 0) C0 dL_sound_198 (by decide) ?_
        refine r_callWp C0 (st := [.int v6]) (kc1 := kc + 3) [.ref p0, .int v7, .int (0 : Int32)] hf vs_164 (fun hl r2 hr2 => c_L_tryZone hl F p0 v7 (0 : Int32) hk_p0 M r2 hr2) rfl rfl (Nat.le_of_ble_eq_true rfl) dL_sound_199 (zrm_k 209 rfl (by omega)) (by omega) (fun r2 hr2 hf => ?_)
        refine r_aload_n C0 dL_sound_202 rfl 0 rfl ?_
        refine r_iload C0 dL_sound_203 7 rfl ?_
        refine r_iconst (v := 4) C0 dL_sound_205 (by decide) ?_
        refine r_callWp C0 (st := [.int r2, .int v6]) (kc1 := kc + 5) [.ref p0, .int v7, .int (4 : Int32)] hf vs_164 (fun hl r3 hr3 => c_L_tryZone hl F p0 v7 (4 : Int32) hk_p0 M r3 hr3) rfl rfl (Nat.le_of_ble_eq_true rfl) dL_sound_206 (zrm_k 209 rfl (by omega)) (by omega) (fun r3 hr3 hf => ?_)
        refine r_isub C0 dL_sound_209 ?_
        refine r_iadd C0 dL_sound_210 ?_
        refine r_nm hf (fun x4 hf => ?_)
        refine r_istore (L' := [(6, .int x4), (0, .ref p0), (1, .int v1), (2, .int v2), (3, .int v3), (4, .int v4), (5, .int v5), (7, .int v7)]) C0 dL_sound_211 (by decide) rfl ?_
        refine r_aload_n C0 dL_sound_213 rfl 1 rfl ?_
        refine r_iload C0 dL_sound_214 7 rfl ?_
        refine r_iconst (v := 4) C0 dL_sound_216 (by decide) ?_
        refine r_callWp C0 (st := []) (kc1 := kc + 7) [.ref p0, .int v7, .int (4 : Int32)] hf vs_164 (fun hl r5 hr5 => c_L_tryZone hl F p0 v7 (4 : Int32) hk_p0 M r5 hr5) rfl rfl (Nat.le_of_ble_eq_true rfl) dL_sound_217 (zrm_k 209 rfl (by omega)) (by omega) (fun r5 hr5 hf => ?_)
        refine r_if_ne C0 227 dL_sound_220 (by decide) hf (fun hf => ?_) (fun hf => ?_)
        · refine r_iconst (v := 0) C0 dL_sound_227 (by decide) ?_
          refine r_sub (L' := [(0, .ref p0), (1, .int v1), (2, .int v2), (3, .int v3), (5, .int v5), (6, .int x4), (7, .int v7)]) [1, 2, 3, 4, 6, 0, 7] rfl ?_
          exact g_L_sound_228 C0 F p0 (f_L_sound_178 F p0 n) (n * 16 + 15) hk_p0 ih v1 v2 v3 v5 x4 v7 (0 : Int32) _ hf _ (by omega)
        · refine r_iconst (v := 1) C0 dL_sound_223 (by decide) ?_
          refine r_goto C0 228 dL_sound_224 (by decide) ?_
          refine r_sub (L' := [(0, .ref p0), (1, .int v1), (2, .int v2), (3, .int v3), (5, .int v5), (6, .int x4), (7, .int v7)]) [1, 2, 3, 4, 6, 0, 7] rfl ?_
          exact g_L_sound_228 C0 F p0 (f_L_sound_178 F p0 n) (n * 16 + 15) hk_p0 ih v1 v2 v3 v5 x4 v7 (1 : Int32) _ hf _ (by omega)
set_option maxHeartbeats 4000000 in
set_option maxRecDepth 100000 in
theorem g_L_sound_164 {Γ : zCx} {E : zEn} {S : zSk} {X : zMl} {M : zMi} (C0 : zCt Γ E RL cL_sound 8 (Option.some Jvm.ClassFile.FieldType.boolean) [] { frames := 9, cells := 209, slots := 1254, locals := 158 }) (F : Nat) (p0 : Nat) (hk_p0 : K_X10 S p0)  (v1 : Int32) (v2 : Int32) (v3 : Int32) (v4 : Int32) (r : Int32) (hf : f_L_sound_164 F p0 v1 v2 v3 v4 M = some r) (kc : Nat) (hkc : kc + (112) ≤ 209) : zG Γ (zQX Γ E 209 1254 S (.inr (some (.int r)), M) X) E 8 kc (6 * kc) S ZT M X 164 [(0, .ref p0), (1, .int v1), (2, .int v2), (3, .int v3), (4, .int v4)] [] := by
  unfold f_L_sound_164 at hf
  refine r_aload_n C0 dL_sound_164 rfl 0 rfl ?_
  refine r_bipush (v := 6) C0 dL_sound_165 (by decide) ?_
  refine r_callWp C0 (st := []) (kc1 := kc + 1) [.ref p0, .int (6 : Int32)] hf vs_159 (fun hl r1 hr1 => c_L_tryAbout hl F p0 (6 : Int32) hk_p0 M r1 hr1) rfl rfl (Nat.le_of_ble_eq_true rfl) dL_sound_167 (zrm_k 209 rfl (by omega)) (by omega) (fun r1 hr1 hf => ?_)
  refine r_istore (L' := [(5, .int r1), (0, .ref p0), (1, .int v1), (2, .int v2), (3, .int v3), (4, .int v4)]) C0 dL_sound_170 (by decide) rfl ?_
  refine r_iconst (v := 0) C0 dL_sound_172 (by decide) ?_
  refine r_istore (L' := [(6, .int (0 : Int32)), (5, .int r1), (0, .ref p0), (1, .int v1), (2, .int v2), (3, .int v3), (4, .int v4)]) C0 dL_sound_173 (by decide) rfl ?_
  refine r_iconst (v := 0) C0 dL_sound_175 (by decide) ?_
  refine r_istore (L' := [(7, .int (0 : Int32)), (6, .int (0 : Int32)), (5, .int r1), (0, .ref p0), (1, .int v1), (2, .int v2), (3, .int v3), (4, .int v4)]) C0 dL_sound_176 (by decide) rfl ?_
  refine r_sub (L' := [(0, .ref p0), (1, .int v1), (2, .int v2), (3, .int v3), (4, .int v4), (5, .int r1), (6, .int (0 : Int32)), (7, .int (0 : Int32))]) [3, 4, 5, 6, 7, 2, 1, 0] rfl ?_
  exact g_L_sound_178 C0 F p0 hk_p0 6 v1 v2 v3 v4 r1 (0 : Int32) (0 : Int32) _ hf _ (by omega)
set_option maxHeartbeats 4000000 in
set_option maxRecDepth 100000 in
theorem g_L_sound_131 {Γ : zCx} {E : zEn} {S : zSk} {X : zMl} {M : zMi} (C0 : zCt Γ E RL cL_sound 8 (Option.some Jvm.ClassFile.FieldType.boolean) [] { frames := 9, cells := 209, slots := 1254, locals := 158 }) (F : Nat) (p0 : Nat) (k_12 : Int32 → Int32 → Int32 → Int32 → Int32 → zMi → Option (Int32)) (TK_12 : Nat) (hk_p0 : K_X10 S p0) (hk_k_12 : ∀ (v1_ : Int32) (v2_ : Int32) (v3_ : Int32) (v4_ : Int32) (v5_ : Int32) (r : Int32) , k_12 v1_ v2_ v3_ v4_ v5_ M = some r → ∀ kc : Nat, kc + TK_12 ≤ 209 → zG Γ (zQX Γ E 209 1254 S (.inr (some (.int r)), M) X) E 8 kc (6 * kc) S ZT M X 12 [(0, .ref p0), (1, .int v1_), (2, .int v2_), (3, .int v3_), (4, .int v4_), (5, .int v5_)] [])  (v1 : Int32) (v2 : Int32) (v3 : Int32) (v5 : Int32) (v6 : Int32) (s0 : Int32) (s1 : Int32) (r : Int32) (hf : f_L_sound_131 F p0 k_12 v1 v2 v3 v5 v6 s0 s1 M = some r) (kc : Nat) (hkc : kc + (1 + TK_12) ≤ 209) : zG Γ (zQX Γ E 209 1254 S (.inr (some (.int r)), M) X) E 8 kc (6 * kc) S ZT M X 131 [(0, .ref p0), (1, .int v1), (2, .int v2), (3, .int v3), (5, .int v5), (6, .int v6)] [.int s0, .int s1] := by
  unfold f_L_sound_131 at hf
  refine r_icmp_ne C0 155 dL_sound_131 (by decide) hf (fun hf => ?_) (fun hf => ?_)
  · refine r_iconst (v := 0) C0 dL_sound_155 (by decide) ?_
    refine r_istore (L' := [(4, .int (0 : Int32)), (0, .ref p0), (1, .int v1), (2, .int v2), (3, .int v3), (5, .int v5), (6, .int v6)]) C0 dL_sound_156 (by decide) rfl ?_
    refine r_iinc (j := 5) (v := (v5 + (1 : Int32))) (L' := [(5, .int (v5 + (1 : Int32))), (4, .int (0 : Int32)), (0, .ref p0), (1, .int v1), (2, .int v2), (3, .int v3), (6, .int v6)]) C0 dL_sound_158 rfl rfl (by decide) rfl ?_
    refine r_goto C0 12 dL_sound_161 (by decide) ?_
    refine r_sub (L' := [(0, .ref p0), (1, .int v1), (2, .int v2), (3, .int v3), (4, .int (0 : Int32)), (5, .int (v5 + (1 : Int32)))]) [2, 3, 4, 5, 1, 0] rfl ?_
    exact hk_k_12 v1 v2 v3 (0 : Int32) (v5 + (1 : Int32)) _ hf _ (by omega)
  · refine r_iload C0 dL_sound_134 5 rfl ?_
    refine r_iconst (v := 3) C0 dL_sound_136 (by decide) ?_
    refine r_icmp_ne C0 151 dL_sound_137 (by decide) hf (fun hf => ?_) (fun hf => ?_)
    · refine r_iconst (v := 1) C0 dL_sound_151 (by decide) ?_
      refine r_goto C0 156 dL_sound_152 (by decide) ?_
      refine r_istore (L' := [(4, .int (1 : Int32)), (0, .ref p0), (1, .int v1), (2, .int v2), (3, .int v3), (5, .int v5), (6, .int v6)]) C0 dL_sound_156 (by decide) rfl ?_
      refine r_iinc (j := 5) (v := (v5 + (1 : Int32))) (L' := [(5, .int (v5 + (1 : Int32))), (4, .int (1 : Int32)), (0, .ref p0), (1, .int v1), (2, .int v2), (3, .int v3), (6, .int v6)]) C0 dL_sound_158 rfl rfl (by decide) rfl ?_
      refine r_goto C0 12 dL_sound_161 (by decide) ?_
      refine r_sub (L' := [(0, .ref p0), (1, .int v1), (2, .int v2), (3, .int v3), (4, .int (1 : Int32)), (5, .int (v5 + (1 : Int32)))]) [2, 3, 4, 5, 1, 0] rfl ?_
      exact hk_k_12 v1 v2 v3 (1 : Int32) (v5 + (1 : Int32)) _ hf _ (by omega)
    · refine r_aload_n C0 dL_sound_140 rfl 0 rfl ?_
      refine r_bipush (v := 8) C0 dL_sound_141 (by decide) ?_
      refine r_callWp C0 (st := []) (kc1 := kc + 1) [.ref p0, .int (8 : Int32)] hf vs_159 (fun hl r1 hr1 => c_L_tryAbout hl F p0 (8 : Int32) hk_p0 M r1 hr1) rfl rfl (Nat.le_of_ble_eq_true rfl) dL_sound_143 (zrm_k 209 rfl (by omega)) (by omega) (fun r1 hr1 hf => ?_)
      refine r_iload C0 dL_sound_146 4 rfl ?_
      refine r_icmp_ne C0 155 dL_sound_148 (by decide) hf (fun hf => ?_) (fun hf => ?_)
      · refine r_iconst (v := 0) C0 dL_sound_155 (by decide) ?_
        refine r_istore (L' := [(4, .int (0 : Int32)), (0, .ref p0), (1, .int v1), (2, .int v2), (3, .int v3), (5, .int v5), (6, .int v6)]) C0 dL_sound_156 (by decide) rfl ?_
        refine r_iinc (j := 5) (v := (v5 + (1 : Int32))) (L' := [(5, .int (v5 + (1 : Int32))), (4, .int (0 : Int32)), (0, .ref p0), (1, .int v1), (2, .int v2), (3, .int v3), (6, .int v6)]) C0 dL_sound_158 rfl rfl (by decide) rfl ?_
        refine r_goto C0 12 dL_sound_161 (by decide) ?_
        refine r_sub (L' := [(0, .ref p0), (1, .int v1), (2, .int v2), (3, .int v3), (4, .int (0 : Int32)), (5, .int (v5 + (1 : Int32)))]) [2, 3, 4, 5, 1, 0] rfl ?_
        exact hk_k_12 v1 v2 v3 (0 : Int32) (v5 + (1 : Int32)) _ hf _ (by omega)
      · refine r_iconst (v := 1) C0 dL_sound_151 (by decide) ?_
        refine r_goto C0 156 dL_sound_152 (by decide) ?_
        refine r_istore (L' := [(4, .int (1 : Int32)), (0, .ref p0), (1, .int v1), (2, .int v2), (3, .int v3), (5, .int v5), (6, .int v6)]) C0 dL_sound_156 (by decide) rfl ?_
        refine r_iinc (j := 5) (v := (v5 + (1 : Int32))) (L' := [(5, .int (v5 + (1 : Int32))), (4, .int (1 : Int32)), (0, .ref p0), (1, .int v1), (2, .int v2), (3, .int v3), (6, .int v6)]) C0 dL_sound_158 rfl rfl (by decide) rfl ?_
        refine r_goto C0 12 dL_sound_161 (by decide) ?_
        refine r_sub (L' := [(0, .ref p0), (1, .int v1), (2, .int v2), (3, .int v3), (4, .int (1 : Int32)), (5, .int (v5 + (1 : Int32)))]) [2, 3, 4, 5, 1, 0] rfl ?_
        exact hk_k_12 v1 v2 v3 (1 : Int32) (v5 + (1 : Int32)) _ hf _ (by omega)
