set_option maxHeartbeats 4000000 in
set_option maxRecDepth 100000 in
theorem g_L_law_164 {ret : Option FieldType} {hh : List (Nat × Nat × Nat × Nat)} {Γ : zCx} {Q : State → Prop} {E : zEn} {S : zSk} {kc ks kc2 ks2 : Nat} (C0 : zCt Γ E R_law cL_law 7 ret hh room_1) (F b len : Nat) (xs : Nat → Int32) (p1 p2 p3 : Nat) (hc1 : kc + 8 ≤ kc2) (hs1 : ks + 48 ≤ ks2) (hc2 : kc2 ≤ room_1.cells) (hs2 : ks2 ≤ room_1.slots) (hX : va_X b len xs (gS Γ) (gS Γ).heap) (hbl : b < (gS Γ).heap.size) (hbA : ¬ E.2.2 ≤ b) (hk_p1 : K_X10 S p1) (hk_p2 : K_X11 S p2) (hk_p3 : S.1 p3 = some (.inr (3, 1))) (k : Int32 → zMi → zMl → Option Int32) (hk : ∀ (v4 : Int32) (M : zMi) (X : zMl), k v4 M X = some 1 → zG Γ Q E 7 kc2 ks2 S ZT M X 23 [(0, .ref b), (1, .ref p1), (2, .ref p2), (3, .ref p3), (4, .int v4)] []) (v4 : Int32) (M : zMi) (X : zMl) (hf : f_L_law_164 F len xs p1 p2 p3 k v4 M X = some 1) : zG Γ Q E 7 kc ks S ZT M X 164 [(0, .ref b), (1, .ref p1), (2, .ref p2), (3, .ref p3), (4, .int v4)] [] := by
  unfold f_L_law_164 at hf
  refine r_aload_n C0 dL_law_164 rfl 1 rfl ?_
  refine r_aload_n C0 dL_law_165 rfl 0 rfl ?_
  refine r_iload C0 dL_law_166 4 rfl ?_
  refine r_iconst (v := 1) C0 dL_law_168 (by decide) ?_
  refine r_iadd C0 dL_law_169 ?_
  refine r_sld C0 hX hbl hbA hf dL_law_170 (fun hf => ?_)
  refine r_aload_n C0 dL_law_171 rfl 3 rfl ?_
  refine r_callSW C0 (st := []) [.ref p1, .int (xs (ix (v4 + (1 : Int32)))), .ref p3] hf vs_192 (fun hl r1 hr1 => c_L_append hl F p1 (xs (ix (v4 + (1 : Int32)))) p3 hk_p1 hk_p3 M X r1 hr1) rfl rfl (Nat.le_of_ble_eq_true rfl) dL_law_172 (zrm_of (Nat.le_of_ble_eq_true rfl) (Nat.le_of_ble_eq_true rfl) (by omega) (by omega) rfl rfl) (fun r1 hr1 hf => ?_)
  refine r_istore (L' := [(5, .int r1.1), (0, .ref b), (1, .ref p1), (2, .ref p2), (3, .ref p3), (4, .int v4)]) C0 dL_law_175 (by decide) rfl ?_
  refine r_aload_n C0 dL_law_177 rfl 3 rfl ?_
  refine r_aload_n C0 dL_law_178 rfl 1 rfl ?_
  refine r_iload C0 dL_law_179 5 rfl ?_
  refine r_iconst (v := 1) C0 dL_law_181 (by decide) ?_
  refine r_iadd C0 dL_law_182 ?_
  refine r_sld C0 hX hbl hbA hf dL_law_183 (fun hf => ?_)
  refine r_callVim C0 (st := []) [.int (xs (ix (v4 + (1 : Int32))))] p2 hf vs_193 (fun hl r2 hr2 => c_X11_append hl F p2 (xs (ix (v4 + (1 : Int32)))) hk_p2 r1.2.1 r2 hr2) (K_X11_o hk_p2) rfl rfl rfl rfl (Nat.le_of_ble_eq_true rfl) dL_law_184 (zrm_of (Nat.le_of_ble_eq_true rfl) (Nat.le_of_ble_eq_true rfl) (by omega) (by omega) rfl rfl) (fun r2 hr2 hf => ?_)
  refine r_istore (L' := [(6, .int r2.1), (5, .int r1.1), (0, .ref b), (1, .ref p1), (2, .ref p2), (3, .ref p3), (4, .int v4)]) C0 dL_law_187 (by decide) rfl ?_
  refine r_aload_n C0 dL_law_189 rfl 4 rfl ?_
  refine r_callVi C0 (st := []) [] p2 hf vs_194 (fun hl r3 hr3 => c_X11_thrown hl F p2 hk_p2 r2.2 r3 hr3) (K_X11_o hk_p2) rfl rfl rfl rfl (Nat.le_of_ble_eq_true rfl) dL_law_190 (zrm_of (Nat.le_of_ble_eq_true rfl) (Nat.le_of_ble_eq_true rfl) (by omega) (by omega) rfl rfl) (fun r3 hr3 hf => ?_)
  refine r_iload C0 dL_law_193 1 rfl ?_
  refine r_icmp_eq C0 200 dL_law_195 (by decide) hf (fun hf => ?_) (fun hf => ?_)
  · refine r_iload C0 dL_law_200 1 rfl ?_
    refine r_if_ne C0 217 dL_law_202 (by decide) hf (fun hf => ?_) (fun hf => ?_)
    · refine r_goto C0 1775 dL_law_217 (by decide) ?_
      refine r_iinc (j := 6) (v := (v4 + (4 : Int32))) (L' := [(4, .int (v4 + (4 : Int32))), (6, .int r2.1), (5, .int r1.1), (0, .ref b), (1, .ref p1), (2, .ref p2), (3, .ref p3)]) C0 dL_law_1775 rfl rfl (by decide) rfl ?_
      refine r_goto C0 23 dL_law_1778 (by decide) ?_
      refine r_widen (k1 := kc2) (s1 := ks2) (by omega) (by omega) ?_
      refine r_sub (L' := [(0, .ref b), (1, .ref p1), (2, .ref p2), (3, .ref p3), (4, .int (v4 + (4 : Int32)))]) [3, 4, 5, 6, 0] rfl ?_
      exact hk (v4 + (4 : Int32)) r2.2 r1.2.2 hf
    · refine r_aload_n C0 dL_law_205 rfl 5 rfl ?_
      refine r_iconst (v := 0) C0 dL_law_206 (by decide) ?_
      refine r_lald' (j := 0) C0 hk_p3 rfl rfl dL_law_207 ?_
      refine r_iload C0 dL_law_208 0 rfl ?_
      refine r_i2l C0 dL_law_210 ?_
      refine r_lcmp C0 dL_law_211 ?_
      refine r_if_eq C0 217 dL_law_212 (by decide) hf (fun hf => ?_) (fun hf => ?_)
      · refine r_goto C0 1775 dL_law_217 (by decide) ?_
        refine r_iinc (j := 6) (v := (v4 + (4 : Int32))) (L' := [(4, .int (v4 + (4 : Int32))), (6, .int r2.1), (5, .int r1.1), (0, .ref b), (1, .ref p1), (2, .ref p2), (3, .ref p3)]) C0 dL_law_1775 rfl rfl (by decide) rfl ?_
        refine r_goto C0 23 dL_law_1778 (by decide) ?_
        refine r_widen (k1 := kc2) (s1 := ks2) (by omega) (by omega) ?_
        refine r_sub (L' := [(0, .ref b), (1, .ref p1), (2, .ref p2), (3, .ref p3), (4, .int (v4 + (4 : Int32)))]) [3, 4, 5, 6, 0] rfl ?_
        exact hk (v4 + (4 : Int32)) r2.2 r1.2.2 hf
      · refine r_iconst (v := 0) C0 dL_law_215 (by decide) ?_
        exact absurd (Option.some.inj hf) (by decide)
  · refine r_iconst (v := 0) C0 dL_law_198 (by decide) ?_
    exact absurd (Option.some.inj hf) (by decide)
set_option maxHeartbeats 4000000 in
set_option maxRecDepth 100000 in
theorem g_L_law_220 {ret : Option FieldType} {hh : List (Nat × Nat × Nat × Nat)} {Γ : zCx} {Q : State → Prop} {E : zEn} {S : zSk} {kc ks kc2 ks2 : Nat} (C0 : zCt Γ E R_law cL_law 7 ret hh room_1) (F b len : Nat) (xs : Nat → Int32) (p1 p2 p3 : Nat) (hc1 : kc + 8 ≤ kc2) (hs1 : ks + 48 ≤ ks2) (hc2 : kc2 ≤ room_1.cells) (hs2 : ks2 ≤ room_1.slots) (hX : va_X b len xs (gS Γ) (gS Γ).heap) (hbl : b < (gS Γ).heap.size) (hbA : ¬ E.2.2 ≤ b) (hk_p1 : K_X10 S p1) (hk_p2 : K_X11 S p2) (hk_p3 : S.1 p3 = some (.inr (3, 1))) (k : Int32 → zMi → zMl → Option Int32) (hk : ∀ (v4 : Int32) (M : zMi) (X : zMl), k v4 M X = some 1 → zG Γ Q E 7 kc2 ks2 S ZT M X 23 [(0, .ref b), (1, .ref p1), (2, .ref p2), (3, .ref p3), (4, .int v4)] []) (v4 : Int32) (M : zMi) (X : zMl) (hf : f_L_law_220 F len xs p1 p2 p3 k v4 M X = some 1) : zG Γ Q E 7 kc ks S ZT M X 220 [(0, .ref b), (1, .ref p1), (2, .ref p2), (3, .ref p3), (4, .int v4)] [] := by
  unfold f_L_law_220 at hf
  refine r_aload_n C0 dL_law_220 rfl 1 rfl ?_
  refine r_callVim C0 (st := []) [] p1 hf vs_195 (fun hl r1 hr1 => c_X10_clearText hl F p1 hk_p1 M r1 hr1) (K_X10_o hk_p1) rfl rfl rfl rfl (Nat.le_of_ble_eq_true rfl) dL_law_221 (zrm_of (Nat.le_of_ble_eq_true rfl) (Nat.le_of_ble_eq_true rfl) (by omega) (by omega) rfl rfl) (fun r1 hr1 hf => ?_)
  refine r_aload_n C0 dL_law_224 rfl 2 rfl ?_
  refine r_callVim C0 (st := [.int r1.1]) [] p2 hf vs_196 (fun hl r2 hr2 => c_X11_clearText hl F p2 hk_p2 r1.2 r2 hr2) (K_X11_o hk_p2) rfl rfl rfl rfl (Nat.le_of_ble_eq_true rfl) dL_law_225 (zrm_of (Nat.le_of_ble_eq_true rfl) (Nat.le_of_ble_eq_true rfl) (by omega) (by omega) rfl rfl) (fun r2 hr2 hf => ?_)
  refine r_icmp_eq C0 1775 dL_law_228 (by decide) hf (fun hf => ?_) (fun hf => ?_)
  · refine r_iinc (j := 4) (v := (v4 + (4 : Int32))) (L' := [(4, .int (v4 + (4 : Int32))), (0, .ref b), (1, .ref p1), (2, .ref p2), (3, .ref p3)]) C0 dL_law_1775 rfl rfl (by decide) rfl ?_
    refine r_goto C0 23 dL_law_1778 (by decide) ?_
    refine r_widen (k1 := kc2) (s1 := ks2) (by omega) (by omega) ?_
    refine r_sub (L' := [(0, .ref b), (1, .ref p1), (2, .ref p2), (3, .ref p3), (4, .int (v4 + (4 : Int32)))]) [1, 2, 3, 4, 0] rfl ?_
    exact hk (v4 + (4 : Int32)) r2.2 X hf
  · refine r_iconst (v := 0) C0 dL_law_231 (by decide) ?_
    exact absurd (Option.some.inj hf) (by decide)
set_option maxHeartbeats 4000000 in
set_option maxRecDepth 100000 in
theorem g_L_law_233 {ret : Option FieldType} {hh : List (Nat × Nat × Nat × Nat)} {Γ : zCx} {Q : State → Prop} {E : zEn} {S : zSk} {kc ks kc2 ks2 : Nat} (C0 : zCt Γ E R_law cL_law 7 ret hh room_1) (F b len : Nat) (xs : Nat → Int32) (p1 p2 p3 : Nat) (hc1 : kc + 8 ≤ kc2) (hs1 : ks + 48 ≤ ks2) (hc2 : kc2 ≤ room_1.cells) (hs2 : ks2 ≤ room_1.slots) (hX : va_X b len xs (gS Γ) (gS Γ).heap) (hbl : b < (gS Γ).heap.size) (hbA : ¬ E.2.2 ≤ b) (hk_p1 : K_X10 S p1) (hk_p2 : K_X11 S p2) (hk_p3 : S.1 p3 = some (.inr (3, 1))) (k : Int32 → zMi → zMl → Option Int32) (hk : ∀ (v4 : Int32) (M : zMi) (X : zMl), k v4 M X = some 1 → zG Γ Q E 7 kc2 ks2 S ZT M X 23 [(0, .ref b), (1, .ref p1), (2, .ref p2), (3, .ref p3), (4, .int v4)] []) (v4 : Int32) (M : zMi) (X : zMl) (hf : f_L_law_233 F len xs p1 p2 p3 k v4 M X = some 1) : zG Γ Q E 7 kc ks S ZT M X 233 [(0, .ref b), (1, .ref p1), (2, .ref p2), (3, .ref p3), (4, .int v4)] [] := by
  unfold f_L_law_233 at hf
  refine r_aload_n C0 dL_law_233 rfl 1 rfl ?_
  refine r_callVim C0 (st := []) [] p1 hf vs_197 (fun hl r1 hr1 => c_X10_errorPosition hl F p1 hk_p1 M r1 hr1) (K_X10_o hk_p1) rfl rfl rfl rfl (Nat.le_of_ble_eq_true rfl) dL_law_234 (zrm_of (Nat.le_of_ble_eq_true rfl) (Nat.le_of_ble_eq_true rfl) (by omega) (by omega) rfl rfl) (fun r1 hr1 hf => ?_)
  refine r_aload_n C0 dL_law_237 rfl 2 rfl ?_
  refine r_callVim C0 (st := [.int r1.1]) [] p2 hf vs_198 (fun hl r2 hr2 => c_X11_errorPosition hl F p2 hk_p2 r1.2 r2 hr2) (K_X11_o hk_p2) rfl rfl rfl rfl (Nat.le_of_ble_eq_true rfl) dL_law_238 (zrm_of (Nat.le_of_ble_eq_true rfl) (Nat.le_of_ble_eq_true rfl) (by omega) (by omega) rfl rfl) (fun r2 hr2 hf => ?_)
  refine r_icmp_eq C0 1775 dL_law_241 (by decide) hf (fun hf => ?_) (fun hf => ?_)
  · refine r_iinc (j := 4) (v := (v4 + (4 : Int32))) (L' := [(4, .int (v4 + (4 : Int32))), (0, .ref b), (1, .ref p1), (2, .ref p2), (3, .ref p3)]) C0 dL_law_1775 rfl rfl (by decide) rfl ?_
    refine r_goto C0 23 dL_law_1778 (by decide) ?_
    refine r_widen (k1 := kc2) (s1 := ks2) (by omega) (by omega) ?_
    refine r_sub (L' := [(0, .ref b), (1, .ref p1), (2, .ref p2), (3, .ref p3), (4, .int (v4 + (4 : Int32)))]) [1, 2, 3, 4, 0] rfl ?_
    exact hk (v4 + (4 : Int32)) r2.2 X hf
  · refine r_iconst (v := 0) C0 dL_law_244 (by decide) ?_
    exact absurd (Option.some.inj hf) (by decide)
set_option maxHeartbeats 4000000 in
set_option maxRecDepth 100000 in
theorem g_L_law_246 {ret : Option FieldType} {hh : List (Nat × Nat × Nat × Nat)} {Γ : zCx} {Q : State → Prop} {E : zEn} {S : zSk} {kc ks kc2 ks2 : Nat} (C0 : zCt Γ E R_law cL_law 7 ret hh room_1) (F b len : Nat) (xs : Nat → Int32) (p1 p2 p3 : Nat) (hc1 : kc + 8 ≤ kc2) (hs1 : ks + 48 ≤ ks2) (hc2 : kc2 ≤ room_1.cells) (hs2 : ks2 ≤ room_1.slots) (hX : va_X b len xs (gS Γ) (gS Γ).heap) (hbl : b < (gS Γ).heap.size) (hbA : ¬ E.2.2 ≤ b) (hk_p1 : K_X10 S p1) (hk_p2 : K_X11 S p2) (hk_p3 : S.1 p3 = some (.inr (3, 1))) (k : Int32 → zMi → zMl → Option Int32) (hk : ∀ (v4 : Int32) (M : zMi) (X : zMl), k v4 M X = some 1 → zG Γ Q E 7 kc2 ks2 S ZT M X 23 [(0, .ref b), (1, .ref p1), (2, .ref p2), (3, .ref p3), (4, .int v4)] []) (v4 : Int32) (M : zMi) (X : zMl) (hf : f_L_law_246 F len xs p1 p2 p3 k v4 M X = some 1) : zG Γ Q E 7 kc ks S ZT M X 246 [(0, .ref b), (1, .ref p1), (2, .ref p2), (3, .ref p3), (4, .int v4)] [] := by
  unfold f_L_law_246 at hf
  refine r_aload_n C0 dL_law_246 rfl 1 rfl ?_
  refine r_aload_n C0 dL_law_247 rfl 3 rfl ?_
  refine r_callSW C0 (st := []) [.ref p1, .ref p3] hf vs_199 (fun hl r1 hr1 => c_L_load hl F p1 p3 hk_p1 hk_p3 M X r1 hr1) rfl rfl (Nat.le_of_ble_eq_true rfl) dL_law_248 (zrm_of (Nat.le_of_ble_eq_true rfl) (Nat.le_of_ble_eq_true rfl) (by omega) (by omega) rfl rfl) (fun r1 hr1 hf => ?_)
  refine r_istore (L' := [(5, .int r1.1), (0, .ref b), (1, .ref p1), (2, .ref p2), (3, .ref p3), (4, .int v4)]) C0 dL_law_251 (by decide) rfl ?_
  refine r_aload_n C0 dL_law_253 rfl 3 rfl ?_
  refine r_callVim C0 (st := []) [] p2 hf vs_200 (fun hl r2 hr2 => c_X11_load hl F p2 hk_p2 r1.2.1 r2 hr2) (K_X11_o hk_p2) rfl rfl rfl rfl (Nat.le_of_ble_eq_true rfl) dL_law_254 (zrm_of (Nat.le_of_ble_eq_true rfl) (Nat.le_of_ble_eq_true rfl) (by omega) (by omega) rfl rfl) (fun r2 hr2 hf => ?_)
  refine r_istore (L' := [(6, .int r2.1), (5, .int r1.1), (0, .ref b), (1, .ref p1), (2, .ref p2), (3, .ref p3), (4, .int v4)]) C0 dL_law_257 (by decide) rfl ?_
  refine r_aload_n C0 dL_law_259 rfl 4 rfl ?_
  refine r_callVi C0 (st := []) [] p2 hf vs_194 (fun hl r3 hr3 => c_X11_thrown hl F p2 hk_p2 r2.2 r3 hr3) (K_X11_o hk_p2) rfl rfl rfl rfl (Nat.le_of_ble_eq_true rfl) dL_law_260 (zrm_of (Nat.le_of_ble_eq_true rfl) (Nat.le_of_ble_eq_true rfl) (by omega) (by omega) rfl rfl) (fun r3 hr3 hf => ?_)
  refine r_iload C0 dL_law_263 1 rfl ?_
  refine r_icmp_eq C0 270 dL_law_265 (by decide) hf (fun hf => ?_) (fun hf => ?_)
  · refine r_iload C0 dL_law_270 1 rfl ?_
    refine r_if_ne C0 287 dL_law_272 (by decide) hf (fun hf => ?_) (fun hf => ?_)
    · refine r_goto C0 1775 dL_law_287 (by decide) ?_
      refine r_iinc (j := 6) (v := (v4 + (4 : Int32))) (L' := [(4, .int (v4 + (4 : Int32))), (6, .int r2.1), (5, .int r1.1), (0, .ref b), (1, .ref p1), (2, .ref p2), (3, .ref p3)]) C0 dL_law_1775 rfl rfl (by decide) rfl ?_
      refine r_goto C0 23 dL_law_1778 (by decide) ?_
      refine r_widen (k1 := kc2) (s1 := ks2) (by omega) (by omega) ?_
      refine r_sub (L' := [(0, .ref b), (1, .ref p1), (2, .ref p2), (3, .ref p3), (4, .int (v4 + (4 : Int32)))]) [3, 4, 5, 6, 0] rfl ?_
      exact hk (v4 + (4 : Int32)) r2.2 r1.2.2 hf
    · refine r_aload_n C0 dL_law_275 rfl 5 rfl ?_
      refine r_iconst (v := 0) C0 dL_law_276 (by decide) ?_
      refine r_lald' (j := 0) C0 hk_p3 rfl rfl dL_law_277 ?_
      refine r_iload C0 dL_law_278 0 rfl ?_
      refine r_i2l C0 dL_law_280 ?_
      refine r_lcmp C0 dL_law_281 ?_
      refine r_if_eq C0 287 dL_law_282 (by decide) hf (fun hf => ?_) (fun hf => ?_)
      · refine r_goto C0 1775 dL_law_287 (by decide) ?_
        refine r_iinc (j := 6) (v := (v4 + (4 : Int32))) (L' := [(4, .int (v4 + (4 : Int32))), (6, .int r2.1), (5, .int r1.1), (0, .ref b), (1, .ref p1), (2, .ref p2), (3, .ref p3)]) C0 dL_law_1775 rfl rfl (by decide) rfl ?_
        refine r_goto C0 23 dL_law_1778 (by decide) ?_
        refine r_widen (k1 := kc2) (s1 := ks2) (by omega) (by omega) ?_
        refine r_sub (L' := [(0, .ref b), (1, .ref p1), (2, .ref p2), (3, .ref p3), (4, .int (v4 + (4 : Int32)))]) [3, 4, 5, 6, 0] rfl ?_
        exact hk (v4 + (4 : Int32)) r2.2 r1.2.2 hf
      · refine r_iconst (v := 0) C0 dL_law_285 (by decide) ?_
        exact absurd (Option.some.inj hf) (by decide)
  · refine r_iconst (v := 0) C0 dL_law_268 (by decide) ?_
    exact absurd (Option.some.inj hf) (by decide)
set_option maxHeartbeats 4000000 in
set_option maxRecDepth 100000 in
theorem g_L_law_290 {ret : Option FieldType} {hh : List (Nat × Nat × Nat × Nat)} {Γ : zCx} {Q : State → Prop} {E : zEn} {S : zSk} {kc ks kc2 ks2 : Nat} (C0 : zCt Γ E R_law cL_law 7 ret hh room_1) (F b len : Nat) (xs : Nat → Int32) (p1 p2 p3 : Nat) (hc1 : kc + 8 ≤ kc2) (hs1 : ks + 48 ≤ ks2) (hc2 : kc2 ≤ room_1.cells) (hs2 : ks2 ≤ room_1.slots) (hX : va_X b len xs (gS Γ) (gS Γ).heap) (hbl : b < (gS Γ).heap.size) (hbA : ¬ E.2.2 ≤ b) (hk_p1 : K_X10 S p1) (hk_p2 : K_X11 S p2) (hk_p3 : S.1 p3 = some (.inr (3, 1))) (k : Int32 → zMi → zMl → Option Int32) (hk : ∀ (v4 : Int32) (M : zMi) (X : zMl), k v4 M X = some 1 → zG Γ Q E 7 kc2 ks2 S ZT M X 23 [(0, .ref b), (1, .ref p1), (2, .ref p2), (3, .ref p3), (4, .int v4)] []) (v4 : Int32) (M : zMi) (X : zMl) (hf : f_L_law_290 F len xs p1 p2 p3 k v4 M X = some 1) : zG Γ Q E 7 kc ks S ZT M X 290 [(0, .ref b), (1, .ref p1), (2, .ref p2), (3, .ref p3), (4, .int v4)] [] := by
  unfold f_L_law_290 at hf
  refine r_aload_n C0 dL_law_290 rfl 1 rfl ?_
  refine r_aload_n C0 dL_law_291 rfl 0 rfl ?_
  refine r_iload C0 dL_law_292 4 rfl ?_
  refine r_iconst (v := 1) C0 dL_law_294 (by decide) ?_
  refine r_iadd C0 dL_law_295 ?_
  refine r_sld C0 hX hbl hbA hf dL_law_296 (fun hf => ?_)
  refine r_aload_n C0 dL_law_297 rfl 3 rfl ?_
  refine r_callSW C0 (st := []) [.ref p1, .int (xs (ix (v4 + (1 : Int32)))), .ref p3] hf vs_201 (fun hl r1 hr1 => c_L_about hl F p1 (xs (ix (v4 + (1 : Int32)))) p3 hk_p1 hk_p3 M X r1 hr1) rfl rfl (Nat.le_of_ble_eq_true rfl) dL_law_298 (zrm_of (Nat.le_of_ble_eq_true rfl) (Nat.le_of_ble_eq_true rfl) (by omega) (by omega) rfl rfl) (fun r1 hr1 hf => ?_)
  refine r_istore (L' := [(5, .int r1.1), (0, .ref b), (1, .ref p1), (2, .ref p2), (3, .ref p3), (4, .int v4)]) C0 dL_law_301 (by decide) rfl ?_
  refine r_aload_n C0 dL_law_303 rfl 3 rfl ?_
  refine r_aload_n C0 dL_law_304 rfl 1 rfl ?_
  refine r_iload C0 dL_law_305 5 rfl ?_
  refine r_iconst (v := 1) C0 dL_law_307 (by decide) ?_
  refine r_iadd C0 dL_law_308 ?_
  refine r_sld C0 hX hbl hbA hf dL_law_309 (fun hf => ?_)
  refine r_callVim C0 (st := []) [.int (xs (ix (v4 + (1 : Int32))))] p2 hf vs_202 (fun hl r2 hr2 => c_X11_about hl F p2 (xs (ix (v4 + (1 : Int32)))) hk_p2 r1.2.1 r2 hr2) (K_X11_o hk_p2) rfl rfl rfl rfl (Nat.le_of_ble_eq_true rfl) dL_law_310 (zrm_of (Nat.le_of_ble_eq_true rfl) (Nat.le_of_ble_eq_true rfl) (by omega) (by omega) rfl rfl) (fun r2 hr2 hf => ?_)
  refine r_istore (L' := [(6, .int r2.1), (5, .int r1.1), (0, .ref b), (1, .ref p1), (2, .ref p2), (3, .ref p3), (4, .int v4)]) C0 dL_law_313 (by decide) rfl ?_
  refine r_aload_n C0 dL_law_315 rfl 4 rfl ?_
  refine r_callVi C0 (st := []) [] p2 hf vs_194 (fun hl r3 hr3 => c_X11_thrown hl F p2 hk_p2 r2.2 r3 hr3) (K_X11_o hk_p2) rfl rfl rfl rfl (Nat.le_of_ble_eq_true rfl) dL_law_316 (zrm_of (Nat.le_of_ble_eq_true rfl) (Nat.le_of_ble_eq_true rfl) (by omega) (by omega) rfl rfl) (fun r3 hr3 hf => ?_)
  refine r_iload C0 dL_law_319 1 rfl ?_
  refine r_icmp_eq C0 326 dL_law_321 (by decide) hf (fun hf => ?_) (fun hf => ?_)
  · refine r_iload C0 dL_law_326 1 rfl ?_
    refine r_if_ne C0 343 dL_law_328 (by decide) hf (fun hf => ?_) (fun hf => ?_)
    · refine r_goto C0 1775 dL_law_343 (by decide) ?_
      refine r_iinc (j := 6) (v := (v4 + (4 : Int32))) (L' := [(4, .int (v4 + (4 : Int32))), (6, .int r2.1), (5, .int r1.1), (0, .ref b), (1, .ref p1), (2, .ref p2), (3, .ref p3)]) C0 dL_law_1775 rfl rfl (by decide) rfl ?_
      refine r_goto C0 23 dL_law_1778 (by decide) ?_
      refine r_widen (k1 := kc2) (s1 := ks2) (by omega) (by omega) ?_
      refine r_sub (L' := [(0, .ref b), (1, .ref p1), (2, .ref p2), (3, .ref p3), (4, .int (v4 + (4 : Int32)))]) [3, 4, 5, 6, 0] rfl ?_
      exact hk (v4 + (4 : Int32)) r2.2 r1.2.2 hf
    · refine r_aload_n C0 dL_law_331 rfl 5 rfl ?_
      refine r_iconst (v := 0) C0 dL_law_332 (by decide) ?_
      refine r_lald' (j := 0) C0 hk_p3 rfl rfl dL_law_333 ?_
      refine r_iload C0 dL_law_334 0 rfl ?_
      refine r_i2l C0 dL_law_336 ?_
      refine r_lcmp C0 dL_law_337 ?_
      refine r_if_eq C0 343 dL_law_338 (by decide) hf (fun hf => ?_) (fun hf => ?_)
      · refine r_goto C0 1775 dL_law_343 (by decide) ?_
        refine r_iinc (j := 6) (v := (v4 + (4 : Int32))) (L' := [(4, .int (v4 + (4 : Int32))), (6, .int r2.1), (5, .int r1.1), (0, .ref b), (1, .ref p1), (2, .ref p2), (3, .ref p3)]) C0 dL_law_1775 rfl rfl (by decide) rfl ?_
        refine r_goto C0 23 dL_law_1778 (by decide) ?_
        refine r_widen (k1 := kc2) (s1 := ks2) (by omega) (by omega) ?_
        refine r_sub (L' := [(0, .ref b), (1, .ref p1), (2, .ref p2), (3, .ref p3), (4, .int (v4 + (4 : Int32)))]) [3, 4, 5, 6, 0] rfl ?_
        exact hk (v4 + (4 : Int32)) r2.2 r1.2.2 hf
      · refine r_iconst (v := 0) C0 dL_law_341 (by decide) ?_
        exact absurd (Option.some.inj hf) (by decide)
  · refine r_iconst (v := 0) C0 dL_law_324 (by decide) ?_
    exact absurd (Option.some.inj hf) (by decide)
set_option maxHeartbeats 4000000 in
set_option maxRecDepth 100000 in
theorem g_L_law_346 {ret : Option FieldType} {hh : List (Nat × Nat × Nat × Nat)} {Γ : zCx} {Q : State → Prop} {E : zEn} {S : zSk} {kc ks kc2 ks2 : Nat} (C0 : zCt Γ E R_law cL_law 7 ret hh room_1) (F b len : Nat) (xs : Nat → Int32) (p1 p2 p3 : Nat) (hc1 : kc + 8 ≤ kc2) (hs1 : ks + 48 ≤ ks2) (hc2 : kc2 ≤ room_1.cells) (hs2 : ks2 ≤ room_1.slots) (hX : va_X b len xs (gS Γ) (gS Γ).heap) (hbl : b < (gS Γ).heap.size) (hbA : ¬ E.2.2 ≤ b) (hk_p1 : K_X10 S p1) (hk_p2 : K_X11 S p2) (hk_p3 : S.1 p3 = some (.inr (3, 1))) (k : Int32 → zMi → zMl → Option Int32) (hk : ∀ (v4 : Int32) (M : zMi) (X : zMl), k v4 M X = some 1 → zG Γ Q E 7 kc2 ks2 S ZT M X 23 [(0, .ref b), (1, .ref p1), (2, .ref p2), (3, .ref p3), (4, .int v4)] []) (v4 : Int32) (M : zMi) (X : zMl) (hf : f_L_law_346 F len xs p1 p2 p3 k v4 M X = some 1) : zG Γ Q E 7 kc ks S ZT M X 346 [(0, .ref b), (1, .ref p1), (2, .ref p2), (3, .ref p3), (4, .int v4)] [] := by
  unfold f_L_law_346 at hf
  refine r_aload_n C0 dL_law_346 rfl 1 rfl ?_
  refine r_aload_n C0 dL_law_347 rfl 0 rfl ?_
  refine r_iload C0 dL_law_348 4 rfl ?_
  refine r_iconst (v := 1) C0 dL_law_350 (by decide) ?_
  refine r_iadd C0 dL_law_351 ?_
  refine r_sld C0 hX hbl hbA hf dL_law_352 (fun hf => ?_)
  refine r_aload_n C0 dL_law_353 rfl 0 rfl ?_
  refine r_iload C0 dL_law_354 4 rfl ?_
  refine r_iconst (v := 2) C0 dL_law_356 (by decide) ?_
  refine r_iadd C0 dL_law_357 ?_
  refine r_sld C0 hX hbl hbA hf dL_law_358 (fun hf => ?_)
  refine r_aload_n C0 dL_law_359 rfl 3 rfl ?_
  refine r_callSW C0 (st := []) [.ref p1, .int (xs (ix (v4 + (1 : Int32)))), .int (xs (ix (v4 + (2 : Int32)))), .ref p3] hf vs_203 (fun hl r1 hr1 => c_L_zone hl F p1 (xs (ix (v4 + (1 : Int32)))) (xs (ix (v4 + (2 : Int32)))) p3 hk_p1 hk_p3 M X r1 hr1) rfl rfl (Nat.le_of_ble_eq_true rfl) dL_law_360 (zrm_of (Nat.le_of_ble_eq_true rfl) (Nat.le_of_ble_eq_true rfl) (by omega) (by omega) rfl rfl) (fun r1 hr1 hf => ?_)
  refine r_istore (L' := [(5, .int r1.1), (0, .ref b), (1, .ref p1), (2, .ref p2), (3, .ref p3), (4, .int v4)]) C0 dL_law_363 (by decide) rfl ?_
  refine r_aload_n C0 dL_law_365 rfl 3 rfl ?_
  refine r_aload_n C0 dL_law_366 rfl 1 rfl ?_
  refine r_iload C0 dL_law_367 5 rfl ?_
  refine r_iconst (v := 1) C0 dL_law_369 (by decide) ?_
  refine r_iadd C0 dL_law_370 ?_
  refine r_sld C0 hX hbl hbA hf dL_law_371 (fun hf => ?_)
  refine r_aload_n C0 dL_law_372 rfl 1 rfl ?_
  refine r_iload C0 dL_law_373 5 rfl ?_
  refine r_iconst (v := 2) C0 dL_law_375 (by decide) ?_
  refine r_iadd C0 dL_law_376 ?_
  refine r_sld C0 hX hbl hbA hf dL_law_377 (fun hf => ?_)
  refine r_callVim C0 (st := []) [.int (xs (ix (v4 + (1 : Int32)))), .int (xs (ix (v4 + (2 : Int32))))] p2 hf vs_204 (fun hl r2 hr2 => c_X11_zone hl F p2 (xs (ix (v4 + (1 : Int32)))) (xs (ix (v4 + (2 : Int32)))) hk_p2 r1.2.1 r2 hr2) (K_X11_o hk_p2) rfl rfl rfl rfl (Nat.le_of_ble_eq_true rfl) dL_law_378 (zrm_of (Nat.le_of_ble_eq_true rfl) (Nat.le_of_ble_eq_true rfl) (by omega) (by omega) rfl rfl) (fun r2 hr2 hf => ?_)
  refine r_istore (L' := [(6, .int r2.1), (5, .int r1.1), (0, .ref b), (1, .ref p1), (2, .ref p2), (3, .ref p3), (4, .int v4)]) C0 dL_law_381 (by decide) rfl ?_
  refine r_aload_n C0 dL_law_383 rfl 4 rfl ?_
  refine r_callVi C0 (st := []) [] p2 hf vs_194 (fun hl r3 hr3 => c_X11_thrown hl F p2 hk_p2 r2.2 r3 hr3) (K_X11_o hk_p2) rfl rfl rfl rfl (Nat.le_of_ble_eq_true rfl) dL_law_384 (zrm_of (Nat.le_of_ble_eq_true rfl) (Nat.le_of_ble_eq_true rfl) (by omega) (by omega) rfl rfl) (fun r3 hr3 hf => ?_)
  refine r_iload C0 dL_law_387 1 rfl ?_
  refine r_icmp_eq C0 394 dL_law_389 (by decide) hf (fun hf => ?_) (fun hf => ?_)
  · refine r_iload C0 dL_law_394 1 rfl ?_
    refine r_if_ne C0 411 dL_law_396 (by decide) hf (fun hf => ?_) (fun hf => ?_)
    · refine r_goto C0 1775 dL_law_411 (by decide) ?_
      refine r_iinc (j := 6) (v := (v4 + (4 : Int32))) (L' := [(4, .int (v4 + (4 : Int32))), (6, .int r2.1), (5, .int r1.1), (0, .ref b), (1, .ref p1), (2, .ref p2), (3, .ref p3)]) C0 dL_law_1775 rfl rfl (by decide) rfl ?_
      refine r_goto C0 23 dL_law_1778 (by decide) ?_
      refine r_widen (k1 := kc2) (s1 := ks2) (by omega) (by omega) ?_
      refine r_sub (L' := [(0, .ref b), (1, .ref p1), (2, .ref p2), (3, .ref p3), (4, .int (v4 + (4 : Int32)))]) [3, 4, 5, 6, 0] rfl ?_
      exact hk (v4 + (4 : Int32)) r2.2 r1.2.2 hf
    · refine r_aload_n C0 dL_law_399 rfl 5 rfl ?_
      refine r_iconst (v := 0) C0 dL_law_400 (by decide) ?_
      refine r_lald' (j := 0) C0 hk_p3 rfl rfl dL_law_401 ?_
      refine r_iload C0 dL_law_402 0 rfl ?_
      refine r_i2l C0 dL_law_404 ?_
      refine r_lcmp C0 dL_law_405 ?_
      refine r_if_eq C0 411 dL_law_406 (by decide) hf (fun hf => ?_) (fun hf => ?_)
      · refine r_goto C0 1775 dL_law_411 (by decide) ?_
        refine r_iinc (j := 6) (v := (v4 + (4 : Int32))) (L' := [(4, .int (v4 + (4 : Int32))), (6, .int r2.1), (5, .int r1.1), (0, .ref b), (1, .ref p1), (2, .ref p2), (3, .ref p3)]) C0 dL_law_1775 rfl rfl (by decide) rfl ?_
        refine r_goto C0 23 dL_law_1778 (by decide) ?_
        refine r_widen (k1 := kc2) (s1 := ks2) (by omega) (by omega) ?_
        refine r_sub (L' := [(0, .ref b), (1, .ref p1), (2, .ref p2), (3, .ref p3), (4, .int (v4 + (4 : Int32)))]) [3, 4, 5, 6, 0] rfl ?_
        exact hk (v4 + (4 : Int32)) r2.2 r1.2.2 hf
      · refine r_iconst (v := 0) C0 dL_law_409 (by decide) ?_
        exact absurd (Option.some.inj hf) (by decide)
  · refine r_iconst (v := 0) C0 dL_law_392 (by decide) ?_
    exact absurd (Option.some.inj hf) (by decide)
set_option maxHeartbeats 4000000 in
set_option maxRecDepth 100000 in
theorem g_L_law_414 {ret : Option FieldType} {hh : List (Nat × Nat × Nat × Nat)} {Γ : zCx} {Q : State → Prop} {E : zEn} {S : zSk} {kc ks kc2 ks2 : Nat} (C0 : zCt Γ E R_law cL_law 7 ret hh room_1) (F b len : Nat) (xs : Nat → Int32) (p1 p2 p3 : Nat) (hc1 : kc + 8 ≤ kc2) (hs1 : ks + 48 ≤ ks2) (hc2 : kc2 ≤ room_1.cells) (hs2 : ks2 ≤ room_1.slots) (hX : va_X b len xs (gS Γ) (gS Γ).heap) (hbl : b < (gS Γ).heap.size) (hbA : ¬ E.2.2 ≤ b) (hk_p1 : K_X10 S p1) (hk_p2 : K_X11 S p2) (hk_p3 : S.1 p3 = some (.inr (3, 1))) (k : Int32 → zMi → zMl → Option Int32) (hk : ∀ (v4 : Int32) (M : zMi) (X : zMl), k v4 M X = some 1 → zG Γ Q E 7 kc2 ks2 S ZT M X 23 [(0, .ref b), (1, .ref p1), (2, .ref p2), (3, .ref p3), (4, .int v4)] []) (v4 : Int32) (M : zMi) (X : zMl) (hf : f_L_law_414 F len xs p1 p2 p3 k v4 M X = some 1) : zG Γ Q E 7 kc ks S ZT M X 414 [(0, .ref b), (1, .ref p1), (2, .ref p2), (3, .ref p3), (4, .int v4)] [] := by
  unfold f_L_law_414 at hf
  refine r_aload_n C0 dL_law_414 rfl 1 rfl ?_
  refine r_aload_n C0 dL_law_415 rfl 0 rfl ?_
  refine r_iload C0 dL_law_416 4 rfl ?_
  refine r_iconst (v := 1) C0 dL_law_418 (by decide) ?_
  refine r_iadd C0 dL_law_419 ?_
  refine r_sld C0 hX hbl hbA hf dL_law_420 (fun hf => ?_)
  refine r_aload_n C0 dL_law_421 rfl 0 rfl ?_
  refine r_iload C0 dL_law_422 4 rfl ?_
  refine r_iconst (v := 2) C0 dL_law_424 (by decide) ?_
  refine r_iadd C0 dL_law_425 ?_
  refine r_sld C0 hX hbl hbA hf dL_law_426 (fun hf => ?_)
  refine r_aload_n C0 dL_law_427 rfl 3 rfl ?_
  refine r_callSW C0 (st := []) [.ref p1, .int (xs (ix (v4 + (1 : Int32)))), .int (xs (ix (v4 + (2 : Int32)))), .ref p3] hf vs_205 (fun hl r1 hr1 => c_L_ship hl F p1 (xs (ix (v4 + (1 : Int32)))) (xs (ix (v4 + (2 : Int32)))) p3 hk_p1 hk_p3 M X r1 hr1) rfl rfl (Nat.le_of_ble_eq_true rfl) dL_law_428 (zrm_of (Nat.le_of_ble_eq_true rfl) (Nat.le_of_ble_eq_true rfl) (by omega) (by omega) rfl rfl) (fun r1 hr1 hf => ?_)
  refine r_istore (L' := [(5, .int r1.1), (0, .ref b), (1, .ref p1), (2, .ref p2), (3, .ref p3), (4, .int v4)]) C0 dL_law_431 (by decide) rfl ?_
  refine r_aload_n C0 dL_law_433 rfl 3 rfl ?_
  refine r_aload_n C0 dL_law_434 rfl 1 rfl ?_
  refine r_iload C0 dL_law_435 5 rfl ?_
  refine r_iconst (v := 1) C0 dL_law_437 (by decide) ?_
  refine r_iadd C0 dL_law_438 ?_
  refine r_sld C0 hX hbl hbA hf dL_law_439 (fun hf => ?_)
  refine r_aload_n C0 dL_law_440 rfl 1 rfl ?_
  refine r_iload C0 dL_law_441 5 rfl ?_
  refine r_iconst (v := 2) C0 dL_law_443 (by decide) ?_
  refine r_iadd C0 dL_law_444 ?_
  refine r_sld C0 hX hbl hbA hf dL_law_445 (fun hf => ?_)
  refine r_callVim C0 (st := []) [.int (xs (ix (v4 + (1 : Int32)))), .int (xs (ix (v4 + (2 : Int32))))] p2 hf vs_206 (fun hl r2 hr2 => c_X11_ship hl F p2 (xs (ix (v4 + (1 : Int32)))) (xs (ix (v4 + (2 : Int32)))) hk_p2 r1.2.1 r2 hr2) (K_X11_o hk_p2) rfl rfl rfl rfl (Nat.le_of_ble_eq_true rfl) dL_law_446 (zrm_of (Nat.le_of_ble_eq_true rfl) (Nat.le_of_ble_eq_true rfl) (by omega) (by omega) rfl rfl) (fun r2 hr2 hf => ?_)
  refine r_istore (L' := [(6, .int r2.1), (5, .int r1.1), (0, .ref b), (1, .ref p1), (2, .ref p2), (3, .ref p3), (4, .int v4)]) C0 dL_law_449 (by decide) rfl ?_
  refine r_aload_n C0 dL_law_451 rfl 4 rfl ?_
  refine r_callVi C0 (st := []) [] p2 hf vs_194 (fun hl r3 hr3 => c_X11_thrown hl F p2 hk_p2 r2.2 r3 hr3) (K_X11_o hk_p2) rfl rfl rfl rfl (Nat.le_of_ble_eq_true rfl) dL_law_452 (zrm_of (Nat.le_of_ble_eq_true rfl) (Nat.le_of_ble_eq_true rfl) (by omega) (by omega) rfl rfl) (fun r3 hr3 hf => ?_)
  refine r_iload C0 dL_law_455 1 rfl ?_
  refine r_icmp_eq C0 462 dL_law_457 (by decide) hf (fun hf => ?_) (fun hf => ?_)
  · refine r_iload C0 dL_law_462 1 rfl ?_
    refine r_if_ne C0 479 dL_law_464 (by decide) hf (fun hf => ?_) (fun hf => ?_)
    · refine r_goto C0 1775 dL_law_479 (by decide) ?_
      refine r_iinc (j := 6) (v := (v4 + (4 : Int32))) (L' := [(4, .int (v4 + (4 : Int32))), (6, .int r2.1), (5, .int r1.1), (0, .ref b), (1, .ref p1), (2, .ref p2), (3, .ref p3)]) C0 dL_law_1775 rfl rfl (by decide) rfl ?_
      refine r_goto C0 23 dL_law_1778 (by decide) ?_
      refine r_widen (k1 := kc2) (s1 := ks2) (by omega) (by omega) ?_
      refine r_sub (L' := [(0, .ref b), (1, .ref p1), (2, .ref p2), (3, .ref p3), (4, .int (v4 + (4 : Int32)))]) [3, 4, 5, 6, 0] rfl ?_
      exact hk (v4 + (4 : Int32)) r2.2 r1.2.2 hf
    · refine r_aload_n C0 dL_law_467 rfl 5 rfl ?_
      refine r_iconst (v := 0) C0 dL_law_468 (by decide) ?_
      refine r_lald' (j := 0) C0 hk_p3 rfl rfl dL_law_469 ?_
      refine r_iload C0 dL_law_470 0 rfl ?_
      refine r_i2l C0 dL_law_472 ?_
      refine r_lcmp C0 dL_law_473 ?_
      refine r_if_eq C0 479 dL_law_474 (by decide) hf (fun hf => ?_) (fun hf => ?_)
      · refine r_goto C0 1775 dL_law_479 (by decide) ?_
        refine r_iinc (j := 6) (v := (v4 + (4 : Int32))) (L' := [(4, .int (v4 + (4 : Int32))), (6, .int r2.1), (5, .int r1.1), (0, .ref b), (1, .ref p1), (2, .ref p2), (3, .ref p3)]) C0 dL_law_1775 rfl rfl (by decide) rfl ?_
        refine r_goto C0 23 dL_law_1778 (by decide) ?_
        refine r_widen (k1 := kc2) (s1 := ks2) (by omega) (by omega) ?_
        refine r_sub (L' := [(0, .ref b), (1, .ref p1), (2, .ref p2), (3, .ref p3), (4, .int (v4 + (4 : Int32)))]) [3, 4, 5, 6, 0] rfl ?_
        exact hk (v4 + (4 : Int32)) r2.2 r1.2.2 hf
      · refine r_iconst (v := 0) C0 dL_law_477 (by decide) ?_
        exact absurd (Option.some.inj hf) (by decide)
  · refine r_iconst (v := 0) C0 dL_law_460 (by decide) ?_
    exact absurd (Option.some.inj hf) (by decide)
set_option maxHeartbeats 4000000 in
set_option maxRecDepth 100000 in
theorem g_L_law_482 {ret : Option FieldType} {hh : List (Nat × Nat × Nat × Nat)} {Γ : zCx} {Q : State → Prop} {E : zEn} {S : zSk} {kc ks kc2 ks2 : Nat} (C0 : zCt Γ E R_law cL_law 7 ret hh room_1) (F b len : Nat) (xs : Nat → Int32) (p1 p2 p3 : Nat) (hc1 : kc + 8 ≤ kc2) (hs1 : ks + 48 ≤ ks2) (hc2 : kc2 ≤ room_1.cells) (hs2 : ks2 ≤ room_1.slots) (hX : va_X b len xs (gS Γ) (gS Γ).heap) (hbl : b < (gS Γ).heap.size) (hbA : ¬ E.2.2 ≤ b) (hk_p1 : K_X10 S p1) (hk_p2 : K_X11 S p2) (hk_p3 : S.1 p3 = some (.inr (3, 1))) (k : Int32 → zMi → zMl → Option Int32) (hk : ∀ (v4 : Int32) (M : zMi) (X : zMl), k v4 M X = some 1 → zG Γ Q E 7 kc2 ks2 S ZT M X 23 [(0, .ref b), (1, .ref p1), (2, .ref p2), (3, .ref p3), (4, .int v4)] []) (v4 : Int32) (M : zMi) (X : zMl) (hf : f_L_law_482 F len xs p1 p2 p3 k v4 M X = some 1) : zG Γ Q E 7 kc ks S ZT M X 482 [(0, .ref b), (1, .ref p1), (2, .ref p2), (3, .ref p3), (4, .int v4)] [] := by
  unfold f_L_law_482 at hf
  refine r_aload_n C0 dL_law_482 rfl 1 rfl ?_
  refine r_aload_n C0 dL_law_483 rfl 0 rfl ?_
  refine r_iload C0 dL_law_484 4 rfl ?_
  refine r_iconst (v := 1) C0 dL_law_486 (by decide) ?_
  refine r_iadd C0 dL_law_487 ?_
  refine r_sld C0 hX hbl hbA hf dL_law_488 (fun hf => ?_)
  refine r_aload_n C0 dL_law_489 rfl 3 rfl ?_
  refine r_callSW C0 (st := []) [.ref p1, .int (xs (ix (v4 + (1 : Int32)))), .ref p3] hf vs_207 (fun hl r1 hr1 => c_L_waves hl F p1 (xs (ix (v4 + (1 : Int32)))) p3 hk_p1 hk_p3 M X r1 hr1) rfl rfl (Nat.le_of_ble_eq_true rfl) dL_law_490 (zrm_of (Nat.le_of_ble_eq_true rfl) (Nat.le_of_ble_eq_true rfl) (by omega) (by omega) rfl rfl) (fun r1 hr1 hf => ?_)
  refine r_istore (L' := [(5, .int r1.1), (0, .ref b), (1, .ref p1), (2, .ref p2), (3, .ref p3), (4, .int v4)]) C0 dL_law_493 (by decide) rfl ?_
  refine r_aload_n C0 dL_law_495 rfl 3 rfl ?_
  refine r_aload_n C0 dL_law_496 rfl 1 rfl ?_
  refine r_iload C0 dL_law_497 5 rfl ?_
  refine r_iconst (v := 1) C0 dL_law_499 (by decide) ?_
  refine r_iadd C0 dL_law_500 ?_
  refine r_sld C0 hX hbl hbA hf dL_law_501 (fun hf => ?_)
  refine r_callVim C0 (st := []) [.int (xs (ix (v4 + (1 : Int32))))] p2 hf vs_208 (fun hl r2 hr2 => c_X11_waves hl F p2 (xs (ix (v4 + (1 : Int32)))) hk_p2 r1.2.1 r2 hr2) (K_X11_o hk_p2) rfl rfl rfl rfl (Nat.le_of_ble_eq_true rfl) dL_law_502 (zrm_of (Nat.le_of_ble_eq_true rfl) (Nat.le_of_ble_eq_true rfl) (by omega) (by omega) rfl rfl) (fun r2 hr2 hf => ?_)
  refine r_istore (L' := [(6, .int r2.1), (5, .int r1.1), (0, .ref b), (1, .ref p1), (2, .ref p2), (3, .ref p3), (4, .int v4)]) C0 dL_law_505 (by decide) rfl ?_
  refine r_aload_n C0 dL_law_507 rfl 4 rfl ?_
  refine r_callVi C0 (st := []) [] p2 hf vs_194 (fun hl r3 hr3 => c_X11_thrown hl F p2 hk_p2 r2.2 r3 hr3) (K_X11_o hk_p2) rfl rfl rfl rfl (Nat.le_of_ble_eq_true rfl) dL_law_508 (zrm_of (Nat.le_of_ble_eq_true rfl) (Nat.le_of_ble_eq_true rfl) (by omega) (by omega) rfl rfl) (fun r3 hr3 hf => ?_)
  refine r_iload C0 dL_law_511 1 rfl ?_
  refine r_icmp_eq C0 518 dL_law_513 (by decide) hf (fun hf => ?_) (fun hf => ?_)
  · refine r_iload C0 dL_law_518 1 rfl ?_
    refine r_if_ne C0 535 dL_law_520 (by decide) hf (fun hf => ?_) (fun hf => ?_)
    · refine r_goto C0 1775 dL_law_535 (by decide) ?_
      refine r_iinc (j := 6) (v := (v4 + (4 : Int32))) (L' := [(4, .int (v4 + (4 : Int32))), (6, .int r2.1), (5, .int r1.1), (0, .ref b), (1, .ref p1), (2, .ref p2), (3, .ref p3)]) C0 dL_law_1775 rfl rfl (by decide) rfl ?_
      refine r_goto C0 23 dL_law_1778 (by decide) ?_
      refine r_widen (k1 := kc2) (s1 := ks2) (by omega) (by omega) ?_
      refine r_sub (L' := [(0, .ref b), (1, .ref p1), (2, .ref p2), (3, .ref p3), (4, .int (v4 + (4 : Int32)))]) [3, 4, 5, 6, 0] rfl ?_
      exact hk (v4 + (4 : Int32)) r2.2 r1.2.2 hf
    · refine r_aload_n C0 dL_law_523 rfl 5 rfl ?_
      refine r_iconst (v := 0) C0 dL_law_524 (by decide) ?_
      refine r_lald' (j := 0) C0 hk_p3 rfl rfl dL_law_525 ?_
      refine r_iload C0 dL_law_526 0 rfl ?_
      refine r_i2l C0 dL_law_528 ?_
      refine r_lcmp C0 dL_law_529 ?_
      refine r_if_eq C0 535 dL_law_530 (by decide) hf (fun hf => ?_) (fun hf => ?_)
      · refine r_goto C0 1775 dL_law_535 (by decide) ?_
        refine r_iinc (j := 6) (v := (v4 + (4 : Int32))) (L' := [(4, .int (v4 + (4 : Int32))), (6, .int r2.1), (5, .int r1.1), (0, .ref b), (1, .ref p1), (2, .ref p2), (3, .ref p3)]) C0 dL_law_1775 rfl rfl (by decide) rfl ?_
        refine r_goto C0 23 dL_law_1778 (by decide) ?_
        refine r_widen (k1 := kc2) (s1 := ks2) (by omega) (by omega) ?_
        refine r_sub (L' := [(0, .ref b), (1, .ref p1), (2, .ref p2), (3, .ref p3), (4, .int (v4 + (4 : Int32)))]) [3, 4, 5, 6, 0] rfl ?_
        exact hk (v4 + (4 : Int32)) r2.2 r1.2.2 hf
      · refine r_iconst (v := 0) C0 dL_law_533 (by decide) ?_
        exact absurd (Option.some.inj hf) (by decide)
  · refine r_iconst (v := 0) C0 dL_law_516 (by decide) ?_
    exact absurd (Option.some.inj hf) (by decide)
set_option maxHeartbeats 4000000 in
set_option maxRecDepth 100000 in
theorem g_L_law_538 {ret : Option FieldType} {hh : List (Nat × Nat × Nat × Nat)} {Γ : zCx} {Q : State → Prop} {E : zEn} {S : zSk} {kc ks kc2 ks2 : Nat} (C0 : zCt Γ E R_law cL_law 7 ret hh room_1) (F b len : Nat) (xs : Nat → Int32) (p1 p2 p3 : Nat) (hc1 : kc + 8 ≤ kc2) (hs1 : ks + 48 ≤ ks2) (hc2 : kc2 ≤ room_1.cells) (hs2 : ks2 ≤ room_1.slots) (hX : va_X b len xs (gS Γ) (gS Γ).heap) (hbl : b < (gS Γ).heap.size) (hbA : ¬ E.2.2 ≤ b) (hk_p1 : K_X10 S p1) (hk_p2 : K_X11 S p2) (hk_p3 : S.1 p3 = some (.inr (3, 1))) (k : Int32 → zMi → zMl → Option Int32) (hk : ∀ (v4 : Int32) (M : zMi) (X : zMl), k v4 M X = some 1 → zG Γ Q E 7 kc2 ks2 S ZT M X 23 [(0, .ref b), (1, .ref p1), (2, .ref p2), (3, .ref p3), (4, .int v4)] []) (v4 : Int32) (M : zMi) (X : zMl) (hf : f_L_law_538 F len xs p1 p2 p3 k v4 M X = some 1) : zG Γ Q E 7 kc ks S ZT M X 538 [(0, .ref b), (1, .ref p1), (2, .ref p2), (3, .ref p3), (4, .int v4)] [] := by
  unfold f_L_law_538 at hf
  refine r_aload_n C0 dL_law_538 rfl 1 rfl ?_
  refine r_aload_n C0 dL_law_539 rfl 0 rfl ?_
  refine r_iload C0 dL_law_540 4 rfl ?_
  refine r_iconst (v := 1) C0 dL_law_542 (by decide) ?_
  refine r_iadd C0 dL_law_543 ?_
  refine r_sld C0 hX hbl hbA hf dL_law_544 (fun hf => ?_)
  refine r_aload_n C0 dL_law_545 rfl 3 rfl ?_
  refine r_callSW C0 (st := []) [.ref p1, .int (xs (ix (v4 + (1 : Int32)))), .ref p3] hf vs_209 (fun hl r1 hr1 => c_L_account hl F p1 (xs (ix (v4 + (1 : Int32)))) p3 hk_p1 hk_p3 M X r1 hr1) rfl rfl (Nat.le_of_ble_eq_true rfl) dL_law_546 (zrm_of (Nat.le_of_ble_eq_true rfl) (Nat.le_of_ble_eq_true rfl) (by omega) (by omega) rfl rfl) (fun r1 hr1 hf => ?_)
  refine r_istore (L' := [(5, .int r1.1), (0, .ref b), (1, .ref p1), (2, .ref p2), (3, .ref p3), (4, .int v4)]) C0 dL_law_549 (by decide) rfl ?_
  refine r_aload_n C0 dL_law_551 rfl 3 rfl ?_
  refine r_aload_n C0 dL_law_552 rfl 1 rfl ?_
  refine r_iload C0 dL_law_553 5 rfl ?_
  refine r_iconst (v := 1) C0 dL_law_555 (by decide) ?_
  refine r_iadd C0 dL_law_556 ?_
  refine r_sld C0 hX hbl hbA hf dL_law_557 (fun hf => ?_)
  refine r_callVim C0 (st := []) [.int (xs (ix (v4 + (1 : Int32))))] p2 hf vs_210 (fun hl r2 hr2 => c_X11_account hl F p2 (xs (ix (v4 + (1 : Int32)))) hk_p2 r1.2.1 r2 hr2) (K_X11_o hk_p2) rfl rfl rfl rfl (Nat.le_of_ble_eq_true rfl) dL_law_558 (zrm_of (Nat.le_of_ble_eq_true rfl) (Nat.le_of_ble_eq_true rfl) (by omega) (by omega) rfl rfl) (fun r2 hr2 hf => ?_)
  refine r_istore (L' := [(6, .int r2.1), (5, .int r1.1), (0, .ref b), (1, .ref p1), (2, .ref p2), (3, .ref p3), (4, .int v4)]) C0 dL_law_561 (by decide) rfl ?_
  refine r_aload_n C0 dL_law_563 rfl 4 rfl ?_
  refine r_callVi C0 (st := []) [] p2 hf vs_194 (fun hl r3 hr3 => c_X11_thrown hl F p2 hk_p2 r2.2 r3 hr3) (K_X11_o hk_p2) rfl rfl rfl rfl (Nat.le_of_ble_eq_true rfl) dL_law_564 (zrm_of (Nat.le_of_ble_eq_true rfl) (Nat.le_of_ble_eq_true rfl) (by omega) (by omega) rfl rfl) (fun r3 hr3 hf => ?_)
  refine r_iload C0 dL_law_567 1 rfl ?_
  refine r_icmp_eq C0 574 dL_law_569 (by decide) hf (fun hf => ?_) (fun hf => ?_)
  · refine r_iload C0 dL_law_574 1 rfl ?_
    refine r_if_ne C0 591 dL_law_576 (by decide) hf (fun hf => ?_) (fun hf => ?_)
    · refine r_goto C0 1775 dL_law_591 (by decide) ?_
      refine r_iinc (j := 6) (v := (v4 + (4 : Int32))) (L' := [(4, .int (v4 + (4 : Int32))), (6, .int r2.1), (5, .int r1.1), (0, .ref b), (1, .ref p1), (2, .ref p2), (3, .ref p3)]) C0 dL_law_1775 rfl rfl (by decide) rfl ?_
      refine r_goto C0 23 dL_law_1778 (by decide) ?_
      refine r_widen (k1 := kc2) (s1 := ks2) (by omega) (by omega) ?_
      refine r_sub (L' := [(0, .ref b), (1, .ref p1), (2, .ref p2), (3, .ref p3), (4, .int (v4 + (4 : Int32)))]) [3, 4, 5, 6, 0] rfl ?_
      exact hk (v4 + (4 : Int32)) r2.2 r1.2.2 hf
    · refine r_aload_n C0 dL_law_579 rfl 5 rfl ?_
      refine r_iconst (v := 0) C0 dL_law_580 (by decide) ?_
      refine r_lald' (j := 0) C0 hk_p3 rfl rfl dL_law_581 ?_
      refine r_iload C0 dL_law_582 0 rfl ?_
      refine r_i2l C0 dL_law_584 ?_
      refine r_lcmp C0 dL_law_585 ?_
      refine r_if_eq C0 591 dL_law_586 (by decide) hf (fun hf => ?_) (fun hf => ?_)
      · refine r_goto C0 1775 dL_law_591 (by decide) ?_
        refine r_iinc (j := 6) (v := (v4 + (4 : Int32))) (L' := [(4, .int (v4 + (4 : Int32))), (6, .int r2.1), (5, .int r1.1), (0, .ref b), (1, .ref p1), (2, .ref p2), (3, .ref p3)]) C0 dL_law_1775 rfl rfl (by decide) rfl ?_
        refine r_goto C0 23 dL_law_1778 (by decide) ?_
        refine r_widen (k1 := kc2) (s1 := ks2) (by omega) (by omega) ?_
        refine r_sub (L' := [(0, .ref b), (1, .ref p1), (2, .ref p2), (3, .ref p3), (4, .int (v4 + (4 : Int32)))]) [3, 4, 5, 6, 0] rfl ?_
        exact hk (v4 + (4 : Int32)) r2.2 r1.2.2 hf
      · refine r_iconst (v := 0) C0 dL_law_589 (by decide) ?_
        exact absurd (Option.some.inj hf) (by decide)
  · refine r_iconst (v := 0) C0 dL_law_572 (by decide) ?_
    exact absurd (Option.some.inj hf) (by decide)
set_option maxHeartbeats 4000000 in
set_option maxRecDepth 100000 in
theorem g_L_law_594 {ret : Option FieldType} {hh : List (Nat × Nat × Nat × Nat)} {Γ : zCx} {Q : State → Prop} {E : zEn} {S : zSk} {kc ks kc2 ks2 : Nat} (C0 : zCt Γ E R_law cL_law 7 ret hh room_1) (F b len : Nat) (xs : Nat → Int32) (p1 p2 p3 : Nat) (hc1 : kc + 8 ≤ kc2) (hs1 : ks + 48 ≤ ks2) (hc2 : kc2 ≤ room_1.cells) (hs2 : ks2 ≤ room_1.slots) (hX : va_X b len xs (gS Γ) (gS Γ).heap) (hbl : b < (gS Γ).heap.size) (hbA : ¬ E.2.2 ≤ b) (hk_p1 : K_X10 S p1) (hk_p2 : K_X11 S p2) (hk_p3 : S.1 p3 = some (.inr (3, 1))) (k : Int32 → zMi → zMl → Option Int32) (hk : ∀ (v4 : Int32) (M : zMi) (X : zMl), k v4 M X = some 1 → zG Γ Q E 7 kc2 ks2 S ZT M X 23 [(0, .ref b), (1, .ref p1), (2, .ref p2), (3, .ref p3), (4, .int v4)] []) (v4 : Int32) (M : zMi) (X : zMl) (hf : f_L_law_594 F len xs p1 p2 p3 k v4 M X = some 1) : zG Γ Q E 7 kc ks S ZT M X 594 [(0, .ref b), (1, .ref p1), (2, .ref p2), (3, .ref p3), (4, .int v4)] [] := by
  unfold f_L_law_594 at hf
  refine r_aload_n C0 dL_law_594 rfl 1 rfl ?_
  refine r_aload_n C0 dL_law_595 rfl 0 rfl ?_
  refine r_iload C0 dL_law_596 4 rfl ?_
  refine r_iconst (v := 1) C0 dL_law_598 (by decide) ?_
  refine r_iadd C0 dL_law_599 ?_
  refine r_sld C0 hX hbl hbA hf dL_law_600 (fun hf => ?_)
  refine r_aload_n C0 dL_law_601 rfl 0 rfl ?_
  refine r_iload C0 dL_law_602 4 rfl ?_
  refine r_iconst (v := 2) C0 dL_law_604 (by decide) ?_
  refine r_iadd C0 dL_law_605 ?_
  refine r_sld C0 hX hbl hbA hf dL_law_606 (fun hf => ?_)
  refine r_aload_n C0 dL_law_607 rfl 3 rfl ?_
  refine r_callSW C0 (st := []) [.ref p1, .int (xs (ix (v4 + (1 : Int32)))), .int (xs (ix (v4 + (2 : Int32)))), .ref p3] hf vs_211 (fun hl r1 hr1 => c_L_take hl F p1 (xs (ix (v4 + (1 : Int32)))) (xs (ix (v4 + (2 : Int32)))) p3 hk_p1 hk_p3 M X r1 hr1) rfl rfl (Nat.le_of_ble_eq_true rfl) dL_law_608 (zrm_of (Nat.le_of_ble_eq_true rfl) (Nat.le_of_ble_eq_true rfl) (by omega) (by omega) rfl rfl) (fun r1 hr1 hf => ?_)
  refine r_istore (L' := [(5, .int r1.1), (0, .ref b), (1, .ref p1), (2, .ref p2), (3, .ref p3), (4, .int v4)]) C0 dL_law_611 (by decide) rfl ?_
  refine r_aload_n C0 dL_law_613 rfl 3 rfl ?_
  refine r_aload_n C0 dL_law_614 rfl 1 rfl ?_
  refine r_iload C0 dL_law_615 5 rfl ?_
  refine r_iconst (v := 1) C0 dL_law_617 (by decide) ?_
  refine r_iadd C0 dL_law_618 ?_
  refine r_sld C0 hX hbl hbA hf dL_law_619 (fun hf => ?_)
  refine r_aload_n C0 dL_law_620 rfl 1 rfl ?_
  refine r_iload C0 dL_law_621 5 rfl ?_
  refine r_iconst (v := 2) C0 dL_law_623 (by decide) ?_
  refine r_iadd C0 dL_law_624 ?_
  refine r_sld C0 hX hbl hbA hf dL_law_625 (fun hf => ?_)
  refine r_callVim C0 (st := []) [.int (xs (ix (v4 + (1 : Int32)))), .int (xs (ix (v4 + (2 : Int32))))] p2 hf vs_212 (fun hl r2 hr2 => c_X11_take hl F p2 (xs (ix (v4 + (1 : Int32)))) (xs (ix (v4 + (2 : Int32)))) hk_p2 r1.2.1 r2 hr2) (K_X11_o hk_p2) rfl rfl rfl rfl (Nat.le_of_ble_eq_true rfl) dL_law_626 (zrm_of (Nat.le_of_ble_eq_true rfl) (Nat.le_of_ble_eq_true rfl) (by omega) (by omega) rfl rfl) (fun r2 hr2 hf => ?_)
  refine r_istore (L' := [(6, .int r2.1), (5, .int r1.1), (0, .ref b), (1, .ref p1), (2, .ref p2), (3, .ref p3), (4, .int v4)]) C0 dL_law_629 (by decide) rfl ?_
  refine r_aload_n C0 dL_law_631 rfl 4 rfl ?_
  refine r_callVi C0 (st := []) [] p2 hf vs_194 (fun hl r3 hr3 => c_X11_thrown hl F p2 hk_p2 r2.2 r3 hr3) (K_X11_o hk_p2) rfl rfl rfl rfl (Nat.le_of_ble_eq_true rfl) dL_law_632 (zrm_of (Nat.le_of_ble_eq_true rfl) (Nat.le_of_ble_eq_true rfl) (by omega) (by omega) rfl rfl) (fun r3 hr3 hf => ?_)
  refine r_iload C0 dL_law_635 1 rfl ?_
  refine r_icmp_eq C0 642 dL_law_637 (by decide) hf (fun hf => ?_) (fun hf => ?_)
  · refine r_iload C0 dL_law_642 1 rfl ?_
    refine r_if_ne C0 659 dL_law_644 (by decide) hf (fun hf => ?_) (fun hf => ?_)
    · refine r_goto C0 1775 dL_law_659 (by decide) ?_
      refine r_iinc (j := 6) (v := (v4 + (4 : Int32))) (L' := [(4, .int (v4 + (4 : Int32))), (6, .int r2.1), (5, .int r1.1), (0, .ref b), (1, .ref p1), (2, .ref p2), (3, .ref p3)]) C0 dL_law_1775 rfl rfl (by decide) rfl ?_
      refine r_goto C0 23 dL_law_1778 (by decide) ?_
      refine r_widen (k1 := kc2) (s1 := ks2) (by omega) (by omega) ?_
      refine r_sub (L' := [(0, .ref b), (1, .ref p1), (2, .ref p2), (3, .ref p3), (4, .int (v4 + (4 : Int32)))]) [3, 4, 5, 6, 0] rfl ?_
      exact hk (v4 + (4 : Int32)) r2.2 r1.2.2 hf
    · refine r_aload_n C0 dL_law_647 rfl 5 rfl ?_
      refine r_iconst (v := 0) C0 dL_law_648 (by decide) ?_
      refine r_lald' (j := 0) C0 hk_p3 rfl rfl dL_law_649 ?_
      refine r_iload C0 dL_law_650 0 rfl ?_
      refine r_i2l C0 dL_law_652 ?_
      refine r_lcmp C0 dL_law_653 ?_
      refine r_if_eq C0 659 dL_law_654 (by decide) hf (fun hf => ?_) (fun hf => ?_)
      · refine r_goto C0 1775 dL_law_659 (by decide) ?_
        refine r_iinc (j := 6) (v := (v4 + (4 : Int32))) (L' := [(4, .int (v4 + (4 : Int32))), (6, .int r2.1), (5, .int r1.1), (0, .ref b), (1, .ref p1), (2, .ref p2), (3, .ref p3)]) C0 dL_law_1775 rfl rfl (by decide) rfl ?_
        refine r_goto C0 23 dL_law_1778 (by decide) ?_
        refine r_widen (k1 := kc2) (s1 := ks2) (by omega) (by omega) ?_
        refine r_sub (L' := [(0, .ref b), (1, .ref p1), (2, .ref p2), (3, .ref p3), (4, .int (v4 + (4 : Int32)))]) [3, 4, 5, 6, 0] rfl ?_
        exact hk (v4 + (4 : Int32)) r2.2 r1.2.2 hf
      · refine r_iconst (v := 0) C0 dL_law_657 (by decide) ?_
        exact absurd (Option.some.inj hf) (by decide)
  · refine r_iconst (v := 0) C0 dL_law_640 (by decide) ?_
    exact absurd (Option.some.inj hf) (by decide)
set_option maxHeartbeats 4000000 in
set_option maxRecDepth 100000 in
theorem g_L_law_662 {ret : Option FieldType} {hh : List (Nat × Nat × Nat × Nat)} {Γ : zCx} {Q : State → Prop} {E : zEn} {S : zSk} {kc ks kc2 ks2 : Nat} (C0 : zCt Γ E R_law cL_law 7 ret hh room_1) (F b len : Nat) (xs : Nat → Int32) (p1 p2 p3 : Nat) (hc1 : kc + 8 ≤ kc2) (hs1 : ks + 48 ≤ ks2) (hc2 : kc2 ≤ room_1.cells) (hs2 : ks2 ≤ room_1.slots) (hX : va_X b len xs (gS Γ) (gS Γ).heap) (hbl : b < (gS Γ).heap.size) (hbA : ¬ E.2.2 ≤ b) (hk_p1 : K_X10 S p1) (hk_p2 : K_X11 S p2) (hk_p3 : S.1 p3 = some (.inr (3, 1))) (k : Int32 → zMi → zMl → Option Int32) (hk : ∀ (v4 : Int32) (M : zMi) (X : zMl), k v4 M X = some 1 → zG Γ Q E 7 kc2 ks2 S ZT M X 23 [(0, .ref b), (1, .ref p1), (2, .ref p2), (3, .ref p3), (4, .int v4)] []) (v4 : Int32) (M : zMi) (X : zMl) (hf : f_L_law_662 F len xs p1 p2 p3 k v4 M X = some 1) : zG Γ Q E 7 kc ks S ZT M X 662 [(0, .ref b), (1, .ref p1), (2, .ref p2), (3, .ref p3), (4, .int v4)] [] := by
  unfold f_L_law_662 at hf
  refine r_aload_n C0 dL_law_662 rfl 1 rfl ?_
  refine r_aload_n C0 dL_law_663 rfl 0 rfl ?_
  refine r_iload C0 dL_law_664 4 rfl ?_
  refine r_iconst (v := 1) C0 dL_law_666 (by decide) ?_
  refine r_iadd C0 dL_law_667 ?_
  refine r_sld C0 hX hbl hbA hf dL_law_668 (fun hf => ?_)
  refine r_aload_n C0 dL_law_669 rfl 3 rfl ?_
  refine r_callSW C0 (st := []) [.ref p1, .int (xs (ix (v4 + (1 : Int32)))), .ref p3] hf vs_213 (fun hl r1 hr1 => c_L_send hl F p1 (xs (ix (v4 + (1 : Int32)))) p3 hk_p1 hk_p3 M X r1 hr1) rfl rfl (Nat.le_of_ble_eq_true rfl) dL_law_670 (zrm_of (Nat.le_of_ble_eq_true rfl) (Nat.le_of_ble_eq_true rfl) (by omega) (by omega) rfl rfl) (fun r1 hr1 hf => ?_)
  refine r_istore (L' := [(5, .int r1.1), (0, .ref b), (1, .ref p1), (2, .ref p2), (3, .ref p3), (4, .int v4)]) C0 dL_law_673 (by decide) rfl ?_
  refine r_aload_n C0 dL_law_675 rfl 3 rfl ?_
  refine r_aload_n C0 dL_law_676 rfl 1 rfl ?_
  refine r_iload C0 dL_law_677 5 rfl ?_
  refine r_iconst (v := 1) C0 dL_law_679 (by decide) ?_
  refine r_iadd C0 dL_law_680 ?_
  refine r_sld C0 hX hbl hbA hf dL_law_681 (fun hf => ?_)
  refine r_callVim C0 (st := []) [.int (xs (ix (v4 + (1 : Int32))))] p2 hf vs_214 (fun hl r2 hr2 => c_X11_send hl F p2 (xs (ix (v4 + (1 : Int32)))) hk_p2 r1.2.1 r2 hr2) (K_X11_o hk_p2) rfl rfl rfl rfl (Nat.le_of_ble_eq_true rfl) dL_law_682 (zrm_of (Nat.le_of_ble_eq_true rfl) (Nat.le_of_ble_eq_true rfl) (by omega) (by omega) rfl rfl) (fun r2 hr2 hf => ?_)
  refine r_istore (L' := [(6, .int r2.1), (5, .int r1.1), (0, .ref b), (1, .ref p1), (2, .ref p2), (3, .ref p3), (4, .int v4)]) C0 dL_law_685 (by decide) rfl ?_
  refine r_aload_n C0 dL_law_687 rfl 4 rfl ?_
  refine r_callVi C0 (st := []) [] p2 hf vs_194 (fun hl r3 hr3 => c_X11_thrown hl F p2 hk_p2 r2.2 r3 hr3) (K_X11_o hk_p2) rfl rfl rfl rfl (Nat.le_of_ble_eq_true rfl) dL_law_688 (zrm_of (Nat.le_of_ble_eq_true rfl) (Nat.le_of_ble_eq_true rfl) (by omega) (by omega) rfl rfl) (fun r3 hr3 hf => ?_)
  refine r_iload C0 dL_law_691 1 rfl ?_
  refine r_icmp_eq C0 698 dL_law_693 (by decide) hf (fun hf => ?_) (fun hf => ?_)
  · refine r_iload C0 dL_law_698 1 rfl ?_
    refine r_if_ne C0 715 dL_law_700 (by decide) hf (fun hf => ?_) (fun hf => ?_)
    · refine r_goto C0 1775 dL_law_715 (by decide) ?_
      refine r_iinc (j := 6) (v := (v4 + (4 : Int32))) (L' := [(4, .int (v4 + (4 : Int32))), (6, .int r2.1), (5, .int r1.1), (0, .ref b), (1, .ref p1), (2, .ref p2), (3, .ref p3)]) C0 dL_law_1775 rfl rfl (by decide) rfl ?_
      refine r_goto C0 23 dL_law_1778 (by decide) ?_
      refine r_widen (k1 := kc2) (s1 := ks2) (by omega) (by omega) ?_
      refine r_sub (L' := [(0, .ref b), (1, .ref p1), (2, .ref p2), (3, .ref p3), (4, .int (v4 + (4 : Int32)))]) [3, 4, 5, 6, 0] rfl ?_
      exact hk (v4 + (4 : Int32)) r2.2 r1.2.2 hf
    · refine r_aload_n C0 dL_law_703 rfl 5 rfl ?_
      refine r_iconst (v := 0) C0 dL_law_704 (by decide) ?_
      refine r_lald' (j := 0) C0 hk_p3 rfl rfl dL_law_705 ?_
      refine r_iload C0 dL_law_706 0 rfl ?_
      refine r_i2l C0 dL_law_708 ?_
      refine r_lcmp C0 dL_law_709 ?_
      refine r_if_eq C0 715 dL_law_710 (by decide) hf (fun hf => ?_) (fun hf => ?_)
      · refine r_goto C0 1775 dL_law_715 (by decide) ?_
        refine r_iinc (j := 6) (v := (v4 + (4 : Int32))) (L' := [(4, .int (v4 + (4 : Int32))), (6, .int r2.1), (5, .int r1.1), (0, .ref b), (1, .ref p1), (2, .ref p2), (3, .ref p3)]) C0 dL_law_1775 rfl rfl (by decide) rfl ?_
        refine r_goto C0 23 dL_law_1778 (by decide) ?_
        refine r_widen (k1 := kc2) (s1 := ks2) (by omega) (by omega) ?_
        refine r_sub (L' := [(0, .ref b), (1, .ref p1), (2, .ref p2), (3, .ref p3), (4, .int (v4 + (4 : Int32)))]) [3, 4, 5, 6, 0] rfl ?_
        exact hk (v4 + (4 : Int32)) r2.2 r1.2.2 hf
      · refine r_iconst (v := 0) C0 dL_law_713 (by decide) ?_
        exact absurd (Option.some.inj hf) (by decide)
  · refine r_iconst (v := 0) C0 dL_law_696 (by decide) ?_
    exact absurd (Option.some.inj hf) (by decide)
set_option maxHeartbeats 4000000 in
set_option maxRecDepth 100000 in
theorem g_L_law_718 {ret : Option FieldType} {hh : List (Nat × Nat × Nat × Nat)} {Γ : zCx} {Q : State → Prop} {E : zEn} {S : zSk} {kc ks kc2 ks2 : Nat} (C0 : zCt Γ E R_law cL_law 7 ret hh room_1) (F b len : Nat) (xs : Nat → Int32) (p1 p2 p3 : Nat) (hc1 : kc + 8 ≤ kc2) (hs1 : ks + 48 ≤ ks2) (hc2 : kc2 ≤ room_1.cells) (hs2 : ks2 ≤ room_1.slots) (hX : va_X b len xs (gS Γ) (gS Γ).heap) (hbl : b < (gS Γ).heap.size) (hbA : ¬ E.2.2 ≤ b) (hk_p1 : K_X10 S p1) (hk_p2 : K_X11 S p2) (hk_p3 : S.1 p3 = some (.inr (3, 1))) (k : Int32 → zMi → zMl → Option Int32) (hk : ∀ (v4 : Int32) (M : zMi) (X : zMl), k v4 M X = some 1 → zG Γ Q E 7 kc2 ks2 S ZT M X 23 [(0, .ref b), (1, .ref p1), (2, .ref p2), (3, .ref p3), (4, .int v4)] []) (v4 : Int32) (M : zMi) (X : zMl) (hf : f_L_law_718 F len xs p1 p2 p3 k v4 M X = some 1) : zG Γ Q E 7 kc ks S ZT M X 718 [(0, .ref b), (1, .ref p1), (2, .ref p2), (3, .ref p3), (4, .int v4)] [] := by
  unfold f_L_law_718 at hf
  refine r_aload_n C0 dL_law_718 rfl 1 rfl ?_
  refine r_aload_n C0 dL_law_719 rfl 0 rfl ?_
  refine r_iload C0 dL_law_720 4 rfl ?_
  refine r_iconst (v := 1) C0 dL_law_722 (by decide) ?_
  refine r_iadd C0 dL_law_723 ?_
  refine r_sld C0 hX hbl hbA hf dL_law_724 (fun hf => ?_)
  refine r_aload_n C0 dL_law_725 rfl 3 rfl ?_
  refine r_callSW C0 (st := []) [.ref p1, .int (xs (ix (v4 + (1 : Int32)))), .ref p3] hf vs_215 (fun hl r1 hr1 => c_L_recall hl F p1 (xs (ix (v4 + (1 : Int32)))) p3 hk_p1 hk_p3 M X r1 hr1) rfl rfl (Nat.le_of_ble_eq_true rfl) dL_law_726 (zrm_of (Nat.le_of_ble_eq_true rfl) (Nat.le_of_ble_eq_true rfl) (by omega) (by omega) rfl rfl) (fun r1 hr1 hf => ?_)
  refine r_istore (L' := [(5, .int r1.1), (0, .ref b), (1, .ref p1), (2, .ref p2), (3, .ref p3), (4, .int v4)]) C0 dL_law_729 (by decide) rfl ?_
  refine r_aload_n C0 dL_law_731 rfl 3 rfl ?_
  refine r_aload_n C0 dL_law_732 rfl 1 rfl ?_
  refine r_iload C0 dL_law_733 5 rfl ?_
  refine r_iconst (v := 1) C0 dL_law_735 (by decide) ?_
  refine r_iadd C0 dL_law_736 ?_
  refine r_sld C0 hX hbl hbA hf dL_law_737 (fun hf => ?_)
  refine r_callVim C0 (st := []) [.int (xs (ix (v4 + (1 : Int32))))] p2 hf vs_216 (fun hl r2 hr2 => c_X11_recall hl F p2 (xs (ix (v4 + (1 : Int32)))) hk_p2 r1.2.1 r2 hr2) (K_X11_o hk_p2) rfl rfl rfl rfl (Nat.le_of_ble_eq_true rfl) dL_law_738 (zrm_of (Nat.le_of_ble_eq_true rfl) (Nat.le_of_ble_eq_true rfl) (by omega) (by omega) rfl rfl) (fun r2 hr2 hf => ?_)
  refine r_istore (L' := [(6, .int r2.1), (5, .int r1.1), (0, .ref b), (1, .ref p1), (2, .ref p2), (3, .ref p3), (4, .int v4)]) C0 dL_law_741 (by decide) rfl ?_
  refine r_aload_n C0 dL_law_743 rfl 4 rfl ?_
  refine r_callVi C0 (st := []) [] p2 hf vs_194 (fun hl r3 hr3 => c_X11_thrown hl F p2 hk_p2 r2.2 r3 hr3) (K_X11_o hk_p2) rfl rfl rfl rfl (Nat.le_of_ble_eq_true rfl) dL_law_744 (zrm_of (Nat.le_of_ble_eq_true rfl) (Nat.le_of_ble_eq_true rfl) (by omega) (by omega) rfl rfl) (fun r3 hr3 hf => ?_)
  refine r_iload C0 dL_law_747 1 rfl ?_
  refine r_icmp_eq C0 754 dL_law_749 (by decide) hf (fun hf => ?_) (fun hf => ?_)
  · refine r_iload C0 dL_law_754 1 rfl ?_
    refine r_if_ne C0 771 dL_law_756 (by decide) hf (fun hf => ?_) (fun hf => ?_)
    · refine r_goto C0 1775 dL_law_771 (by decide) ?_
      refine r_iinc (j := 6) (v := (v4 + (4 : Int32))) (L' := [(4, .int (v4 + (4 : Int32))), (6, .int r2.1), (5, .int r1.1), (0, .ref b), (1, .ref p1), (2, .ref p2), (3, .ref p3)]) C0 dL_law_1775 rfl rfl (by decide) rfl ?_
      refine r_goto C0 23 dL_law_1778 (by decide) ?_
      refine r_widen (k1 := kc2) (s1 := ks2) (by omega) (by omega) ?_
      refine r_sub (L' := [(0, .ref b), (1, .ref p1), (2, .ref p2), (3, .ref p3), (4, .int (v4 + (4 : Int32)))]) [3, 4, 5, 6, 0] rfl ?_
      exact hk (v4 + (4 : Int32)) r2.2 r1.2.2 hf
    · refine r_aload_n C0 dL_law_759 rfl 5 rfl ?_
      refine r_iconst (v := 0) C0 dL_law_760 (by decide) ?_
      refine r_lald' (j := 0) C0 hk_p3 rfl rfl dL_law_761 ?_
      refine r_iload C0 dL_law_762 0 rfl ?_
      refine r_i2l C0 dL_law_764 ?_
      refine r_lcmp C0 dL_law_765 ?_
      refine r_if_eq C0 771 dL_law_766 (by decide) hf (fun hf => ?_) (fun hf => ?_)
      · refine r_goto C0 1775 dL_law_771 (by decide) ?_
        refine r_iinc (j := 6) (v := (v4 + (4 : Int32))) (L' := [(4, .int (v4 + (4 : Int32))), (6, .int r2.1), (5, .int r1.1), (0, .ref b), (1, .ref p1), (2, .ref p2), (3, .ref p3)]) C0 dL_law_1775 rfl rfl (by decide) rfl ?_
        refine r_goto C0 23 dL_law_1778 (by decide) ?_
        refine r_widen (k1 := kc2) (s1 := ks2) (by omega) (by omega) ?_
        refine r_sub (L' := [(0, .ref b), (1, .ref p1), (2, .ref p2), (3, .ref p3), (4, .int (v4 + (4 : Int32)))]) [3, 4, 5, 6, 0] rfl ?_
        exact hk (v4 + (4 : Int32)) r2.2 r1.2.2 hf
      · refine r_iconst (v := 0) C0 dL_law_769 (by decide) ?_
        exact absurd (Option.some.inj hf) (by decide)
  · refine r_iconst (v := 0) C0 dL_law_752 (by decide) ?_
    exact absurd (Option.some.inj hf) (by decide)
set_option maxHeartbeats 4000000 in
set_option maxRecDepth 100000 in
theorem g_L_law_774 {ret : Option FieldType} {hh : List (Nat × Nat × Nat × Nat)} {Γ : zCx} {Q : State → Prop} {E : zEn} {S : zSk} {kc ks kc2 ks2 : Nat} (C0 : zCt Γ E R_law cL_law 7 ret hh room_1) (F b len : Nat) (xs : Nat → Int32) (p1 p2 p3 : Nat) (hc1 : kc + 8 ≤ kc2) (hs1 : ks + 48 ≤ ks2) (hc2 : kc2 ≤ room_1.cells) (hs2 : ks2 ≤ room_1.slots) (hX : va_X b len xs (gS Γ) (gS Γ).heap) (hbl : b < (gS Γ).heap.size) (hbA : ¬ E.2.2 ≤ b) (hk_p1 : K_X10 S p1) (hk_p2 : K_X11 S p2) (hk_p3 : S.1 p3 = some (.inr (3, 1))) (k : Int32 → zMi → zMl → Option Int32) (hk : ∀ (v4 : Int32) (M : zMi) (X : zMl), k v4 M X = some 1 → zG Γ Q E 7 kc2 ks2 S ZT M X 23 [(0, .ref b), (1, .ref p1), (2, .ref p2), (3, .ref p3), (4, .int v4)] []) (v4 : Int32) (M : zMi) (X : zMl) (hf : f_L_law_774 F len xs p1 p2 p3 k v4 M X = some 1) : zG Γ Q E 7 kc ks S ZT M X 774 [(0, .ref b), (1, .ref p1), (2, .ref p2), (3, .ref p3), (4, .int v4)] [] := by
  unfold f_L_law_774 at hf
  refine r_aload_n C0 dL_law_774 rfl 1 rfl ?_
  refine r_aload_n C0 dL_law_775 rfl 0 rfl ?_
  refine r_iload C0 dL_law_776 4 rfl ?_
  refine r_iconst (v := 1) C0 dL_law_778 (by decide) ?_
  refine r_iadd C0 dL_law_779 ?_
  refine r_sld C0 hX hbl hbA hf dL_law_780 (fun hf => ?_)
  refine r_aload_n C0 dL_law_781 rfl 0 rfl ?_
  refine r_iload C0 dL_law_782 4 rfl ?_
  refine r_iconst (v := 2) C0 dL_law_784 (by decide) ?_
  refine r_iadd C0 dL_law_785 ?_
  refine r_sld C0 hX hbl hbA hf dL_law_786 (fun hf => ?_)
  refine r_aload_n C0 dL_law_787 rfl 3 rfl ?_
  refine r_callSW C0 (st := []) [.ref p1, .int (xs (ix (v4 + (1 : Int32)))), .int (xs (ix (v4 + (2 : Int32)))), .ref p3] hf vs_217 (fun hl r1 hr1 => c_L_extend hl F p1 (xs (ix (v4 + (1 : Int32)))) (xs (ix (v4 + (2 : Int32)))) p3 hk_p1 hk_p3 M X r1 hr1) rfl rfl (Nat.le_of_ble_eq_true rfl) dL_law_788 (zrm_of (Nat.le_of_ble_eq_true rfl) (Nat.le_of_ble_eq_true rfl) (by omega) (by omega) rfl rfl) (fun r1 hr1 hf => ?_)
  refine r_istore (L' := [(5, .int r1.1), (0, .ref b), (1, .ref p1), (2, .ref p2), (3, .ref p3), (4, .int v4)]) C0 dL_law_791 (by decide) rfl ?_
  refine r_aload_n C0 dL_law_793 rfl 3 rfl ?_
  refine r_aload_n C0 dL_law_794 rfl 1 rfl ?_
  refine r_iload C0 dL_law_795 5 rfl ?_
  refine r_iconst (v := 1) C0 dL_law_797 (by decide) ?_
  refine r_iadd C0 dL_law_798 ?_
  refine r_sld C0 hX hbl hbA hf dL_law_799 (fun hf => ?_)
  refine r_aload_n C0 dL_law_800 rfl 1 rfl ?_
  refine r_iload C0 dL_law_801 5 rfl ?_
  refine r_iconst (v := 2) C0 dL_law_803 (by decide) ?_
  refine r_iadd C0 dL_law_804 ?_
  refine r_sld C0 hX hbl hbA hf dL_law_805 (fun hf => ?_)
  refine r_callVim C0 (st := []) [.int (xs (ix (v4 + (1 : Int32)))), .int (xs (ix (v4 + (2 : Int32))))] p2 hf vs_218 (fun hl r2 hr2 => c_X11_extend hl F p2 (xs (ix (v4 + (1 : Int32)))) (xs (ix (v4 + (2 : Int32)))) hk_p2 r1.2.1 r2 hr2) (K_X11_o hk_p2) rfl rfl rfl rfl (Nat.le_of_ble_eq_true rfl) dL_law_806 (zrm_of (Nat.le_of_ble_eq_true rfl) (Nat.le_of_ble_eq_true rfl) (by omega) (by omega) rfl rfl) (fun r2 hr2 hf => ?_)
  refine r_istore (L' := [(6, .int r2.1), (5, .int r1.1), (0, .ref b), (1, .ref p1), (2, .ref p2), (3, .ref p3), (4, .int v4)]) C0 dL_law_809 (by decide) rfl ?_
  refine r_aload_n C0 dL_law_811 rfl 4 rfl ?_
  refine r_callVi C0 (st := []) [] p2 hf vs_194 (fun hl r3 hr3 => c_X11_thrown hl F p2 hk_p2 r2.2 r3 hr3) (K_X11_o hk_p2) rfl rfl rfl rfl (Nat.le_of_ble_eq_true rfl) dL_law_812 (zrm_of (Nat.le_of_ble_eq_true rfl) (Nat.le_of_ble_eq_true rfl) (by omega) (by omega) rfl rfl) (fun r3 hr3 hf => ?_)
  refine r_iload C0 dL_law_815 1 rfl ?_
  refine r_icmp_eq C0 822 dL_law_817 (by decide) hf (fun hf => ?_) (fun hf => ?_)
  · refine r_iload C0 dL_law_822 1 rfl ?_
    refine r_if_ne C0 839 dL_law_824 (by decide) hf (fun hf => ?_) (fun hf => ?_)
    · refine r_goto C0 1775 dL_law_839 (by decide) ?_
      refine r_iinc (j := 6) (v := (v4 + (4 : Int32))) (L' := [(4, .int (v4 + (4 : Int32))), (6, .int r2.1), (5, .int r1.1), (0, .ref b), (1, .ref p1), (2, .ref p2), (3, .ref p3)]) C0 dL_law_1775 rfl rfl (by decide) rfl ?_
      refine r_goto C0 23 dL_law_1778 (by decide) ?_
      refine r_widen (k1 := kc2) (s1 := ks2) (by omega) (by omega) ?_
      refine r_sub (L' := [(0, .ref b), (1, .ref p1), (2, .ref p2), (3, .ref p3), (4, .int (v4 + (4 : Int32)))]) [3, 4, 5, 6, 0] rfl ?_
      exact hk (v4 + (4 : Int32)) r2.2 r1.2.2 hf
    · refine r_aload_n C0 dL_law_827 rfl 5 rfl ?_
      refine r_iconst (v := 0) C0 dL_law_828 (by decide) ?_
      refine r_lald' (j := 0) C0 hk_p3 rfl rfl dL_law_829 ?_
      refine r_iload C0 dL_law_830 0 rfl ?_
      refine r_i2l C0 dL_law_832 ?_
      refine r_lcmp C0 dL_law_833 ?_
      refine r_if_eq C0 839 dL_law_834 (by decide) hf (fun hf => ?_) (fun hf => ?_)
      · refine r_goto C0 1775 dL_law_839 (by decide) ?_
        refine r_iinc (j := 6) (v := (v4 + (4 : Int32))) (L' := [(4, .int (v4 + (4 : Int32))), (6, .int r2.1), (5, .int r1.1), (0, .ref b), (1, .ref p1), (2, .ref p2), (3, .ref p3)]) C0 dL_law_1775 rfl rfl (by decide) rfl ?_
        refine r_goto C0 23 dL_law_1778 (by decide) ?_
        refine r_widen (k1 := kc2) (s1 := ks2) (by omega) (by omega) ?_
        refine r_sub (L' := [(0, .ref b), (1, .ref p1), (2, .ref p2), (3, .ref p3), (4, .int (v4 + (4 : Int32)))]) [3, 4, 5, 6, 0] rfl ?_
        exact hk (v4 + (4 : Int32)) r2.2 r1.2.2 hf
      · refine r_iconst (v := 0) C0 dL_law_837 (by decide) ?_
        exact absurd (Option.some.inj hf) (by decide)
  · refine r_iconst (v := 0) C0 dL_law_820 (by decide) ?_
    exact absurd (Option.some.inj hf) (by decide)
set_option maxHeartbeats 4000000 in
set_option maxRecDepth 100000 in
theorem g_L_law_842 {ret : Option FieldType} {hh : List (Nat × Nat × Nat × Nat)} {Γ : zCx} {Q : State → Prop} {E : zEn} {S : zSk} {kc ks kc2 ks2 : Nat} (C0 : zCt Γ E R_law cL_law 7 ret hh room_1) (F b len : Nat) (xs : Nat → Int32) (p1 p2 p3 : Nat) (hc1 : kc + 8 ≤ kc2) (hs1 : ks + 48 ≤ ks2) (hc2 : kc2 ≤ room_1.cells) (hs2 : ks2 ≤ room_1.slots) (hX : va_X b len xs (gS Γ) (gS Γ).heap) (hbl : b < (gS Γ).heap.size) (hbA : ¬ E.2.2 ≤ b) (hk_p1 : K_X10 S p1) (hk_p2 : K_X11 S p2) (hk_p3 : S.1 p3 = some (.inr (3, 1))) (k : Int32 → zMi → zMl → Option Int32) (hk : ∀ (v4 : Int32) (M : zMi) (X : zMl), k v4 M X = some 1 → zG Γ Q E 7 kc2 ks2 S ZT M X 23 [(0, .ref b), (1, .ref p1), (2, .ref p2), (3, .ref p3), (4, .int v4)] []) (v4 : Int32) (M : zMi) (X : zMl) (hf : f_L_law_842 F len xs p1 p2 p3 k v4 M X = some 1) : zG Γ Q E 7 kc ks S ZT M X 842 [(0, .ref b), (1, .ref p1), (2, .ref p2), (3, .ref p3), (4, .int v4)] [] := by
  unfold f_L_law_842 at hf
  refine r_aload_n C0 dL_law_842 rfl 1 rfl ?_
  refine r_aload_n C0 dL_law_843 rfl 0 rfl ?_
  refine r_iload C0 dL_law_844 4 rfl ?_
  refine r_iconst (v := 1) C0 dL_law_846 (by decide) ?_
  refine r_iadd C0 dL_law_847 ?_
  refine r_sld C0 hX hbl hbA hf dL_law_848 (fun hf => ?_)
  refine r_aload_n C0 dL_law_849 rfl 3 rfl ?_
  refine r_callSW C0 (st := []) [.ref p1, .int (xs (ix (v4 + (1 : Int32)))), .ref p3] hf vs_219 (fun hl r1 hr1 => c_L_buy hl F p1 (xs (ix (v4 + (1 : Int32)))) p3 hk_p1 hk_p3 M X r1 hr1) rfl rfl (Nat.le_of_ble_eq_true rfl) dL_law_850 (zrm_of (Nat.le_of_ble_eq_true rfl) (Nat.le_of_ble_eq_true rfl) (by omega) (by omega) rfl rfl) (fun r1 hr1 hf => ?_)
  refine r_istore (L' := [(5, .int r1.1), (0, .ref b), (1, .ref p1), (2, .ref p2), (3, .ref p3), (4, .int v4)]) C0 dL_law_853 (by decide) rfl ?_
  refine r_aload_n C0 dL_law_855 rfl 3 rfl ?_
  refine r_aload_n C0 dL_law_856 rfl 1 rfl ?_
  refine r_iload C0 dL_law_857 5 rfl ?_
  refine r_iconst (v := 1) C0 dL_law_859 (by decide) ?_
  refine r_iadd C0 dL_law_860 ?_
  refine r_sld C0 hX hbl hbA hf dL_law_861 (fun hf => ?_)
  refine r_callVim C0 (st := []) [.int (xs (ix (v4 + (1 : Int32))))] p2 hf vs_220 (fun hl r2 hr2 => c_X11_buy hl F p2 (xs (ix (v4 + (1 : Int32)))) hk_p2 r1.2.1 r2 hr2) (K_X11_o hk_p2) rfl rfl rfl rfl (Nat.le_of_ble_eq_true rfl) dL_law_862 (zrm_of (Nat.le_of_ble_eq_true rfl) (Nat.le_of_ble_eq_true rfl) (by omega) (by omega) rfl rfl) (fun r2 hr2 hf => ?_)
  refine r_istore (L' := [(6, .int r2.1), (5, .int r1.1), (0, .ref b), (1, .ref p1), (2, .ref p2), (3, .ref p3), (4, .int v4)]) C0 dL_law_865 (by decide) rfl ?_
  refine r_aload_n C0 dL_law_867 rfl 4 rfl ?_
  refine r_callVi C0 (st := []) [] p2 hf vs_194 (fun hl r3 hr3 => c_X11_thrown hl F p2 hk_p2 r2.2 r3 hr3) (K_X11_o hk_p2) rfl rfl rfl rfl (Nat.le_of_ble_eq_true rfl) dL_law_868 (zrm_of (Nat.le_of_ble_eq_true rfl) (Nat.le_of_ble_eq_true rfl) (by omega) (by omega) rfl rfl) (fun r3 hr3 hf => ?_)
  refine r_iload C0 dL_law_871 1 rfl ?_
  refine r_icmp_eq C0 878 dL_law_873 (by decide) hf (fun hf => ?_) (fun hf => ?_)
  · refine r_iload C0 dL_law_878 1 rfl ?_
    refine r_if_ne C0 895 dL_law_880 (by decide) hf (fun hf => ?_) (fun hf => ?_)
    · refine r_goto C0 1775 dL_law_895 (by decide) ?_
      refine r_iinc (j := 6) (v := (v4 + (4 : Int32))) (L' := [(4, .int (v4 + (4 : Int32))), (6, .int r2.1), (5, .int r1.1), (0, .ref b), (1, .ref p1), (2, .ref p2), (3, .ref p3)]) C0 dL_law_1775 rfl rfl (by decide) rfl ?_
      refine r_goto C0 23 dL_law_1778 (by decide) ?_
      refine r_widen (k1 := kc2) (s1 := ks2) (by omega) (by omega) ?_
      refine r_sub (L' := [(0, .ref b), (1, .ref p1), (2, .ref p2), (3, .ref p3), (4, .int (v4 + (4 : Int32)))]) [3, 4, 5, 6, 0] rfl ?_
      exact hk (v4 + (4 : Int32)) r2.2 r1.2.2 hf
    · refine r_aload_n C0 dL_law_883 rfl 5 rfl ?_
      refine r_iconst (v := 0) C0 dL_law_884 (by decide) ?_
      refine r_lald' (j := 0) C0 hk_p3 rfl rfl dL_law_885 ?_
      refine r_iload C0 dL_law_886 0 rfl ?_
      refine r_i2l C0 dL_law_888 ?_
      refine r_lcmp C0 dL_law_889 ?_
      refine r_if_eq C0 895 dL_law_890 (by decide) hf (fun hf => ?_) (fun hf => ?_)
      · refine r_goto C0 1775 dL_law_895 (by decide) ?_
        refine r_iinc (j := 6) (v := (v4 + (4 : Int32))) (L' := [(4, .int (v4 + (4 : Int32))), (6, .int r2.1), (5, .int r1.1), (0, .ref b), (1, .ref p1), (2, .ref p2), (3, .ref p3)]) C0 dL_law_1775 rfl rfl (by decide) rfl ?_
        refine r_goto C0 23 dL_law_1778 (by decide) ?_
        refine r_widen (k1 := kc2) (s1 := ks2) (by omega) (by omega) ?_
        refine r_sub (L' := [(0, .ref b), (1, .ref p1), (2, .ref p2), (3, .ref p3), (4, .int (v4 + (4 : Int32)))]) [3, 4, 5, 6, 0] rfl ?_
        exact hk (v4 + (4 : Int32)) r2.2 r1.2.2 hf
      · refine r_iconst (v := 0) C0 dL_law_893 (by decide) ?_
        exact absurd (Option.some.inj hf) (by decide)
  · refine r_iconst (v := 0) C0 dL_law_876 (by decide) ?_
    exact absurd (Option.some.inj hf) (by decide)
set_option maxHeartbeats 4000000 in
set_option maxRecDepth 100000 in
theorem g_L_law_898 {ret : Option FieldType} {hh : List (Nat × Nat × Nat × Nat)} {Γ : zCx} {Q : State → Prop} {E : zEn} {S : zSk} {kc ks kc2 ks2 : Nat} (C0 : zCt Γ E R_law cL_law 7 ret hh room_1) (F b len : Nat) (xs : Nat → Int32) (p1 p2 p3 : Nat) (hc1 : kc + 8 ≤ kc2) (hs1 : ks + 48 ≤ ks2) (hc2 : kc2 ≤ room_1.cells) (hs2 : ks2 ≤ room_1.slots) (hX : va_X b len xs (gS Γ) (gS Γ).heap) (hbl : b < (gS Γ).heap.size) (hbA : ¬ E.2.2 ≤ b) (hk_p1 : K_X10 S p1) (hk_p2 : K_X11 S p2) (hk_p3 : S.1 p3 = some (.inr (3, 1))) (k : Int32 → zMi → zMl → Option Int32) (hk : ∀ (v4 : Int32) (M : zMi) (X : zMl), k v4 M X = some 1 → zG Γ Q E 7 kc2 ks2 S ZT M X 23 [(0, .ref b), (1, .ref p1), (2, .ref p2), (3, .ref p3), (4, .int v4)] []) (v4 : Int32) (M : zMi) (X : zMl) (hf : f_L_law_898 F len xs p1 p2 p3 k v4 M X = some 1) : zG Γ Q E 7 kc ks S ZT M X 898 [(0, .ref b), (1, .ref p1), (2, .ref p2), (3, .ref p3), (4, .int v4)] [] := by
  unfold f_L_law_898 at hf
  refine r_aload_n C0 dL_law_898 rfl 1 rfl ?_
  refine r_aload_n C0 dL_law_899 rfl 0 rfl ?_
  refine r_iload C0 dL_law_900 4 rfl ?_
  refine r_iconst (v := 1) C0 dL_law_902 (by decide) ?_
  refine r_iadd C0 dL_law_903 ?_
  refine r_sld C0 hX hbl hbA hf dL_law_904 (fun hf => ?_)
  refine r_aload_n C0 dL_law_905 rfl 0 rfl ?_
  refine r_iload C0 dL_law_906 4 rfl ?_
  refine r_iconst (v := 2) C0 dL_law_908 (by decide) ?_
  refine r_iadd C0 dL_law_909 ?_
  refine r_sld C0 hX hbl hbA hf dL_law_910 (fun hf => ?_)
  refine r_aload_n C0 dL_law_911 rfl 3 rfl ?_
  refine r_callSW C0 (st := []) [.ref p1, .int (xs (ix (v4 + (1 : Int32)))), .int (xs (ix (v4 + (2 : Int32)))), .ref p3] hf vs_221 (fun hl r1 hr1 => c_L_setWaves hl F p1 (xs (ix (v4 + (1 : Int32)))) (xs (ix (v4 + (2 : Int32)))) p3 hk_p1 hk_p3 M X r1 hr1) rfl rfl (Nat.le_of_ble_eq_true rfl) dL_law_912 (zrm_of (Nat.le_of_ble_eq_true rfl) (Nat.le_of_ble_eq_true rfl) (by omega) (by omega) rfl rfl) (fun r1 hr1 hf => ?_)
  refine r_istore (L' := [(5, .int r1.1), (0, .ref b), (1, .ref p1), (2, .ref p2), (3, .ref p3), (4, .int v4)]) C0 dL_law_915 (by decide) rfl ?_
  refine r_aload_n C0 dL_law_917 rfl 3 rfl ?_
  refine r_aload_n C0 dL_law_918 rfl 1 rfl ?_
  refine r_iload C0 dL_law_919 5 rfl ?_
  refine r_iconst (v := 1) C0 dL_law_921 (by decide) ?_
  refine r_iadd C0 dL_law_922 ?_
  refine r_sld C0 hX hbl hbA hf dL_law_923 (fun hf => ?_)
  refine r_aload_n C0 dL_law_924 rfl 1 rfl ?_
  refine r_iload C0 dL_law_925 5 rfl ?_
  refine r_iconst (v := 2) C0 dL_law_927 (by decide) ?_
  refine r_iadd C0 dL_law_928 ?_
  refine r_sld C0 hX hbl hbA hf dL_law_929 (fun hf => ?_)
  refine r_callVim C0 (st := []) [.int (xs (ix (v4 + (1 : Int32)))), .int (xs (ix (v4 + (2 : Int32))))] p2 hf vs_222 (fun hl r2 hr2 => c_X11_setWaves hl F p2 (xs (ix (v4 + (1 : Int32)))) (xs (ix (v4 + (2 : Int32)))) hk_p2 r1.2.1 r2 hr2) (K_X11_o hk_p2) rfl rfl rfl rfl (Nat.le_of_ble_eq_true rfl) dL_law_930 (zrm_of (Nat.le_of_ble_eq_true rfl) (Nat.le_of_ble_eq_true rfl) (by omega) (by omega) rfl rfl) (fun r2 hr2 hf => ?_)
  refine r_istore (L' := [(6, .int r2.1), (5, .int r1.1), (0, .ref b), (1, .ref p1), (2, .ref p2), (3, .ref p3), (4, .int v4)]) C0 dL_law_933 (by decide) rfl ?_
  refine r_aload_n C0 dL_law_935 rfl 4 rfl ?_
  refine r_callVi C0 (st := []) [] p2 hf vs_194 (fun hl r3 hr3 => c_X11_thrown hl F p2 hk_p2 r2.2 r3 hr3) (K_X11_o hk_p2) rfl rfl rfl rfl (Nat.le_of_ble_eq_true rfl) dL_law_936 (zrm_of (Nat.le_of_ble_eq_true rfl) (Nat.le_of_ble_eq_true rfl) (by omega) (by omega) rfl rfl) (fun r3 hr3 hf => ?_)
  refine r_iload C0 dL_law_939 1 rfl ?_
  refine r_icmp_eq C0 946 dL_law_941 (by decide) hf (fun hf => ?_) (fun hf => ?_)
  · refine r_iload C0 dL_law_946 1 rfl ?_
    refine r_if_ne C0 963 dL_law_948 (by decide) hf (fun hf => ?_) (fun hf => ?_)
    · refine r_goto C0 1775 dL_law_963 (by decide) ?_
      refine r_iinc (j := 6) (v := (v4 + (4 : Int32))) (L' := [(4, .int (v4 + (4 : Int32))), (6, .int r2.1), (5, .int r1.1), (0, .ref b), (1, .ref p1), (2, .ref p2), (3, .ref p3)]) C0 dL_law_1775 rfl rfl (by decide) rfl ?_
      refine r_goto C0 23 dL_law_1778 (by decide) ?_
      refine r_widen (k1 := kc2) (s1 := ks2) (by omega) (by omega) ?_
      refine r_sub (L' := [(0, .ref b), (1, .ref p1), (2, .ref p2), (3, .ref p3), (4, .int (v4 + (4 : Int32)))]) [3, 4, 5, 6, 0] rfl ?_
      exact hk (v4 + (4 : Int32)) r2.2 r1.2.2 hf
    · refine r_aload_n C0 dL_law_951 rfl 5 rfl ?_
      refine r_iconst (v := 0) C0 dL_law_952 (by decide) ?_
      refine r_lald' (j := 0) C0 hk_p3 rfl rfl dL_law_953 ?_
      refine r_iload C0 dL_law_954 0 rfl ?_
      refine r_i2l C0 dL_law_956 ?_
      refine r_lcmp C0 dL_law_957 ?_
      refine r_if_eq C0 963 dL_law_958 (by decide) hf (fun hf => ?_) (fun hf => ?_)
      · refine r_goto C0 1775 dL_law_963 (by decide) ?_
        refine r_iinc (j := 6) (v := (v4 + (4 : Int32))) (L' := [(4, .int (v4 + (4 : Int32))), (6, .int r2.1), (5, .int r1.1), (0, .ref b), (1, .ref p1), (2, .ref p2), (3, .ref p3)]) C0 dL_law_1775 rfl rfl (by decide) rfl ?_
        refine r_goto C0 23 dL_law_1778 (by decide) ?_
        refine r_widen (k1 := kc2) (s1 := ks2) (by omega) (by omega) ?_
        refine r_sub (L' := [(0, .ref b), (1, .ref p1), (2, .ref p2), (3, .ref p3), (4, .int (v4 + (4 : Int32)))]) [3, 4, 5, 6, 0] rfl ?_
        exact hk (v4 + (4 : Int32)) r2.2 r1.2.2 hf
      · refine r_iconst (v := 0) C0 dL_law_961 (by decide) ?_
        exact absurd (Option.some.inj hf) (by decide)
  · refine r_iconst (v := 0) C0 dL_law_944 (by decide) ?_
    exact absurd (Option.some.inj hf) (by decide)
set_option maxHeartbeats 4000000 in
set_option maxRecDepth 100000 in
theorem g_L_law_966 {ret : Option FieldType} {hh : List (Nat × Nat × Nat × Nat)} {Γ : zCx} {Q : State → Prop} {E : zEn} {S : zSk} {kc ks kc2 ks2 : Nat} (C0 : zCt Γ E R_law cL_law 7 ret hh room_1) (F b len : Nat) (xs : Nat → Int32) (p1 p2 p3 : Nat) (hc1 : kc + 8 ≤ kc2) (hs1 : ks + 48 ≤ ks2) (hc2 : kc2 ≤ room_1.cells) (hs2 : ks2 ≤ room_1.slots) (hX : va_X b len xs (gS Γ) (gS Γ).heap) (hbl : b < (gS Γ).heap.size) (hbA : ¬ E.2.2 ≤ b) (hk_p1 : K_X10 S p1) (hk_p2 : K_X11 S p2) (hk_p3 : S.1 p3 = some (.inr (3, 1))) (k : Int32 → zMi → zMl → Option Int32) (hk : ∀ (v4 : Int32) (M : zMi) (X : zMl), k v4 M X = some 1 → zG Γ Q E 7 kc2 ks2 S ZT M X 23 [(0, .ref b), (1, .ref p1), (2, .ref p2), (3, .ref p3), (4, .int v4)] []) (v4 : Int32) (M : zMi) (X : zMl) (hf : f_L_law_966 F len xs p1 p2 p3 k v4 M X = some 1) : zG Γ Q E 7 kc ks S ZT M X 966 [(0, .ref b), (1, .ref p1), (2, .ref p2), (3, .ref p3), (4, .int v4)] [] := by
  unfold f_L_law_966 at hf
  refine r_aload_n C0 dL_law_966 rfl 1 rfl ?_
  refine r_aload_n C0 dL_law_967 rfl 0 rfl ?_
  refine r_iload C0 dL_law_968 4 rfl ?_
  refine r_iconst (v := 1) C0 dL_law_970 (by decide) ?_
  refine r_iadd C0 dL_law_971 ?_
  refine r_sld C0 hX hbl hbA hf dL_law_972 (fun hf => ?_)
  refine r_aload_n C0 dL_law_973 rfl 3 rfl ?_
  refine r_callSW C0 (st := []) [.ref p1, .int (xs (ix (v4 + (1 : Int32)))), .ref p3] hf vs_223 (fun hl r1 hr1 => c_L_pass hl F p1 (xs (ix (v4 + (1 : Int32)))) p3 hk_p1 hk_p3 M X r1 hr1) rfl rfl (Nat.le_of_ble_eq_true rfl) dL_law_974 (zrm_of (Nat.le_of_ble_eq_true rfl) (Nat.le_of_ble_eq_true rfl) (by omega) (by omega) rfl rfl) (fun r1 hr1 hf => ?_)
  refine r_istore (L' := [(5, .int r1.1), (0, .ref b), (1, .ref p1), (2, .ref p2), (3, .ref p3), (4, .int v4)]) C0 dL_law_977 (by decide) rfl ?_
  refine r_aload_n C0 dL_law_979 rfl 3 rfl ?_
  refine r_aload_n C0 dL_law_980 rfl 1 rfl ?_
  refine r_iload C0 dL_law_981 5 rfl ?_
  refine r_iconst (v := 1) C0 dL_law_983 (by decide) ?_
  refine r_iadd C0 dL_law_984 ?_
  refine r_sld C0 hX hbl hbA hf dL_law_985 (fun hf => ?_)
  refine r_callVim C0 (st := []) [.int (xs (ix (v4 + (1 : Int32))))] p2 hf vs_224 (fun hl r2 hr2 => c_X11_pass hl F p2 (xs (ix (v4 + (1 : Int32)))) hk_p2 r1.2.1 r2 hr2) (K_X11_o hk_p2) rfl rfl rfl rfl (Nat.le_of_ble_eq_true rfl) dL_law_986 (zrm_of (Nat.le_of_ble_eq_true rfl) (Nat.le_of_ble_eq_true rfl) (by omega) (by omega) rfl rfl) (fun r2 hr2 hf => ?_)
  refine r_istore (L' := [(6, .int r2.1), (5, .int r1.1), (0, .ref b), (1, .ref p1), (2, .ref p2), (3, .ref p3), (4, .int v4)]) C0 dL_law_989 (by decide) rfl ?_
  refine r_aload_n C0 dL_law_991 rfl 4 rfl ?_
  refine r_callVi C0 (st := []) [] p2 hf vs_194 (fun hl r3 hr3 => c_X11_thrown hl F p2 hk_p2 r2.2 r3 hr3) (K_X11_o hk_p2) rfl rfl rfl rfl (Nat.le_of_ble_eq_true rfl) dL_law_992 (zrm_of (Nat.le_of_ble_eq_true rfl) (Nat.le_of_ble_eq_true rfl) (by omega) (by omega) rfl rfl) (fun r3 hr3 hf => ?_)
  refine r_iload C0 dL_law_995 1 rfl ?_
  refine r_icmp_eq C0 1002 dL_law_997 (by decide) hf (fun hf => ?_) (fun hf => ?_)
  · refine r_iload C0 dL_law_1002 1 rfl ?_
    refine r_if_ne C0 1019 dL_law_1004 (by decide) hf (fun hf => ?_) (fun hf => ?_)
    · refine r_goto C0 1775 dL_law_1019 (by decide) ?_
      refine r_iinc (j := 6) (v := (v4 + (4 : Int32))) (L' := [(4, .int (v4 + (4 : Int32))), (6, .int r2.1), (5, .int r1.1), (0, .ref b), (1, .ref p1), (2, .ref p2), (3, .ref p3)]) C0 dL_law_1775 rfl rfl (by decide) rfl ?_
      refine r_goto C0 23 dL_law_1778 (by decide) ?_
      refine r_widen (k1 := kc2) (s1 := ks2) (by omega) (by omega) ?_
      refine r_sub (L' := [(0, .ref b), (1, .ref p1), (2, .ref p2), (3, .ref p3), (4, .int (v4 + (4 : Int32)))]) [3, 4, 5, 6, 0] rfl ?_
      exact hk (v4 + (4 : Int32)) r2.2 r1.2.2 hf
    · refine r_aload_n C0 dL_law_1007 rfl 5 rfl ?_
      refine r_iconst (v := 0) C0 dL_law_1008 (by decide) ?_
      refine r_lald' (j := 0) C0 hk_p3 rfl rfl dL_law_1009 ?_
      refine r_iload C0 dL_law_1010 0 rfl ?_
      refine r_i2l C0 dL_law_1012 ?_
      refine r_lcmp C0 dL_law_1013 ?_
      refine r_if_eq C0 1019 dL_law_1014 (by decide) hf (fun hf => ?_) (fun hf => ?_)
      · refine r_goto C0 1775 dL_law_1019 (by decide) ?_
        refine r_iinc (j := 6) (v := (v4 + (4 : Int32))) (L' := [(4, .int (v4 + (4 : Int32))), (6, .int r2.1), (5, .int r1.1), (0, .ref b), (1, .ref p1), (2, .ref p2), (3, .ref p3)]) C0 dL_law_1775 rfl rfl (by decide) rfl ?_
        refine r_goto C0 23 dL_law_1778 (by decide) ?_
        refine r_widen (k1 := kc2) (s1 := ks2) (by omega) (by omega) ?_
        refine r_sub (L' := [(0, .ref b), (1, .ref p1), (2, .ref p2), (3, .ref p3), (4, .int (v4 + (4 : Int32)))]) [3, 4, 5, 6, 0] rfl ?_
        exact hk (v4 + (4 : Int32)) r2.2 r1.2.2 hf
      · refine r_iconst (v := 0) C0 dL_law_1017 (by decide) ?_
        exact absurd (Option.some.inj hf) (by decide)
  · refine r_iconst (v := 0) C0 dL_law_1000 (by decide) ?_
    exact absurd (Option.some.inj hf) (by decide)
set_option maxHeartbeats 4000000 in
set_option maxRecDepth 100000 in
theorem g_L_law_1022 {ret : Option FieldType} {hh : List (Nat × Nat × Nat × Nat)} {Γ : zCx} {Q : State → Prop} {E : zEn} {S : zSk} {kc ks kc2 ks2 : Nat} (C0 : zCt Γ E R_law cL_law 7 ret hh room_1) (F b len : Nat) (xs : Nat → Int32) (p1 p2 p3 : Nat) (hc1 : kc + 8 ≤ kc2) (hs1 : ks + 48 ≤ ks2) (hc2 : kc2 ≤ room_1.cells) (hs2 : ks2 ≤ room_1.slots) (hX : va_X b len xs (gS Γ) (gS Γ).heap) (hbl : b < (gS Γ).heap.size) (hbA : ¬ E.2.2 ≤ b) (hk_p1 : K_X10 S p1) (hk_p2 : K_X11 S p2) (hk_p3 : S.1 p3 = some (.inr (3, 1))) (k : Int32 → zMi → zMl → Option Int32) (hk : ∀ (v4 : Int32) (M : zMi) (X : zMl), k v4 M X = some 1 → zG Γ Q E 7 kc2 ks2 S ZT M X 23 [(0, .ref b), (1, .ref p1), (2, .ref p2), (3, .ref p3), (4, .int v4)] []) (v4 : Int32) (M : zMi) (X : zMl) (hf : f_L_law_1022 F len xs p1 p2 p3 k v4 M X = some 1) : zG Γ Q E 7 kc ks S ZT M X 1022 [(0, .ref b), (1, .ref p1), (2, .ref p2), (3, .ref p3), (4, .int v4)] [] := by
  unfold f_L_law_1022 at hf
  refine r_aload_n C0 dL_law_1022 rfl 1 rfl ?_
  refine r_aload_n C0 dL_law_1023 rfl 3 rfl ?_
  refine r_callSW C0 (st := []) [.ref p1, .ref p3] hf vs_225 (fun hl r1 hr1 => c_L_undo hl F p1 p3 hk_p1 hk_p3 M X r1 hr1) rfl rfl (Nat.le_of_ble_eq_true rfl) dL_law_1024 (zrm_of (Nat.le_of_ble_eq_true rfl) (Nat.le_of_ble_eq_true rfl) (by omega) (by omega) rfl rfl) (fun r1 hr1 hf => ?_)
  refine r_istore (L' := [(5, .int r1.1), (0, .ref b), (1, .ref p1), (2, .ref p2), (3, .ref p3), (4, .int v4)]) C0 dL_law_1027 (by decide) rfl ?_
  refine r_aload_n C0 dL_law_1029 rfl 3 rfl ?_
  refine r_callVim C0 (st := []) [] p2 hf vs_226 (fun hl r2 hr2 => c_X11_undo hl F p2 hk_p2 r1.2.1 r2 hr2) (K_X11_o hk_p2) rfl rfl rfl rfl (Nat.le_of_ble_eq_true rfl) dL_law_1030 (zrm_of (Nat.le_of_ble_eq_true rfl) (Nat.le_of_ble_eq_true rfl) (by omega) (by omega) rfl rfl) (fun r2 hr2 hf => ?_)
  refine r_istore (L' := [(6, .int r2.1), (5, .int r1.1), (0, .ref b), (1, .ref p1), (2, .ref p2), (3, .ref p3), (4, .int v4)]) C0 dL_law_1033 (by decide) rfl ?_
  refine r_aload_n C0 dL_law_1035 rfl 4 rfl ?_
  refine r_callVi C0 (st := []) [] p2 hf vs_194 (fun hl r3 hr3 => c_X11_thrown hl F p2 hk_p2 r2.2 r3 hr3) (K_X11_o hk_p2) rfl rfl rfl rfl (Nat.le_of_ble_eq_true rfl) dL_law_1036 (zrm_of (Nat.le_of_ble_eq_true rfl) (Nat.le_of_ble_eq_true rfl) (by omega) (by omega) rfl rfl) (fun r3 hr3 hf => ?_)
  refine r_iload C0 dL_law_1039 1 rfl ?_
  refine r_icmp_eq C0 1046 dL_law_1041 (by decide) hf (fun hf => ?_) (fun hf => ?_)
  · refine r_iload C0 dL_law_1046 1 rfl ?_
    refine r_if_ne C0 1063 dL_law_1048 (by decide) hf (fun hf => ?_) (fun hf => ?_)
    · refine r_goto C0 1775 dL_law_1063 (by decide) ?_
      refine r_iinc (j := 6) (v := (v4 + (4 : Int32))) (L' := [(4, .int (v4 + (4 : Int32))), (6, .int r2.1), (5, .int r1.1), (0, .ref b), (1, .ref p1), (2, .ref p2), (3, .ref p3)]) C0 dL_law_1775 rfl rfl (by decide) rfl ?_
      refine r_goto C0 23 dL_law_1778 (by decide) ?_
      refine r_widen (k1 := kc2) (s1 := ks2) (by omega) (by omega) ?_
      refine r_sub (L' := [(0, .ref b), (1, .ref p1), (2, .ref p2), (3, .ref p3), (4, .int (v4 + (4 : Int32)))]) [3, 4, 5, 6, 0] rfl ?_
      exact hk (v4 + (4 : Int32)) r2.2 r1.2.2 hf
    · refine r_aload_n C0 dL_law_1051 rfl 5 rfl ?_
      refine r_iconst (v := 0) C0 dL_law_1052 (by decide) ?_
      refine r_lald' (j := 0) C0 hk_p3 rfl rfl dL_law_1053 ?_
      refine r_iload C0 dL_law_1054 0 rfl ?_
      refine r_i2l C0 dL_law_1056 ?_
      refine r_lcmp C0 dL_law_1057 ?_
      refine r_if_eq C0 1063 dL_law_1058 (by decide) hf (fun hf => ?_) (fun hf => ?_)
      · refine r_goto C0 1775 dL_law_1063 (by decide) ?_
        refine r_iinc (j := 6) (v := (v4 + (4 : Int32))) (L' := [(4, .int (v4 + (4 : Int32))), (6, .int r2.1), (5, .int r1.1), (0, .ref b), (1, .ref p1), (2, .ref p2), (3, .ref p3)]) C0 dL_law_1775 rfl rfl (by decide) rfl ?_
        refine r_goto C0 23 dL_law_1778 (by decide) ?_
        refine r_widen (k1 := kc2) (s1 := ks2) (by omega) (by omega) ?_
        refine r_sub (L' := [(0, .ref b), (1, .ref p1), (2, .ref p2), (3, .ref p3), (4, .int (v4 + (4 : Int32)))]) [3, 4, 5, 6, 0] rfl ?_
        exact hk (v4 + (4 : Int32)) r2.2 r1.2.2 hf
      · refine r_iconst (v := 0) C0 dL_law_1061 (by decide) ?_
        exact absurd (Option.some.inj hf) (by decide)
  · refine r_iconst (v := 0) C0 dL_law_1044 (by decide) ?_
    exact absurd (Option.some.inj hf) (by decide)
set_option maxHeartbeats 4000000 in
set_option maxRecDepth 100000 in
theorem g_L_law_1066 {ret : Option FieldType} {hh : List (Nat × Nat × Nat × Nat)} {Γ : zCx} {Q : State → Prop} {E : zEn} {S : zSk} {kc ks kc2 ks2 : Nat} (C0 : zCt Γ E R_law cL_law 7 ret hh room_1) (F b len : Nat) (xs : Nat → Int32) (p1 p2 p3 : Nat) (hc1 : kc + 8 ≤ kc2) (hs1 : ks + 48 ≤ ks2) (hc2 : kc2 ≤ room_1.cells) (hs2 : ks2 ≤ room_1.slots) (hX : va_X b len xs (gS Γ) (gS Γ).heap) (hbl : b < (gS Γ).heap.size) (hbA : ¬ E.2.2 ≤ b) (hk_p1 : K_X10 S p1) (hk_p2 : K_X11 S p2) (hk_p3 : S.1 p3 = some (.inr (3, 1))) (k : Int32 → zMi → zMl → Option Int32) (hk : ∀ (v4 : Int32) (M : zMi) (X : zMl), k v4 M X = some 1 → zG Γ Q E 7 kc2 ks2 S ZT M X 23 [(0, .ref b), (1, .ref p1), (2, .ref p2), (3, .ref p3), (4, .int v4)] []) (v4 : Int32) (M : zMi) (X : zMl) (hf : f_L_law_1066 F len xs p1 p2 p3 k v4 M X = some 1) : zG Γ Q E 7 kc ks S ZT M X 1066 [(0, .ref b), (1, .ref p1), (2, .ref p2), (3, .ref p3), (4, .int v4)] [] := by
  unfold f_L_law_1066 at hf
  refine r_aload_n C0 dL_law_1066 rfl 1 rfl ?_
  refine r_aload_n C0 dL_law_1067 rfl 0 rfl ?_
  refine r_iload C0 dL_law_1068 4 rfl ?_
  refine r_iconst (v := 1) C0 dL_law_1070 (by decide) ?_
  refine r_iadd C0 dL_law_1071 ?_
  refine r_sld C0 hX hbl hbA hf dL_law_1072 (fun hf => ?_)
  refine r_aload_n C0 dL_law_1073 rfl 0 rfl ?_
  refine r_iload C0 dL_law_1074 4 rfl ?_
  refine r_iconst (v := 2) C0 dL_law_1076 (by decide) ?_
  refine r_iadd C0 dL_law_1077 ?_
  refine r_sld C0 hX hbl hbA hf dL_law_1078 (fun hf => ?_)
  refine r_aload_n C0 dL_law_1079 rfl 3 rfl ?_
  refine r_callSW C0 (st := []) [.ref p1, .int (xs (ix (v4 + (1 : Int32)))), .int (xs (ix (v4 + (2 : Int32)))), .ref p3] hf vs_227 (fun hl r1 hr1 => c_L_needs hl F p1 (xs (ix (v4 + (1 : Int32)))) (xs (ix (v4 + (2 : Int32)))) p3 hk_p1 hk_p3 M X r1 hr1) rfl rfl (Nat.le_of_ble_eq_true rfl) dL_law_1080 (zrm_of (Nat.le_of_ble_eq_true rfl) (Nat.le_of_ble_eq_true rfl) (by omega) (by omega) rfl rfl) (fun r1 hr1 hf => ?_)
  refine r_istore (L' := [(5, .int r1.1), (0, .ref b), (1, .ref p1), (2, .ref p2), (3, .ref p3), (4, .int v4)]) C0 dL_law_1083 (by decide) rfl ?_
  refine r_aload_n C0 dL_law_1085 rfl 3 rfl ?_
  refine r_aload_n C0 dL_law_1086 rfl 1 rfl ?_
  refine r_iload C0 dL_law_1087 5 rfl ?_
  refine r_iconst (v := 1) C0 dL_law_1089 (by decide) ?_
  refine r_iadd C0 dL_law_1090 ?_
  refine r_sld C0 hX hbl hbA hf dL_law_1091 (fun hf => ?_)
  refine r_aload_n C0 dL_law_1092 rfl 1 rfl ?_
  refine r_iload C0 dL_law_1093 5 rfl ?_
  refine r_iconst (v := 2) C0 dL_law_1095 (by decide) ?_
  refine r_iadd C0 dL_law_1096 ?_
  refine r_sld C0 hX hbl hbA hf dL_law_1097 (fun hf => ?_)
  refine r_callVim C0 (st := []) [.int (xs (ix (v4 + (1 : Int32)))), .int (xs (ix (v4 + (2 : Int32))))] p2 hf vs_228 (fun hl r2 hr2 => c_X11_needs hl F p2 (xs (ix (v4 + (1 : Int32)))) (xs (ix (v4 + (2 : Int32)))) hk_p2 r1.2.1 r2 hr2) (K_X11_o hk_p2) rfl rfl rfl rfl (Nat.le_of_ble_eq_true rfl) dL_law_1098 (zrm_of (Nat.le_of_ble_eq_true rfl) (Nat.le_of_ble_eq_true rfl) (by omega) (by omega) rfl rfl) (fun r2 hr2 hf => ?_)
  refine r_istore (L' := [(6, .int r2.1), (5, .int r1.1), (0, .ref b), (1, .ref p1), (2, .ref p2), (3, .ref p3), (4, .int v4)]) C0 dL_law_1101 (by decide) rfl ?_
  refine r_aload_n C0 dL_law_1103 rfl 4 rfl ?_
  refine r_callVi C0 (st := []) [] p2 hf vs_194 (fun hl r3 hr3 => c_X11_thrown hl F p2 hk_p2 r2.2 r3 hr3) (K_X11_o hk_p2) rfl rfl rfl rfl (Nat.le_of_ble_eq_true rfl) dL_law_1104 (zrm_of (Nat.le_of_ble_eq_true rfl) (Nat.le_of_ble_eq_true rfl) (by omega) (by omega) rfl rfl) (fun r3 hr3 hf => ?_)
  refine r_iload C0 dL_law_1107 1 rfl ?_
  refine r_icmp_eq C0 1114 dL_law_1109 (by decide) hf (fun hf => ?_) (fun hf => ?_)
  · refine r_iload C0 dL_law_1114 1 rfl ?_
    refine r_if_ne C0 1131 dL_law_1116 (by decide) hf (fun hf => ?_) (fun hf => ?_)
    · refine r_goto C0 1775 dL_law_1131 (by decide) ?_
      refine r_iinc (j := 6) (v := (v4 + (4 : Int32))) (L' := [(4, .int (v4 + (4 : Int32))), (6, .int r2.1), (5, .int r1.1), (0, .ref b), (1, .ref p1), (2, .ref p2), (3, .ref p3)]) C0 dL_law_1775 rfl rfl (by decide) rfl ?_
      refine r_goto C0 23 dL_law_1778 (by decide) ?_
      refine r_widen (k1 := kc2) (s1 := ks2) (by omega) (by omega) ?_
      refine r_sub (L' := [(0, .ref b), (1, .ref p1), (2, .ref p2), (3, .ref p3), (4, .int (v4 + (4 : Int32)))]) [3, 4, 5, 6, 0] rfl ?_
      exact hk (v4 + (4 : Int32)) r2.2 r1.2.2 hf
    · refine r_aload_n C0 dL_law_1119 rfl 5 rfl ?_
      refine r_iconst (v := 0) C0 dL_law_1120 (by decide) ?_
      refine r_lald' (j := 0) C0 hk_p3 rfl rfl dL_law_1121 ?_
      refine r_iload C0 dL_law_1122 0 rfl ?_
      refine r_i2l C0 dL_law_1124 ?_
      refine r_lcmp C0 dL_law_1125 ?_
      refine r_if_eq C0 1131 dL_law_1126 (by decide) hf (fun hf => ?_) (fun hf => ?_)
      · refine r_goto C0 1775 dL_law_1131 (by decide) ?_
        refine r_iinc (j := 6) (v := (v4 + (4 : Int32))) (L' := [(4, .int (v4 + (4 : Int32))), (6, .int r2.1), (5, .int r1.1), (0, .ref b), (1, .ref p1), (2, .ref p2), (3, .ref p3)]) C0 dL_law_1775 rfl rfl (by decide) rfl ?_
        refine r_goto C0 23 dL_law_1778 (by decide) ?_
        refine r_widen (k1 := kc2) (s1 := ks2) (by omega) (by omega) ?_
        refine r_sub (L' := [(0, .ref b), (1, .ref p1), (2, .ref p2), (3, .ref p3), (4, .int (v4 + (4 : Int32)))]) [3, 4, 5, 6, 0] rfl ?_
        exact hk (v4 + (4 : Int32)) r2.2 r1.2.2 hf
      · refine r_iconst (v := 0) C0 dL_law_1129 (by decide) ?_
        exact absurd (Option.some.inj hf) (by decide)
  · refine r_iconst (v := 0) C0 dL_law_1112 (by decide) ?_
    exact absurd (Option.some.inj hf) (by decide)
set_option maxHeartbeats 4000000 in
set_option maxRecDepth 100000 in
theorem g_L_law_1134 {ret : Option FieldType} {hh : List (Nat × Nat × Nat × Nat)} {Γ : zCx} {Q : State → Prop} {E : zEn} {S : zSk} {kc ks kc2 ks2 : Nat} (C0 : zCt Γ E R_law cL_law 7 ret hh room_1) (F b len : Nat) (xs : Nat → Int32) (p1 p2 p3 : Nat) (hc1 : kc + 8 ≤ kc2) (hs1 : ks + 48 ≤ ks2) (hc2 : kc2 ≤ room_1.cells) (hs2 : ks2 ≤ room_1.slots) (hX : va_X b len xs (gS Γ) (gS Γ).heap) (hbl : b < (gS Γ).heap.size) (hbA : ¬ E.2.2 ≤ b) (hk_p1 : K_X10 S p1) (hk_p2 : K_X11 S p2) (hk_p3 : S.1 p3 = some (.inr (3, 1))) (k : Int32 → zMi → zMl → Option Int32) (hk : ∀ (v4 : Int32) (M : zMi) (X : zMl), k v4 M X = some 1 → zG Γ Q E 7 kc2 ks2 S ZT M X 23 [(0, .ref b), (1, .ref p1), (2, .ref p2), (3, .ref p3), (4, .int v4)] []) (v4 : Int32) (M : zMi) (X : zMl) (hf : f_L_law_1134 F len xs p1 p2 p3 k v4 M X = some 1) : zG Γ Q E 7 kc ks S ZT M X 1134 [(0, .ref b), (1, .ref p1), (2, .ref p2), (3, .ref p3), (4, .int v4)] [] := by
  unfold f_L_law_1134 at hf
  refine r_aload_n C0 dL_law_1134 rfl 1 rfl ?_
  refine r_aload_n C0 dL_law_1135 rfl 0 rfl ?_
  refine r_iload C0 dL_law_1136 4 rfl ?_
  refine r_iconst (v := 1) C0 dL_law_1138 (by decide) ?_
  refine r_iadd C0 dL_law_1139 ?_
  refine r_sld C0 hX hbl hbA hf dL_law_1140 (fun hf => ?_)
  refine r_aload_n C0 dL_law_1141 rfl 0 rfl ?_
  refine r_iload C0 dL_law_1142 4 rfl ?_
  refine r_iconst (v := 2) C0 dL_law_1144 (by decide) ?_
  refine r_iadd C0 dL_law_1145 ?_
  refine r_sld C0 hX hbl hbA hf dL_law_1146 (fun hf => ?_)
  refine r_aload_n C0 dL_law_1147 rfl 3 rfl ?_
  refine r_callSW C0 (st := []) [.ref p1, .int (xs (ix (v4 + (1 : Int32)))), .int (xs (ix (v4 + (2 : Int32)))), .ref p3] hf vs_229 (fun hl r1 hr1 => c_L_reach hl F p1 (xs (ix (v4 + (1 : Int32)))) (xs (ix (v4 + (2 : Int32)))) p3 hk_p1 hk_p3 M X r1 hr1) rfl rfl (Nat.le_of_ble_eq_true rfl) dL_law_1148 (zrm_of (Nat.le_of_ble_eq_true rfl) (Nat.le_of_ble_eq_true rfl) (by omega) (by omega) rfl rfl) (fun r1 hr1 hf => ?_)
  refine r_istore (L' := [(5, .int r1.1), (0, .ref b), (1, .ref p1), (2, .ref p2), (3, .ref p3), (4, .int v4)]) C0 dL_law_1151 (by decide) rfl ?_
  refine r_aload_n C0 dL_law_1153 rfl 3 rfl ?_
  refine r_aload_n C0 dL_law_1154 rfl 1 rfl ?_
  refine r_iload C0 dL_law_1155 5 rfl ?_
  refine r_iconst (v := 1) C0 dL_law_1157 (by decide) ?_
  refine r_iadd C0 dL_law_1158 ?_
  refine r_sld C0 hX hbl hbA hf dL_law_1159 (fun hf => ?_)
  refine r_aload_n C0 dL_law_1160 rfl 1 rfl ?_
  refine r_iload C0 dL_law_1161 5 rfl ?_
  refine r_iconst (v := 2) C0 dL_law_1163 (by decide) ?_
  refine r_iadd C0 dL_law_1164 ?_
  refine r_sld C0 hX hbl hbA hf dL_law_1165 (fun hf => ?_)
  refine r_callVim C0 (st := []) [.int (xs (ix (v4 + (1 : Int32)))), .int (xs (ix (v4 + (2 : Int32))))] p2 hf vs_230 (fun hl r2 hr2 => c_X11_reach hl F p2 (xs (ix (v4 + (1 : Int32)))) (xs (ix (v4 + (2 : Int32)))) hk_p2 r1.2.1 r2 hr2) (K_X11_o hk_p2) rfl rfl rfl rfl (Nat.le_of_ble_eq_true rfl) dL_law_1166 (zrm_of (Nat.le_of_ble_eq_true rfl) (Nat.le_of_ble_eq_true rfl) (by omega) (by omega) rfl rfl) (fun r2 hr2 hf => ?_)
  refine r_istore (L' := [(6, .int r2.1), (5, .int r1.1), (0, .ref b), (1, .ref p1), (2, .ref p2), (3, .ref p3), (4, .int v4)]) C0 dL_law_1169 (by decide) rfl ?_
  refine r_aload_n C0 dL_law_1171 rfl 4 rfl ?_
  refine r_callVi C0 (st := []) [] p2 hf vs_194 (fun hl r3 hr3 => c_X11_thrown hl F p2 hk_p2 r2.2 r3 hr3) (K_X11_o hk_p2) rfl rfl rfl rfl (Nat.le_of_ble_eq_true rfl) dL_law_1172 (zrm_of (Nat.le_of_ble_eq_true rfl) (Nat.le_of_ble_eq_true rfl) (by omega) (by omega) rfl rfl) (fun r3 hr3 hf => ?_)
  refine r_iload C0 dL_law_1175 1 rfl ?_
  refine r_icmp_eq C0 1182 dL_law_1177 (by decide) hf (fun hf => ?_) (fun hf => ?_)
  · refine r_iload C0 dL_law_1182 1 rfl ?_
    refine r_if_ne C0 1199 dL_law_1184 (by decide) hf (fun hf => ?_) (fun hf => ?_)
    · refine r_goto C0 1775 dL_law_1199 (by decide) ?_
      refine r_iinc (j := 6) (v := (v4 + (4 : Int32))) (L' := [(4, .int (v4 + (4 : Int32))), (6, .int r2.1), (5, .int r1.1), (0, .ref b), (1, .ref p1), (2, .ref p2), (3, .ref p3)]) C0 dL_law_1775 rfl rfl (by decide) rfl ?_
      refine r_goto C0 23 dL_law_1778 (by decide) ?_
      refine r_widen (k1 := kc2) (s1 := ks2) (by omega) (by omega) ?_
      refine r_sub (L' := [(0, .ref b), (1, .ref p1), (2, .ref p2), (3, .ref p3), (4, .int (v4 + (4 : Int32)))]) [3, 4, 5, 6, 0] rfl ?_
      exact hk (v4 + (4 : Int32)) r2.2 r1.2.2 hf
    · refine r_aload_n C0 dL_law_1187 rfl 5 rfl ?_
      refine r_iconst (v := 0) C0 dL_law_1188 (by decide) ?_
      refine r_lald' (j := 0) C0 hk_p3 rfl rfl dL_law_1189 ?_
      refine r_iload C0 dL_law_1190 0 rfl ?_
      refine r_i2l C0 dL_law_1192 ?_
      refine r_lcmp C0 dL_law_1193 ?_
      refine r_if_eq C0 1199 dL_law_1194 (by decide) hf (fun hf => ?_) (fun hf => ?_)
      · refine r_goto C0 1775 dL_law_1199 (by decide) ?_
        refine r_iinc (j := 6) (v := (v4 + (4 : Int32))) (L' := [(4, .int (v4 + (4 : Int32))), (6, .int r2.1), (5, .int r1.1), (0, .ref b), (1, .ref p1), (2, .ref p2), (3, .ref p3)]) C0 dL_law_1775 rfl rfl (by decide) rfl ?_
        refine r_goto C0 23 dL_law_1778 (by decide) ?_
        refine r_widen (k1 := kc2) (s1 := ks2) (by omega) (by omega) ?_
        refine r_sub (L' := [(0, .ref b), (1, .ref p1), (2, .ref p2), (3, .ref p3), (4, .int (v4 + (4 : Int32)))]) [3, 4, 5, 6, 0] rfl ?_
        exact hk (v4 + (4 : Int32)) r2.2 r1.2.2 hf
      · refine r_iconst (v := 0) C0 dL_law_1197 (by decide) ?_
        exact absurd (Option.some.inj hf) (by decide)
  · refine r_iconst (v := 0) C0 dL_law_1180 (by decide) ?_
    exact absurd (Option.some.inj hf) (by decide)
set_option maxHeartbeats 4000000 in
set_option maxRecDepth 100000 in
theorem g_L_law_1202 {ret : Option FieldType} {hh : List (Nat × Nat × Nat × Nat)} {Γ : zCx} {Q : State → Prop} {E : zEn} {S : zSk} {kc ks kc2 ks2 : Nat} (C0 : zCt Γ E R_law cL_law 7 ret hh room_1) (F b len : Nat) (xs : Nat → Int32) (p1 p2 p3 : Nat) (hc1 : kc + 8 ≤ kc2) (hs1 : ks + 48 ≤ ks2) (hc2 : kc2 ≤ room_1.cells) (hs2 : ks2 ≤ room_1.slots) (hX : va_X b len xs (gS Γ) (gS Γ).heap) (hbl : b < (gS Γ).heap.size) (hbA : ¬ E.2.2 ≤ b) (hk_p1 : K_X10 S p1) (hk_p2 : K_X11 S p2) (hk_p3 : S.1 p3 = some (.inr (3, 1))) (k : Int32 → zMi → zMl → Option Int32) (hk : ∀ (v4 : Int32) (M : zMi) (X : zMl), k v4 M X = some 1 → zG Γ Q E 7 kc2 ks2 S ZT M X 23 [(0, .ref b), (1, .ref p1), (2, .ref p2), (3, .ref p3), (4, .int v4)] []) (v4 : Int32) (M : zMi) (X : zMl) (hf : f_L_law_1202 F len xs p1 p2 p3 k v4 M X = some 1) : zG Γ Q E 7 kc ks S ZT M X 1202 [(0, .ref b), (1, .ref p1), (2, .ref p2), (3, .ref p3), (4, .int v4)] [] := by
  unfold f_L_law_1202 at hf
  refine r_aload_n C0 dL_law_1202 rfl 1 rfl ?_
  refine r_aload_n C0 dL_law_1203 rfl 0 rfl ?_
  refine r_iload C0 dL_law_1204 4 rfl ?_
  refine r_iconst (v := 1) C0 dL_law_1206 (by decide) ?_
  refine r_iadd C0 dL_law_1207 ?_
  refine r_sld C0 hX hbl hbA hf dL_law_1208 (fun hf => ?_)
  refine r_aload_n C0 dL_law_1209 rfl 0 rfl ?_
  refine r_iload C0 dL_law_1210 4 rfl ?_
  refine r_iconst (v := 2) C0 dL_law_1212 (by decide) ?_
  refine r_iadd C0 dL_law_1213 ?_
  refine r_sld C0 hX hbl hbA hf dL_law_1214 (fun hf => ?_)
  refine r_aload_n C0 dL_law_1215 rfl 3 rfl ?_
  refine r_callSW C0 (st := []) [.ref p1, .int (xs (ix (v4 + (1 : Int32)))), .int (xs (ix (v4 + (2 : Int32)))), .ref p3] hf vs_231 (fun hl r1 hr1 => c_L_calmDays hl F p1 (xs (ix (v4 + (1 : Int32)))) (xs (ix (v4 + (2 : Int32)))) p3 hk_p1 hk_p3 M X r1 hr1) rfl rfl (Nat.le_of_ble_eq_true rfl) dL_law_1216 (zrm_of (Nat.le_of_ble_eq_true rfl) (Nat.le_of_ble_eq_true rfl) (by omega) (by omega) rfl rfl) (fun r1 hr1 hf => ?_)
  refine r_istore (L' := [(5, .int r1.1), (0, .ref b), (1, .ref p1), (2, .ref p2), (3, .ref p3), (4, .int v4)]) C0 dL_law_1219 (by decide) rfl ?_
  refine r_aload_n C0 dL_law_1221 rfl 3 rfl ?_
  refine r_aload_n C0 dL_law_1222 rfl 1 rfl ?_
  refine r_iload C0 dL_law_1223 5 rfl ?_
  refine r_iconst (v := 1) C0 dL_law_1225 (by decide) ?_
  refine r_iadd C0 dL_law_1226 ?_
  refine r_sld C0 hX hbl hbA hf dL_law_1227 (fun hf => ?_)
  refine r_aload_n C0 dL_law_1228 rfl 1 rfl ?_
  refine r_iload C0 dL_law_1229 5 rfl ?_
  refine r_iconst (v := 2) C0 dL_law_1231 (by decide) ?_
  refine r_iadd C0 dL_law_1232 ?_
  refine r_sld C0 hX hbl hbA hf dL_law_1233 (fun hf => ?_)
  refine r_callVim C0 (st := []) [.int (xs (ix (v4 + (1 : Int32)))), .int (xs (ix (v4 + (2 : Int32))))] p2 hf vs_232 (fun hl r2 hr2 => c_X11_calmDays hl F p2 (xs (ix (v4 + (1 : Int32)))) (xs (ix (v4 + (2 : Int32)))) hk_p2 r1.2.1 r2 hr2) (K_X11_o hk_p2) rfl rfl rfl rfl (Nat.le_of_ble_eq_true rfl) dL_law_1234 (zrm_of (Nat.le_of_ble_eq_true rfl) (Nat.le_of_ble_eq_true rfl) (by omega) (by omega) rfl rfl) (fun r2 hr2 hf => ?_)
  refine r_istore (L' := [(6, .int r2.1), (5, .int r1.1), (0, .ref b), (1, .ref p1), (2, .ref p2), (3, .ref p3), (4, .int v4)]) C0 dL_law_1237 (by decide) rfl ?_
  refine r_aload_n C0 dL_law_1239 rfl 4 rfl ?_
  refine r_callVi C0 (st := []) [] p2 hf vs_194 (fun hl r3 hr3 => c_X11_thrown hl F p2 hk_p2 r2.2 r3 hr3) (K_X11_o hk_p2) rfl rfl rfl rfl (Nat.le_of_ble_eq_true rfl) dL_law_1240 (zrm_of (Nat.le_of_ble_eq_true rfl) (Nat.le_of_ble_eq_true rfl) (by omega) (by omega) rfl rfl) (fun r3 hr3 hf => ?_)
  refine r_iload C0 dL_law_1243 1 rfl ?_
  refine r_icmp_eq C0 1250 dL_law_1245 (by decide) hf (fun hf => ?_) (fun hf => ?_)
  · refine r_iload C0 dL_law_1250 1 rfl ?_
    refine r_if_ne C0 1267 dL_law_1252 (by decide) hf (fun hf => ?_) (fun hf => ?_)
    · refine r_goto C0 1775 dL_law_1267 (by decide) ?_
      refine r_iinc (j := 6) (v := (v4 + (4 : Int32))) (L' := [(4, .int (v4 + (4 : Int32))), (6, .int r2.1), (5, .int r1.1), (0, .ref b), (1, .ref p1), (2, .ref p2), (3, .ref p3)]) C0 dL_law_1775 rfl rfl (by decide) rfl ?_
      refine r_goto C0 23 dL_law_1778 (by decide) ?_
      refine r_widen (k1 := kc2) (s1 := ks2) (by omega) (by omega) ?_
      refine r_sub (L' := [(0, .ref b), (1, .ref p1), (2, .ref p2), (3, .ref p3), (4, .int (v4 + (4 : Int32)))]) [3, 4, 5, 6, 0] rfl ?_
      exact hk (v4 + (4 : Int32)) r2.2 r1.2.2 hf
    · refine r_aload_n C0 dL_law_1255 rfl 5 rfl ?_
      refine r_iconst (v := 0) C0 dL_law_1256 (by decide) ?_
      refine r_lald' (j := 0) C0 hk_p3 rfl rfl dL_law_1257 ?_
      refine r_iload C0 dL_law_1258 0 rfl ?_
      refine r_i2l C0 dL_law_1260 ?_
      refine r_lcmp C0 dL_law_1261 ?_
      refine r_if_eq C0 1267 dL_law_1262 (by decide) hf (fun hf => ?_) (fun hf => ?_)
      · refine r_goto C0 1775 dL_law_1267 (by decide) ?_
        refine r_iinc (j := 6) (v := (v4 + (4 : Int32))) (L' := [(4, .int (v4 + (4 : Int32))), (6, .int r2.1), (5, .int r1.1), (0, .ref b), (1, .ref p1), (2, .ref p2), (3, .ref p3)]) C0 dL_law_1775 rfl rfl (by decide) rfl ?_
        refine r_goto C0 23 dL_law_1778 (by decide) ?_
        refine r_widen (k1 := kc2) (s1 := ks2) (by omega) (by omega) ?_
        refine r_sub (L' := [(0, .ref b), (1, .ref p1), (2, .ref p2), (3, .ref p3), (4, .int (v4 + (4 : Int32)))]) [3, 4, 5, 6, 0] rfl ?_
        exact hk (v4 + (4 : Int32)) r2.2 r1.2.2 hf
      · refine r_iconst (v := 0) C0 dL_law_1265 (by decide) ?_
        exact absurd (Option.some.inj hf) (by decide)
  · refine r_iconst (v := 0) C0 dL_law_1248 (by decide) ?_
    exact absurd (Option.some.inj hf) (by decide)
set_option maxHeartbeats 4000000 in
set_option maxRecDepth 100000 in
theorem g_L_law_1270 {ret : Option FieldType} {hh : List (Nat × Nat × Nat × Nat)} {Γ : zCx} {Q : State → Prop} {E : zEn} {S : zSk} {kc ks kc2 ks2 : Nat} (C0 : zCt Γ E R_law cL_law 7 ret hh room_1) (F b len : Nat) (xs : Nat → Int32) (p1 p2 p3 : Nat) (hc1 : kc + 8 ≤ kc2) (hs1 : ks + 48 ≤ ks2) (hc2 : kc2 ≤ room_1.cells) (hs2 : ks2 ≤ room_1.slots) (hX : va_X b len xs (gS Γ) (gS Γ).heap) (hbl : b < (gS Γ).heap.size) (hbA : ¬ E.2.2 ≤ b) (hk_p1 : K_X10 S p1) (hk_p2 : K_X11 S p2) (hk_p3 : S.1 p3 = some (.inr (3, 1))) (k : Int32 → zMi → zMl → Option Int32) (hk : ∀ (v4 : Int32) (M : zMi) (X : zMl), k v4 M X = some 1 → zG Γ Q E 7 kc2 ks2 S ZT M X 23 [(0, .ref b), (1, .ref p1), (2, .ref p2), (3, .ref p3), (4, .int v4)] []) (v4 : Int32) (M : zMi) (X : zMl) (hf : f_L_law_1270 F len xs p1 p2 p3 k v4 M X = some 1) : zG Γ Q E 7 kc ks S ZT M X 1270 [(0, .ref b), (1, .ref p1), (2, .ref p2), (3, .ref p3), (4, .int v4)] [] := by
  unfold f_L_law_1270 at hf
  refine r_aload_n C0 dL_law_1270 rfl 1 rfl ?_
  refine r_aload_n C0 dL_law_1271 rfl 0 rfl ?_
  refine r_iload C0 dL_law_1272 4 rfl ?_
  refine r_iconst (v := 1) C0 dL_law_1274 (by decide) ?_
  refine r_iadd C0 dL_law_1275 ?_
  refine r_sld C0 hX hbl hbA hf dL_law_1276 (fun hf => ?_)
  refine r_aload_n C0 dL_law_1277 rfl 0 rfl ?_
  refine r_iload C0 dL_law_1278 4 rfl ?_
  refine r_iconst (v := 2) C0 dL_law_1280 (by decide) ?_
  refine r_iadd C0 dL_law_1281 ?_
  refine r_sld C0 hX hbl hbA hf dL_law_1282 (fun hf => ?_)
  refine r_aload_n C0 dL_law_1283 rfl 3 rfl ?_
  refine r_callSW C0 (st := []) [.ref p1, .int (xs (ix (v4 + (1 : Int32)))), .int (xs (ix (v4 + (2 : Int32)))), .ref p3] hf vs_233 (fun hl r1 hr1 => c_L_ahead hl F p1 (xs (ix (v4 + (1 : Int32)))) (xs (ix (v4 + (2 : Int32)))) p3 hk_p1 hk_p3 M X r1 hr1) rfl rfl (Nat.le_of_ble_eq_true rfl) dL_law_1284 (zrm_of (Nat.le_of_ble_eq_true rfl) (Nat.le_of_ble_eq_true rfl) (by omega) (by omega) rfl rfl) (fun r1 hr1 hf => ?_)
  refine r_istore (L' := [(5, .int r1.1), (0, .ref b), (1, .ref p1), (2, .ref p2), (3, .ref p3), (4, .int v4)]) C0 dL_law_1287 (by decide) rfl ?_
  refine r_aload_n C0 dL_law_1289 rfl 3 rfl ?_
  refine r_aload_n C0 dL_law_1290 rfl 1 rfl ?_
  refine r_iload C0 dL_law_1291 5 rfl ?_
  refine r_iconst (v := 1) C0 dL_law_1293 (by decide) ?_
  refine r_iadd C0 dL_law_1294 ?_
  refine r_sld C0 hX hbl hbA hf dL_law_1295 (fun hf => ?_)
  refine r_aload_n C0 dL_law_1296 rfl 1 rfl ?_
  refine r_iload C0 dL_law_1297 5 rfl ?_
  refine r_iconst (v := 2) C0 dL_law_1299 (by decide) ?_
  refine r_iadd C0 dL_law_1300 ?_
  refine r_sld C0 hX hbl hbA hf dL_law_1301 (fun hf => ?_)
  refine r_callVim C0 (st := []) [.int (xs (ix (v4 + (1 : Int32)))), .int (xs (ix (v4 + (2 : Int32))))] p2 hf vs_234 (fun hl r2 hr2 => c_X11_ahead hl F p2 (xs (ix (v4 + (1 : Int32)))) (xs (ix (v4 + (2 : Int32)))) hk_p2 r1.2.1 r2 hr2) (K_X11_o hk_p2) rfl rfl rfl rfl (Nat.le_of_ble_eq_true rfl) dL_law_1302 (zrm_of (Nat.le_of_ble_eq_true rfl) (Nat.le_of_ble_eq_true rfl) (by omega) (by omega) rfl rfl) (fun r2 hr2 hf => ?_)
  refine r_istore (L' := [(6, .int r2.1), (5, .int r1.1), (0, .ref b), (1, .ref p1), (2, .ref p2), (3, .ref p3), (4, .int v4)]) C0 dL_law_1305 (by decide) rfl ?_
  refine r_aload_n C0 dL_law_1307 rfl 4 rfl ?_
  refine r_callVi C0 (st := []) [] p2 hf vs_194 (fun hl r3 hr3 => c_X11_thrown hl F p2 hk_p2 r2.2 r3 hr3) (K_X11_o hk_p2) rfl rfl rfl rfl (Nat.le_of_ble_eq_true rfl) dL_law_1308 (zrm_of (Nat.le_of_ble_eq_true rfl) (Nat.le_of_ble_eq_true rfl) (by omega) (by omega) rfl rfl) (fun r3 hr3 hf => ?_)
  refine r_iload C0 dL_law_1311 1 rfl ?_
  refine r_icmp_eq C0 1318 dL_law_1313 (by decide) hf (fun hf => ?_) (fun hf => ?_)
  · refine r_iload C0 dL_law_1318 1 rfl ?_
    refine r_if_ne C0 1335 dL_law_1320 (by decide) hf (fun hf => ?_) (fun hf => ?_)
    · refine r_goto C0 1775 dL_law_1335 (by decide) ?_
      refine r_iinc (j := 6) (v := (v4 + (4 : Int32))) (L' := [(4, .int (v4 + (4 : Int32))), (6, .int r2.1), (5, .int r1.1), (0, .ref b), (1, .ref p1), (2, .ref p2), (3, .ref p3)]) C0 dL_law_1775 rfl rfl (by decide) rfl ?_
      refine r_goto C0 23 dL_law_1778 (by decide) ?_
      refine r_widen (k1 := kc2) (s1 := ks2) (by omega) (by omega) ?_
      refine r_sub (L' := [(0, .ref b), (1, .ref p1), (2, .ref p2), (3, .ref p3), (4, .int (v4 + (4 : Int32)))]) [3, 4, 5, 6, 0] rfl ?_
      exact hk (v4 + (4 : Int32)) r2.2 r1.2.2 hf
    · refine r_aload_n C0 dL_law_1323 rfl 5 rfl ?_
      refine r_iconst (v := 0) C0 dL_law_1324 (by decide) ?_
      refine r_lald' (j := 0) C0 hk_p3 rfl rfl dL_law_1325 ?_
      refine r_iload C0 dL_law_1326 0 rfl ?_
      refine r_i2l C0 dL_law_1328 ?_
      refine r_lcmp C0 dL_law_1329 ?_
      refine r_if_eq C0 1335 dL_law_1330 (by decide) hf (fun hf => ?_) (fun hf => ?_)
      · refine r_goto C0 1775 dL_law_1335 (by decide) ?_
        refine r_iinc (j := 6) (v := (v4 + (4 : Int32))) (L' := [(4, .int (v4 + (4 : Int32))), (6, .int r2.1), (5, .int r1.1), (0, .ref b), (1, .ref p1), (2, .ref p2), (3, .ref p3)]) C0 dL_law_1775 rfl rfl (by decide) rfl ?_
        refine r_goto C0 23 dL_law_1778 (by decide) ?_
        refine r_widen (k1 := kc2) (s1 := ks2) (by omega) (by omega) ?_
        refine r_sub (L' := [(0, .ref b), (1, .ref p1), (2, .ref p2), (3, .ref p3), (4, .int (v4 + (4 : Int32)))]) [3, 4, 5, 6, 0] rfl ?_
        exact hk (v4 + (4 : Int32)) r2.2 r1.2.2 hf
      · refine r_iconst (v := 0) C0 dL_law_1333 (by decide) ?_
        exact absurd (Option.some.inj hf) (by decide)
  · refine r_iconst (v := 0) C0 dL_law_1316 (by decide) ?_
    exact absurd (Option.some.inj hf) (by decide)
set_option maxHeartbeats 4000000 in
set_option maxRecDepth 100000 in
theorem g_L_law_1338 {ret : Option FieldType} {hh : List (Nat × Nat × Nat × Nat)} {Γ : zCx} {Q : State → Prop} {E : zEn} {S : zSk} {kc ks kc2 ks2 : Nat} (C0 : zCt Γ E R_law cL_law 7 ret hh room_1) (F b len : Nat) (xs : Nat → Int32) (p1 p2 p3 : Nat) (hc1 : kc + 8 ≤ kc2) (hs1 : ks + 48 ≤ ks2) (hc2 : kc2 ≤ room_1.cells) (hs2 : ks2 ≤ room_1.slots) (hX : va_X b len xs (gS Γ) (gS Γ).heap) (hbl : b < (gS Γ).heap.size) (hbA : ¬ E.2.2 ≤ b) (hk_p1 : K_X10 S p1) (hk_p2 : K_X11 S p2) (hk_p3 : S.1 p3 = some (.inr (3, 1))) (k : Int32 → zMi → zMl → Option Int32) (hk : ∀ (v4 : Int32) (M : zMi) (X : zMl), k v4 M X = some 1 → zG Γ Q E 7 kc2 ks2 S ZT M X 23 [(0, .ref b), (1, .ref p1), (2, .ref p2), (3, .ref p3), (4, .int v4)] []) (v4 : Int32) (M : zMi) (X : zMl) (hf : f_L_law_1338 F len xs p1 p2 p3 k v4 M X = some 1) : zG Γ Q E 7 kc ks S ZT M X 1338 [(0, .ref b), (1, .ref p1), (2, .ref p2), (3, .ref p3), (4, .int v4)] [] := by
  unfold f_L_law_1338 at hf
  refine r_aload_n C0 dL_law_1338 rfl 1 rfl ?_
  refine r_aload_n C0 dL_law_1339 rfl 0 rfl ?_
  refine r_iload C0 dL_law_1340 4 rfl ?_
  refine r_iconst (v := 1) C0 dL_law_1342 (by decide) ?_
  refine r_iadd C0 dL_law_1343 ?_
  refine r_sld C0 hX hbl hbA hf dL_law_1344 (fun hf => ?_)
  refine r_aload_n C0 dL_law_1345 rfl 3 rfl ?_
  refine r_callSW C0 (st := []) [.ref p1, .int (xs (ix (v4 + (1 : Int32)))), .ref p3] hf vs_235 (fun hl r1 hr1 => c_L_doneAfter hl F p1 (xs (ix (v4 + (1 : Int32)))) p3 hk_p1 hk_p3 M X r1 hr1) rfl rfl (Nat.le_of_ble_eq_true rfl) dL_law_1346 (zrm_of (Nat.le_of_ble_eq_true rfl) (Nat.le_of_ble_eq_true rfl) (by omega) (by omega) rfl rfl) (fun r1 hr1 hf => ?_)
  refine r_istore (L' := [(5, .int r1.1), (0, .ref b), (1, .ref p1), (2, .ref p2), (3, .ref p3), (4, .int v4)]) C0 dL_law_1349 (by decide) rfl ?_
  refine r_aload_n C0 dL_law_1351 rfl 3 rfl ?_
  refine r_aload_n C0 dL_law_1352 rfl 1 rfl ?_
  refine r_iload C0 dL_law_1353 5 rfl ?_
  refine r_iconst (v := 1) C0 dL_law_1355 (by decide) ?_
  refine r_iadd C0 dL_law_1356 ?_
  refine r_sld C0 hX hbl hbA hf dL_law_1357 (fun hf => ?_)
  refine r_callVim C0 (st := []) [.int (xs (ix (v4 + (1 : Int32))))] p2 hf vs_236 (fun hl r2 hr2 => c_X11_doneAfter hl F p2 (xs (ix (v4 + (1 : Int32)))) hk_p2 r1.2.1 r2 hr2) (K_X11_o hk_p2) rfl rfl rfl rfl (Nat.le_of_ble_eq_true rfl) dL_law_1358 (zrm_of (Nat.le_of_ble_eq_true rfl) (Nat.le_of_ble_eq_true rfl) (by omega) (by omega) rfl rfl) (fun r2 hr2 hf => ?_)
  refine r_istore (L' := [(6, .int r2.1), (5, .int r1.1), (0, .ref b), (1, .ref p1), (2, .ref p2), (3, .ref p3), (4, .int v4)]) C0 dL_law_1361 (by decide) rfl ?_
  refine r_aload_n C0 dL_law_1363 rfl 4 rfl ?_
  refine r_callVi C0 (st := []) [] p2 hf vs_194 (fun hl r3 hr3 => c_X11_thrown hl F p2 hk_p2 r2.2 r3 hr3) (K_X11_o hk_p2) rfl rfl rfl rfl (Nat.le_of_ble_eq_true rfl) dL_law_1364 (zrm_of (Nat.le_of_ble_eq_true rfl) (Nat.le_of_ble_eq_true rfl) (by omega) (by omega) rfl rfl) (fun r3 hr3 hf => ?_)
  refine r_iload C0 dL_law_1367 1 rfl ?_
  refine r_icmp_eq C0 1374 dL_law_1369 (by decide) hf (fun hf => ?_) (fun hf => ?_)
  · refine r_iload C0 dL_law_1374 1 rfl ?_
    refine r_if_ne C0 1391 dL_law_1376 (by decide) hf (fun hf => ?_) (fun hf => ?_)
    · refine r_goto C0 1775 dL_law_1391 (by decide) ?_
      refine r_iinc (j := 6) (v := (v4 + (4 : Int32))) (L' := [(4, .int (v4 + (4 : Int32))), (6, .int r2.1), (5, .int r1.1), (0, .ref b), (1, .ref p1), (2, .ref p2), (3, .ref p3)]) C0 dL_law_1775 rfl rfl (by decide) rfl ?_
      refine r_goto C0 23 dL_law_1778 (by decide) ?_
      refine r_widen (k1 := kc2) (s1 := ks2) (by omega) (by omega) ?_
      refine r_sub (L' := [(0, .ref b), (1, .ref p1), (2, .ref p2), (3, .ref p3), (4, .int (v4 + (4 : Int32)))]) [3, 4, 5, 6, 0] rfl ?_
      exact hk (v4 + (4 : Int32)) r2.2 r1.2.2 hf
    · refine r_aload_n C0 dL_law_1379 rfl 5 rfl ?_
      refine r_iconst (v := 0) C0 dL_law_1380 (by decide) ?_
      refine r_lald' (j := 0) C0 hk_p3 rfl rfl dL_law_1381 ?_
      refine r_iload C0 dL_law_1382 0 rfl ?_
      refine r_i2l C0 dL_law_1384 ?_
      refine r_lcmp C0 dL_law_1385 ?_
      refine r_if_eq C0 1391 dL_law_1386 (by decide) hf (fun hf => ?_) (fun hf => ?_)
      · refine r_goto C0 1775 dL_law_1391 (by decide) ?_
        refine r_iinc (j := 6) (v := (v4 + (4 : Int32))) (L' := [(4, .int (v4 + (4 : Int32))), (6, .int r2.1), (5, .int r1.1), (0, .ref b), (1, .ref p1), (2, .ref p2), (3, .ref p3)]) C0 dL_law_1775 rfl rfl (by decide) rfl ?_
        refine r_goto C0 23 dL_law_1778 (by decide) ?_
        refine r_widen (k1 := kc2) (s1 := ks2) (by omega) (by omega) ?_
        refine r_sub (L' := [(0, .ref b), (1, .ref p1), (2, .ref p2), (3, .ref p3), (4, .int (v4 + (4 : Int32)))]) [3, 4, 5, 6, 0] rfl ?_
        exact hk (v4 + (4 : Int32)) r2.2 r1.2.2 hf
      · refine r_iconst (v := 0) C0 dL_law_1389 (by decide) ?_
        exact absurd (Option.some.inj hf) (by decide)
  · refine r_iconst (v := 0) C0 dL_law_1372 (by decide) ?_
    exact absurd (Option.some.inj hf) (by decide)
set_option maxHeartbeats 4000000 in
set_option maxRecDepth 100000 in
theorem g_L_law_1394 {ret : Option FieldType} {hh : List (Nat × Nat × Nat × Nat)} {Γ : zCx} {Q : State → Prop} {E : zEn} {S : zSk} {kc ks kc2 ks2 : Nat} (C0 : zCt Γ E R_law cL_law 7 ret hh room_1) (F b len : Nat) (xs : Nat → Int32) (p1 p2 p3 : Nat) (hc1 : kc + 8 ≤ kc2) (hs1 : ks + 48 ≤ ks2) (hc2 : kc2 ≤ room_1.cells) (hs2 : ks2 ≤ room_1.slots) (hX : va_X b len xs (gS Γ) (gS Γ).heap) (hbl : b < (gS Γ).heap.size) (hbA : ¬ E.2.2 ≤ b) (hk_p1 : K_X10 S p1) (hk_p2 : K_X11 S p2) (hk_p3 : S.1 p3 = some (.inr (3, 1))) (k : Int32 → zMi → zMl → Option Int32) (hk : ∀ (v4 : Int32) (M : zMi) (X : zMl), k v4 M X = some 1 → zG Γ Q E 7 kc2 ks2 S ZT M X 23 [(0, .ref b), (1, .ref p1), (2, .ref p2), (3, .ref p3), (4, .int v4)] []) (v4 : Int32) (M : zMi) (X : zMl) (hf : f_L_law_1394 F len xs p1 p2 p3 k v4 M X = some 1) : zG Γ Q E 7 kc ks S ZT M X 1394 [(0, .ref b), (1, .ref p1), (2, .ref p2), (3, .ref p3), (4, .int v4)] [] := by
  unfold f_L_law_1394 at hf
  refine r_aload_n C0 dL_law_1394 rfl 1 rfl ?_
  refine r_callVim C0 (st := []) [] p1 hf vs_237 (fun hl r1 hr1 => c_X10_bestShip hl F p1 hk_p1 M r1 hr1) (K_X10_o hk_p1) rfl rfl rfl rfl (Nat.le_of_ble_eq_true rfl) dL_law_1395 (zrm_of (Nat.le_of_ble_eq_true rfl) (Nat.le_of_ble_eq_true rfl) (by omega) (by omega) rfl rfl) (fun r1 hr1 hf => ?_)
  refine r_aload_n C0 dL_law_1398 rfl 2 rfl ?_
  refine r_callVim C0 (st := [.int r1.1]) [] p2 hf vs_238 (fun hl r2 hr2 => c_X11_bestShip hl F p2 hk_p2 r1.2 r2 hr2) (K_X11_o hk_p2) rfl rfl rfl rfl (Nat.le_of_ble_eq_true rfl) dL_law_1399 (zrm_of (Nat.le_of_ble_eq_true rfl) (Nat.le_of_ble_eq_true rfl) (by omega) (by omega) rfl rfl) (fun r2 hr2 hf => ?_)
  refine r_icmp_eq C0 1775 dL_law_1402 (by decide) hf (fun hf => ?_) (fun hf => ?_)
  · refine r_iinc (j := 4) (v := (v4 + (4 : Int32))) (L' := [(4, .int (v4 + (4 : Int32))), (0, .ref b), (1, .ref p1), (2, .ref p2), (3, .ref p3)]) C0 dL_law_1775 rfl rfl (by decide) rfl ?_
    refine r_goto C0 23 dL_law_1778 (by decide) ?_
    refine r_widen (k1 := kc2) (s1 := ks2) (by omega) (by omega) ?_
    refine r_sub (L' := [(0, .ref b), (1, .ref p1), (2, .ref p2), (3, .ref p3), (4, .int (v4 + (4 : Int32)))]) [1, 2, 3, 4, 0] rfl ?_
    exact hk (v4 + (4 : Int32)) r2.2 X hf
  · refine r_iconst (v := 0) C0 dL_law_1405 (by decide) ?_
    exact absurd (Option.some.inj hf) (by decide)
set_option maxHeartbeats 4000000 in
set_option maxRecDepth 100000 in
theorem g_L_law_1407 {ret : Option FieldType} {hh : List (Nat × Nat × Nat × Nat)} {Γ : zCx} {Q : State → Prop} {E : zEn} {S : zSk} {kc ks kc2 ks2 : Nat} (C0 : zCt Γ E R_law cL_law 7 ret hh room_1) (F b len : Nat) (xs : Nat → Int32) (p1 p2 p3 : Nat) (hc1 : kc + 8 ≤ kc2) (hs1 : ks + 48 ≤ ks2) (hc2 : kc2 ≤ room_1.cells) (hs2 : ks2 ≤ room_1.slots) (hX : va_X b len xs (gS Γ) (gS Γ).heap) (hbl : b < (gS Γ).heap.size) (hbA : ¬ E.2.2 ≤ b) (hk_p1 : K_X10 S p1) (hk_p2 : K_X11 S p2) (hk_p3 : S.1 p3 = some (.inr (3, 1))) (k : Int32 → zMi → zMl → Option Int32) (hk : ∀ (v4 : Int32) (M : zMi) (X : zMl), k v4 M X = some 1 → zG Γ Q E 7 kc2 ks2 S ZT M X 23 [(0, .ref b), (1, .ref p1), (2, .ref p2), (3, .ref p3), (4, .int v4)] []) (v4 : Int32) (M : zMi) (X : zMl) (hf : f_L_law_1407 F len xs p1 p2 p3 k v4 M X = some 1) : zG Γ Q E 7 kc ks S ZT M X 1407 [(0, .ref b), (1, .ref p1), (2, .ref p2), (3, .ref p3), (4, .int v4)] [] := by
  unfold f_L_law_1407 at hf
  refine r_aload_n C0 dL_law_1407 rfl 1 rfl ?_
  refine r_aload_n C0 dL_law_1408 rfl 0 rfl ?_
  refine r_iload C0 dL_law_1409 4 rfl ?_
  refine r_iconst (v := 1) C0 dL_law_1411 (by decide) ?_
  refine r_iadd C0 dL_law_1412 ?_
  refine r_sld C0 hX hbl hbA hf dL_law_1413 (fun hf => ?_)
  refine r_aload_n C0 dL_law_1414 rfl 3 rfl ?_
  refine r_callSW C0 (st := []) [.ref p1, .int (xs (ix (v4 + (1 : Int32)))), .ref p3] hf vs_239 (fun hl r1 hr1 => c_L_extension hl F p1 (xs (ix (v4 + (1 : Int32)))) p3 hk_p1 hk_p3 M X r1 hr1) rfl rfl (Nat.le_of_ble_eq_true rfl) dL_law_1415 (zrm_of (Nat.le_of_ble_eq_true rfl) (Nat.le_of_ble_eq_true rfl) (by omega) (by omega) rfl rfl) (fun r1 hr1 hf => ?_)
  refine r_istore (L' := [(5, .int r1.1), (0, .ref b), (1, .ref p1), (2, .ref p2), (3, .ref p3), (4, .int v4)]) C0 dL_law_1418 (by decide) rfl ?_
  refine r_aload_n C0 dL_law_1420 rfl 3 rfl ?_
  refine r_aload_n C0 dL_law_1421 rfl 1 rfl ?_
  refine r_iload C0 dL_law_1422 5 rfl ?_
  refine r_iconst (v := 1) C0 dL_law_1424 (by decide) ?_
  refine r_iadd C0 dL_law_1425 ?_
  refine r_sld C0 hX hbl hbA hf dL_law_1426 (fun hf => ?_)
  refine r_callVim C0 (st := []) [.int (xs (ix (v4 + (1 : Int32))))] p2 hf vs_240 (fun hl r2 hr2 => c_X11_extension hl F p2 (xs (ix (v4 + (1 : Int32)))) hk_p2 r1.2.1 r2 hr2) (K_X11_o hk_p2) rfl rfl rfl rfl (Nat.le_of_ble_eq_true rfl) dL_law_1427 (zrm_of (Nat.le_of_ble_eq_true rfl) (Nat.le_of_ble_eq_true rfl) (by omega) (by omega) rfl rfl) (fun r2 hr2 hf => ?_)
  refine r_istore (L' := [(6, .int r2.1), (5, .int r1.1), (0, .ref b), (1, .ref p1), (2, .ref p2), (3, .ref p3), (4, .int v4)]) C0 dL_law_1430 (by decide) rfl ?_
  refine r_aload_n C0 dL_law_1432 rfl 4 rfl ?_
  refine r_callVi C0 (st := []) [] p2 hf vs_194 (fun hl r3 hr3 => c_X11_thrown hl F p2 hk_p2 r2.2 r3 hr3) (K_X11_o hk_p2) rfl rfl rfl rfl (Nat.le_of_ble_eq_true rfl) dL_law_1433 (zrm_of (Nat.le_of_ble_eq_true rfl) (Nat.le_of_ble_eq_true rfl) (by omega) (by omega) rfl rfl) (fun r3 hr3 hf => ?_)
  refine r_iload C0 dL_law_1436 1 rfl ?_
  refine r_icmp_eq C0 1443 dL_law_1438 (by decide) hf (fun hf => ?_) (fun hf => ?_)
  · refine r_iload C0 dL_law_1443 1 rfl ?_
    refine r_if_ne C0 1460 dL_law_1445 (by decide) hf (fun hf => ?_) (fun hf => ?_)
    · refine r_goto C0 1775 dL_law_1460 (by decide) ?_
      refine r_iinc (j := 6) (v := (v4 + (4 : Int32))) (L' := [(4, .int (v4 + (4 : Int32))), (6, .int r2.1), (5, .int r1.1), (0, .ref b), (1, .ref p1), (2, .ref p2), (3, .ref p3)]) C0 dL_law_1775 rfl rfl (by decide) rfl ?_
      refine r_goto C0 23 dL_law_1778 (by decide) ?_
      refine r_widen (k1 := kc2) (s1 := ks2) (by omega) (by omega) ?_
      refine r_sub (L' := [(0, .ref b), (1, .ref p1), (2, .ref p2), (3, .ref p3), (4, .int (v4 + (4 : Int32)))]) [3, 4, 5, 6, 0] rfl ?_
      exact hk (v4 + (4 : Int32)) r2.2 r1.2.2 hf
    · refine r_aload_n C0 dL_law_1448 rfl 5 rfl ?_
      refine r_iconst (v := 0) C0 dL_law_1449 (by decide) ?_
      refine r_lald' (j := 0) C0 hk_p3 rfl rfl dL_law_1450 ?_
      refine r_iload C0 dL_law_1451 0 rfl ?_
      refine r_i2l C0 dL_law_1453 ?_
      refine r_lcmp C0 dL_law_1454 ?_
      refine r_if_eq C0 1460 dL_law_1455 (by decide) hf (fun hf => ?_) (fun hf => ?_)
      · refine r_goto C0 1775 dL_law_1460 (by decide) ?_
        refine r_iinc (j := 6) (v := (v4 + (4 : Int32))) (L' := [(4, .int (v4 + (4 : Int32))), (6, .int r2.1), (5, .int r1.1), (0, .ref b), (1, .ref p1), (2, .ref p2), (3, .ref p3)]) C0 dL_law_1775 rfl rfl (by decide) rfl ?_
        refine r_goto C0 23 dL_law_1778 (by decide) ?_
        refine r_widen (k1 := kc2) (s1 := ks2) (by omega) (by omega) ?_
        refine r_sub (L' := [(0, .ref b), (1, .ref p1), (2, .ref p2), (3, .ref p3), (4, .int (v4 + (4 : Int32)))]) [3, 4, 5, 6, 0] rfl ?_
        exact hk (v4 + (4 : Int32)) r2.2 r1.2.2 hf
      · refine r_iconst (v := 0) C0 dL_law_1458 (by decide) ?_
        exact absurd (Option.some.inj hf) (by decide)
  · refine r_iconst (v := 0) C0 dL_law_1441 (by decide) ?_
    exact absurd (Option.some.inj hf) (by decide)
set_option maxHeartbeats 4000000 in
set_option maxRecDepth 100000 in
theorem g_L_law_1463 {ret : Option FieldType} {hh : List (Nat × Nat × Nat × Nat)} {Γ : zCx} {Q : State → Prop} {E : zEn} {S : zSk} {kc ks kc2 ks2 : Nat} (C0 : zCt Γ E R_law cL_law 7 ret hh room_1) (F b len : Nat) (xs : Nat → Int32) (p1 p2 p3 : Nat) (hc1 : kc + 8 ≤ kc2) (hs1 : ks + 48 ≤ ks2) (hc2 : kc2 ≤ room_1.cells) (hs2 : ks2 ≤ room_1.slots) (hX : va_X b len xs (gS Γ) (gS Γ).heap) (hbl : b < (gS Γ).heap.size) (hbA : ¬ E.2.2 ≤ b) (hk_p1 : K_X10 S p1) (hk_p2 : K_X11 S p2) (hk_p3 : S.1 p3 = some (.inr (3, 1))) (k : Int32 → zMi → zMl → Option Int32) (hk : ∀ (v4 : Int32) (M : zMi) (X : zMl), k v4 M X = some 1 → zG Γ Q E 7 kc2 ks2 S ZT M X 23 [(0, .ref b), (1, .ref p1), (2, .ref p2), (3, .ref p3), (4, .int v4)] []) (v4 : Int32) (M : zMi) (X : zMl) (hf : f_L_law_1463 F len xs p1 p2 p3 k v4 M X = some 1) : zG Γ Q E 7 kc ks S ZT M X 1463 [(0, .ref b), (1, .ref p1), (2, .ref p2), (3, .ref p3), (4, .int v4)] [] := by
  unfold f_L_law_1463 at hf
  refine r_aload_n C0 dL_law_1463 rfl 1 rfl ?_
  refine r_aload_n C0 dL_law_1464 rfl 0 rfl ?_
  refine r_iload C0 dL_law_1465 4 rfl ?_
  refine r_iconst (v := 1) C0 dL_law_1467 (by decide) ?_
  refine r_iadd C0 dL_law_1468 ?_
  refine r_sld C0 hX hbl hbA hf dL_law_1469 (fun hf => ?_)
  refine r_aload_n C0 dL_law_1470 rfl 0 rfl ?_
  refine r_iload C0 dL_law_1471 4 rfl ?_
  refine r_iconst (v := 2) C0 dL_law_1473 (by decide) ?_
  refine r_iadd C0 dL_law_1474 ?_
  refine r_sld C0 hX hbl hbA hf dL_law_1475 (fun hf => ?_)
  refine r_i2l C0 dL_law_1476 ?_
  refine r_bipush (v := 32) C0 dL_law_1477 (by decide) ?_
  refine r_lshl C0 dL_law_1479 ?_
  refine r_aload_n C0 dL_law_1480 rfl 0 rfl ?_
  refine r_iload C0 dL_law_1481 4 rfl ?_
  refine r_iconst (v := 3) C0 dL_law_1483 (by decide) ?_
  refine r_iadd C0 dL_law_1484 ?_
  refine r_sld C0 hX hbl hbA hf dL_law_1485 (fun hf => ?_)
  refine r_i2l C0 dL_law_1486 ?_
  refine r_ldc2 (v := 4294967295) C0 qw_1000 dL_law_1487 ?_
  refine r_land C0 dL_law_1490 ?_
  refine r_lor C0 dL_law_1491 ?_
  refine r_aload_n C0 dL_law_1492 rfl 3 rfl ?_
  refine r_callSW C0 (st := []) [.ref p1, .int (xs (ix (v4 + (1 : Int32)))), .long ((((xs (ix (v4 + (2 : Int32))))).toInt64 <<< (((32 : Int32)).toInt64 &&& 63)) ||| (((xs (ix (v4 + (3 : Int32))))).toInt64 &&& (4294967295 : Int64))), .ref p3] hf vs_241 (fun hl r1 hr1 => c_L_runScript hl F p1 (xs (ix (v4 + (1 : Int32)))) ((((xs (ix (v4 + (2 : Int32))))).toInt64 <<< (((32 : Int32)).toInt64 &&& 63)) ||| (((xs (ix (v4 + (3 : Int32))))).toInt64 &&& (4294967295 : Int64))) p3 hk_p1 hk_p3 M X r1 hr1) rfl rfl (Nat.le_of_ble_eq_true rfl) dL_law_1493 (zrm_of (Nat.le_of_ble_eq_true rfl) (Nat.le_of_ble_eq_true rfl) (by omega) (by omega) rfl rfl) (fun r1 hr1 hf => ?_)
  refine r_istore (L' := [(5, .int r1.1), (0, .ref b), (1, .ref p1), (2, .ref p2), (3, .ref p3), (4, .int v4)]) C0 dL_law_1496 (by decide) rfl ?_
  refine r_aload_n C0 dL_law_1498 rfl 3 rfl ?_
  refine r_aload_n C0 dL_law_1499 rfl 1 rfl ?_
  refine r_iload C0 dL_law_1500 5 rfl ?_
  refine r_iconst (v := 1) C0 dL_law_1502 (by decide) ?_
  refine r_iadd C0 dL_law_1503 ?_
  refine r_sld C0 hX hbl hbA hf dL_law_1504 (fun hf => ?_)
  refine r_aload_n C0 dL_law_1505 rfl 1 rfl ?_
  refine r_iload C0 dL_law_1506 5 rfl ?_
  refine r_iconst (v := 2) C0 dL_law_1508 (by decide) ?_
  refine r_iadd C0 dL_law_1509 ?_
  refine r_sld C0 hX hbl hbA hf dL_law_1510 (fun hf => ?_)
  refine r_i2l C0 dL_law_1511 ?_
  refine r_bipush (v := 32) C0 dL_law_1512 (by decide) ?_
  refine r_lshl C0 dL_law_1514 ?_
  refine r_aload_n C0 dL_law_1515 rfl 1 rfl ?_
  refine r_iload C0 dL_law_1516 5 rfl ?_
  refine r_iconst (v := 3) C0 dL_law_1518 (by decide) ?_
  refine r_iadd C0 dL_law_1519 ?_
  refine r_sld C0 hX hbl hbA hf dL_law_1520 (fun hf => ?_)
  refine r_i2l C0 dL_law_1521 ?_
  refine r_ldc2 (v := 4294967295) C0 qw_1000 dL_law_1522 ?_
  refine r_land C0 dL_law_1525 ?_
  refine r_lor C0 dL_law_1526 ?_
  refine r_callVim C0 (st := []) [.int (xs (ix (v4 + (1 : Int32)))), .long ((((xs (ix (v4 + (2 : Int32))))).toInt64 <<< (((32 : Int32)).toInt64 &&& 63)) ||| (((xs (ix (v4 + (3 : Int32))))).toInt64 &&& (4294967295 : Int64)))] p2 hf vs_242 (fun hl r2 hr2 => c_X11_runScript hl F p2 (xs (ix (v4 + (1 : Int32)))) ((((xs (ix (v4 + (2 : Int32))))).toInt64 <<< (((32 : Int32)).toInt64 &&& 63)) ||| (((xs (ix (v4 + (3 : Int32))))).toInt64 &&& (4294967295 : Int64))) hk_p2 r1.2.1 r2 hr2) (K_X11_o hk_p2) rfl rfl rfl rfl (Nat.le_of_ble_eq_true rfl) dL_law_1527 (zrm_of (Nat.le_of_ble_eq_true rfl) (Nat.le_of_ble_eq_true rfl) (by omega) (by omega) rfl rfl) (fun r2 hr2 hf => ?_)
  refine r_istore (L' := [(6, .int r2.1), (5, .int r1.1), (0, .ref b), (1, .ref p1), (2, .ref p2), (3, .ref p3), (4, .int v4)]) C0 dL_law_1530 (by decide) rfl ?_
  refine r_aload_n C0 dL_law_1532 rfl 4 rfl ?_
  refine r_callVi C0 (st := []) [] p2 hf vs_194 (fun hl r3 hr3 => c_X11_thrown hl F p2 hk_p2 r2.2 r3 hr3) (K_X11_o hk_p2) rfl rfl rfl rfl (Nat.le_of_ble_eq_true rfl) dL_law_1533 (zrm_of (Nat.le_of_ble_eq_true rfl) (Nat.le_of_ble_eq_true rfl) (by omega) (by omega) rfl rfl) (fun r3 hr3 hf => ?_)
  refine r_iload C0 dL_law_1536 1 rfl ?_
  refine r_icmp_eq C0 1543 dL_law_1538 (by decide) hf (fun hf => ?_) (fun hf => ?_)
  · refine r_iload C0 dL_law_1543 1 rfl ?_
    refine r_if_ne C0 1560 dL_law_1545 (by decide) hf (fun hf => ?_) (fun hf => ?_)
    · refine r_goto C0 1775 dL_law_1560 (by decide) ?_
      refine r_iinc (j := 6) (v := (v4 + (4 : Int32))) (L' := [(4, .int (v4 + (4 : Int32))), (6, .int r2.1), (5, .int r1.1), (0, .ref b), (1, .ref p1), (2, .ref p2), (3, .ref p3)]) C0 dL_law_1775 rfl rfl (by decide) rfl ?_
      refine r_goto C0 23 dL_law_1778 (by decide) ?_
      refine r_widen (k1 := kc2) (s1 := ks2) (by omega) (by omega) ?_
      refine r_sub (L' := [(0, .ref b), (1, .ref p1), (2, .ref p2), (3, .ref p3), (4, .int (v4 + (4 : Int32)))]) [3, 4, 5, 6, 0] rfl ?_
      exact hk (v4 + (4 : Int32)) r2.2 r1.2.2 hf
    · refine r_aload_n C0 dL_law_1548 rfl 5 rfl ?_
      refine r_iconst (v := 0) C0 dL_law_1549 (by decide) ?_
      refine r_lald' (j := 0) C0 hk_p3 rfl rfl dL_law_1550 ?_
      refine r_iload C0 dL_law_1551 0 rfl ?_
      refine r_i2l C0 dL_law_1553 ?_
      refine r_lcmp C0 dL_law_1554 ?_
      refine r_if_eq C0 1560 dL_law_1555 (by decide) hf (fun hf => ?_) (fun hf => ?_)
      · refine r_goto C0 1775 dL_law_1560 (by decide) ?_
        refine r_iinc (j := 6) (v := (v4 + (4 : Int32))) (L' := [(4, .int (v4 + (4 : Int32))), (6, .int r2.1), (5, .int r1.1), (0, .ref b), (1, .ref p1), (2, .ref p2), (3, .ref p3)]) C0 dL_law_1775 rfl rfl (by decide) rfl ?_
        refine r_goto C0 23 dL_law_1778 (by decide) ?_
        refine r_widen (k1 := kc2) (s1 := ks2) (by omega) (by omega) ?_
        refine r_sub (L' := [(0, .ref b), (1, .ref p1), (2, .ref p2), (3, .ref p3), (4, .int (v4 + (4 : Int32)))]) [3, 4, 5, 6, 0] rfl ?_
        exact hk (v4 + (4 : Int32)) r2.2 r1.2.2 hf
      · refine r_iconst (v := 0) C0 dL_law_1558 (by decide) ?_
        exact absurd (Option.some.inj hf) (by decide)
  · refine r_iconst (v := 0) C0 dL_law_1541 (by decide) ?_
    exact absurd (Option.some.inj hf) (by decide)
set_option maxHeartbeats 4000000 in
set_option maxRecDepth 100000 in
theorem g_L_law_1563 {ret : Option FieldType} {hh : List (Nat × Nat × Nat × Nat)} {Γ : zCx} {Q : State → Prop} {E : zEn} {S : zSk} {kc ks kc2 ks2 : Nat} (C0 : zCt Γ E R_law cL_law 7 ret hh room_1) (F b len : Nat) (xs : Nat → Int32) (p1 p2 p3 : Nat) (hc1 : kc + 8 ≤ kc2) (hs1 : ks + 48 ≤ ks2) (hc2 : kc2 ≤ room_1.cells) (hs2 : ks2 ≤ room_1.slots) (hX : va_X b len xs (gS Γ) (gS Γ).heap) (hbl : b < (gS Γ).heap.size) (hbA : ¬ E.2.2 ≤ b) (hk_p1 : K_X10 S p1) (hk_p2 : K_X11 S p2) (hk_p3 : S.1 p3 = some (.inr (3, 1))) (k : Int32 → zMi → zMl → Option Int32) (hk : ∀ (v4 : Int32) (M : zMi) (X : zMl), k v4 M X = some 1 → zG Γ Q E 7 kc2 ks2 S ZT M X 23 [(0, .ref b), (1, .ref p1), (2, .ref p2), (3, .ref p3), (4, .int v4)] []) (v4 : Int32) (M : zMi) (X : zMl) (hf : f_L_law_1563 F len xs p1 p2 p3 k v4 M X = some 1) : zG Γ Q E 7 kc ks S ZT M X 1563 [(0, .ref b), (1, .ref p1), (2, .ref p2), (3, .ref p3), (4, .int v4)] [] := by
  unfold f_L_law_1563 at hf
  refine r_aload_n C0 dL_law_1563 rfl 1 rfl ?_
  refine r_aload_n C0 dL_law_1564 rfl 0 rfl ?_
  refine r_iload C0 dL_law_1565 4 rfl ?_
  refine r_iconst (v := 1) C0 dL_law_1567 (by decide) ?_
  refine r_iadd C0 dL_law_1568 ?_
  refine r_sld C0 hX hbl hbA hf dL_law_1569 (fun hf => ?_)
  refine r_i2l C0 dL_law_1570 ?_
  refine r_bipush (v := 32) C0 dL_law_1571 (by decide) ?_
  refine r_lshl C0 dL_law_1573 ?_
  refine r_aload_n C0 dL_law_1574 rfl 0 rfl ?_
  refine r_iload C0 dL_law_1575 4 rfl ?_
  refine r_iconst (v := 2) C0 dL_law_1577 (by decide) ?_
  refine r_iadd C0 dL_law_1578 ?_
  refine r_sld C0 hX hbl hbA hf dL_law_1579 (fun hf => ?_)
  refine r_i2l C0 dL_law_1580 ?_
  refine r_ldc2 (v := 4294967295) C0 qw_1000 dL_law_1581 ?_
  refine r_land C0 dL_law_1584 ?_
  refine r_lor C0 dL_law_1585 ?_
  refine r_aload_n C0 dL_law_1586 rfl 0 rfl ?_
  refine r_iload C0 dL_law_1587 4 rfl ?_
  refine r_iconst (v := 3) C0 dL_law_1589 (by decide) ?_
  refine r_iadd C0 dL_law_1590 ?_
  refine r_sld C0 hX hbl hbA hf dL_law_1591 (fun hf => ?_)
  refine r_aload_n C0 dL_law_1592 rfl 3 rfl ?_
  refine r_callSW C0 (st := []) [.ref p1, .long ((((xs (ix (v4 + (1 : Int32))))).toInt64 <<< (((32 : Int32)).toInt64 &&& 63)) ||| (((xs (ix (v4 + (2 : Int32))))).toInt64 &&& (4294967295 : Int64))), .int (xs (ix (v4 + (3 : Int32)))), .ref p3] hf vs_243 (fun hl r1 hr1 => c_L_simulate hl F p1 ((((xs (ix (v4 + (1 : Int32))))).toInt64 <<< (((32 : Int32)).toInt64 &&& 63)) ||| (((xs (ix (v4 + (2 : Int32))))).toInt64 &&& (4294967295 : Int64))) (xs (ix (v4 + (3 : Int32)))) p3 hk_p1 hk_p3 M X r1 hr1) rfl rfl (Nat.le_of_ble_eq_true rfl) dL_law_1593 (zrm_of (Nat.le_of_ble_eq_true rfl) (Nat.le_of_ble_eq_true rfl) (by omega) (by omega) rfl rfl) (fun r1 hr1 hf => ?_)
  refine r_istore (L' := [(5, .int r1.1), (0, .ref b), (1, .ref p1), (2, .ref p2), (3, .ref p3), (4, .int v4)]) C0 dL_law_1596 (by decide) rfl ?_
  refine r_aload_n C0 dL_law_1598 rfl 3 rfl ?_
  refine r_aload_n C0 dL_law_1599 rfl 1 rfl ?_
  refine r_iload C0 dL_law_1600 5 rfl ?_
  refine r_iconst (v := 1) C0 dL_law_1602 (by decide) ?_
  refine r_iadd C0 dL_law_1603 ?_
  refine r_sld C0 hX hbl hbA hf dL_law_1604 (fun hf => ?_)
  refine r_i2l C0 dL_law_1605 ?_
  refine r_bipush (v := 32) C0 dL_law_1606 (by decide) ?_
  refine r_lshl C0 dL_law_1608 ?_
  refine r_aload_n C0 dL_law_1609 rfl 1 rfl ?_
  refine r_iload C0 dL_law_1610 5 rfl ?_
  refine r_iconst (v := 2) C0 dL_law_1612 (by decide) ?_
  refine r_iadd C0 dL_law_1613 ?_
  refine r_sld C0 hX hbl hbA hf dL_law_1614 (fun hf => ?_)
  refine r_i2l C0 dL_law_1615 ?_
  refine r_ldc2 (v := 4294967295) C0 qw_1000 dL_law_1616 ?_
  refine r_land C0 dL_law_1619 ?_
  refine r_lor C0 dL_law_1620 ?_
  refine r_aload_n C0 dL_law_1621 rfl 1 rfl ?_
  refine r_iload C0 dL_law_1622 5 rfl ?_
  refine r_iconst (v := 3) C0 dL_law_1624 (by decide) ?_
  refine r_iadd C0 dL_law_1625 ?_
  refine r_sld C0 hX hbl hbA hf dL_law_1626 (fun hf => ?_)
  refine r_callVim C0 (st := []) [.long ((((xs (ix (v4 + (1 : Int32))))).toInt64 <<< (((32 : Int32)).toInt64 &&& 63)) ||| (((xs (ix (v4 + (2 : Int32))))).toInt64 &&& (4294967295 : Int64))), .int (xs (ix (v4 + (3 : Int32))))] p2 hf vs_244 (fun hl r2 hr2 => c_X11_simulate hl F p2 ((((xs (ix (v4 + (1 : Int32))))).toInt64 <<< (((32 : Int32)).toInt64 &&& 63)) ||| (((xs (ix (v4 + (2 : Int32))))).toInt64 &&& (4294967295 : Int64))) (xs (ix (v4 + (3 : Int32)))) hk_p2 r1.2.1 r2 hr2) (K_X11_o hk_p2) rfl rfl rfl rfl (Nat.le_of_ble_eq_true rfl) dL_law_1627 (zrm_of (Nat.le_of_ble_eq_true rfl) (Nat.le_of_ble_eq_true rfl) (by omega) (by omega) rfl rfl) (fun r2 hr2 hf => ?_)
  refine r_istore (L' := [(6, .int r2.1), (5, .int r1.1), (0, .ref b), (1, .ref p1), (2, .ref p2), (3, .ref p3), (4, .int v4)]) C0 dL_law_1630 (by decide) rfl ?_
  refine r_aload_n C0 dL_law_1632 rfl 4 rfl ?_
  refine r_callVi C0 (st := []) [] p2 hf vs_194 (fun hl r3 hr3 => c_X11_thrown hl F p2 hk_p2 r2.2 r3 hr3) (K_X11_o hk_p2) rfl rfl rfl rfl (Nat.le_of_ble_eq_true rfl) dL_law_1633 (zrm_of (Nat.le_of_ble_eq_true rfl) (Nat.le_of_ble_eq_true rfl) (by omega) (by omega) rfl rfl) (fun r3 hr3 hf => ?_)
  refine r_iload C0 dL_law_1636 1 rfl ?_
  refine r_icmp_eq C0 1643 dL_law_1638 (by decide) hf (fun hf => ?_) (fun hf => ?_)
  · refine r_iload C0 dL_law_1643 1 rfl ?_
    refine r_if_ne C0 1660 dL_law_1645 (by decide) hf (fun hf => ?_) (fun hf => ?_)
    · refine r_goto C0 1775 dL_law_1660 (by decide) ?_
      refine r_iinc (j := 6) (v := (v4 + (4 : Int32))) (L' := [(4, .int (v4 + (4 : Int32))), (6, .int r2.1), (5, .int r1.1), (0, .ref b), (1, .ref p1), (2, .ref p2), (3, .ref p3)]) C0 dL_law_1775 rfl rfl (by decide) rfl ?_
      refine r_goto C0 23 dL_law_1778 (by decide) ?_
      refine r_widen (k1 := kc2) (s1 := ks2) (by omega) (by omega) ?_
      refine r_sub (L' := [(0, .ref b), (1, .ref p1), (2, .ref p2), (3, .ref p3), (4, .int (v4 + (4 : Int32)))]) [3, 4, 5, 6, 0] rfl ?_
      exact hk (v4 + (4 : Int32)) r2.2 r1.2.2 hf
    · refine r_aload_n C0 dL_law_1648 rfl 5 rfl ?_
      refine r_iconst (v := 0) C0 dL_law_1649 (by decide) ?_
      refine r_lald' (j := 0) C0 hk_p3 rfl rfl dL_law_1650 ?_
      refine r_iload C0 dL_law_1651 0 rfl ?_
      refine r_i2l C0 dL_law_1653 ?_
      refine r_lcmp C0 dL_law_1654 ?_
      refine r_if_eq C0 1660 dL_law_1655 (by decide) hf (fun hf => ?_) (fun hf => ?_)
      · refine r_goto C0 1775 dL_law_1660 (by decide) ?_
        refine r_iinc (j := 6) (v := (v4 + (4 : Int32))) (L' := [(4, .int (v4 + (4 : Int32))), (6, .int r2.1), (5, .int r1.1), (0, .ref b), (1, .ref p1), (2, .ref p2), (3, .ref p3)]) C0 dL_law_1775 rfl rfl (by decide) rfl ?_
        refine r_goto C0 23 dL_law_1778 (by decide) ?_
        refine r_widen (k1 := kc2) (s1 := ks2) (by omega) (by omega) ?_
        refine r_sub (L' := [(0, .ref b), (1, .ref p1), (2, .ref p2), (3, .ref p3), (4, .int (v4 + (4 : Int32)))]) [3, 4, 5, 6, 0] rfl ?_
        exact hk (v4 + (4 : Int32)) r2.2 r1.2.2 hf
      · refine r_iconst (v := 0) C0 dL_law_1658 (by decide) ?_
        exact absurd (Option.some.inj hf) (by decide)
  · refine r_iconst (v := 0) C0 dL_law_1641 (by decide) ?_
    exact absurd (Option.some.inj hf) (by decide)
set_option maxHeartbeats 4000000 in
set_option maxRecDepth 100000 in
theorem g_L_law_1663 {ret : Option FieldType} {hh : List (Nat × Nat × Nat × Nat)} {Γ : zCx} {Q : State → Prop} {E : zEn} {S : zSk} {kc ks kc2 ks2 : Nat} (C0 : zCt Γ E R_law cL_law 7 ret hh room_1) (F b len : Nat) (xs : Nat → Int32) (p1 p2 p3 : Nat) (hc1 : kc + 8 ≤ kc2) (hs1 : ks + 48 ≤ ks2) (hc2 : kc2 ≤ room_1.cells) (hs2 : ks2 ≤ room_1.slots) (hX : va_X b len xs (gS Γ) (gS Γ).heap) (hbl : b < (gS Γ).heap.size) (hbA : ¬ E.2.2 ≤ b) (hk_p1 : K_X10 S p1) (hk_p2 : K_X11 S p2) (hk_p3 : S.1 p3 = some (.inr (3, 1))) (k : Int32 → zMi → zMl → Option Int32) (hk : ∀ (v4 : Int32) (M : zMi) (X : zMl), k v4 M X = some 1 → zG Γ Q E 7 kc2 ks2 S ZT M X 23 [(0, .ref b), (1, .ref p1), (2, .ref p2), (3, .ref p3), (4, .int v4)] []) (v4 : Int32) (M : zMi) (X : zMl) (hf : f_L_law_1663 F len xs p1 p2 p3 k v4 M X = some 1) : zG Γ Q E 7 kc ks S ZT M X 1663 [(0, .ref b), (1, .ref p1), (2, .ref p2), (3, .ref p3), (4, .int v4)] [] := by
  unfold f_L_law_1663 at hf
  refine r_aload_n C0 dL_law_1663 rfl 1 rfl ?_
  refine r_aload_n C0 dL_law_1664 rfl 0 rfl ?_
  refine r_iload C0 dL_law_1665 4 rfl ?_
  refine r_iconst (v := 1) C0 dL_law_1667 (by decide) ?_
  refine r_iadd C0 dL_law_1668 ?_
  refine r_sld C0 hX hbl hbA hf dL_law_1669 (fun hf => ?_)
  refine r_aload_n C0 dL_law_1670 rfl 3 rfl ?_
  refine r_callSW C0 (st := []) [.ref p1, .int (xs (ix (v4 + (1 : Int32)))), .ref p3] hf vs_245 (fun hl r1 hr1 => c_L_save hl F p1 (xs (ix (v4 + (1 : Int32)))) p3 hk_p1 hk_p3 M X r1 hr1) rfl rfl (Nat.le_of_ble_eq_true rfl) dL_law_1671 (zrm_of (Nat.le_of_ble_eq_true rfl) (Nat.le_of_ble_eq_true rfl) (by omega) (by omega) rfl rfl) (fun r1 hr1 hf => ?_)
  refine r_istore (L' := [(5, .int r1.1), (0, .ref b), (1, .ref p1), (2, .ref p2), (3, .ref p3), (4, .int v4)]) C0 dL_law_1674 (by decide) rfl ?_
  refine r_aload_n C0 dL_law_1676 rfl 3 rfl ?_
  refine r_aload_n C0 dL_law_1677 rfl 1 rfl ?_
  refine r_iload C0 dL_law_1678 5 rfl ?_
  refine r_iconst (v := 1) C0 dL_law_1680 (by decide) ?_
  refine r_iadd C0 dL_law_1681 ?_
  refine r_sld C0 hX hbl hbA hf dL_law_1682 (fun hf => ?_)
  refine r_callVim C0 (st := []) [.int (xs (ix (v4 + (1 : Int32))))] p2 hf vs_246 (fun hl r2 hr2 => c_X11_save hl F p2 (xs (ix (v4 + (1 : Int32)))) hk_p2 r1.2.1 r2 hr2) (K_X11_o hk_p2) rfl rfl rfl rfl (Nat.le_of_ble_eq_true rfl) dL_law_1683 (zrm_of (Nat.le_of_ble_eq_true rfl) (Nat.le_of_ble_eq_true rfl) (by omega) (by omega) rfl rfl) (fun r2 hr2 hf => ?_)
  refine r_istore (L' := [(6, .int r2.1), (5, .int r1.1), (0, .ref b), (1, .ref p1), (2, .ref p2), (3, .ref p3), (4, .int v4)]) C0 dL_law_1686 (by decide) rfl ?_
  refine r_aload_n C0 dL_law_1688 rfl 4 rfl ?_
  refine r_callVi C0 (st := []) [] p2 hf vs_194 (fun hl r3 hr3 => c_X11_thrown hl F p2 hk_p2 r2.2 r3 hr3) (K_X11_o hk_p2) rfl rfl rfl rfl (Nat.le_of_ble_eq_true rfl) dL_law_1689 (zrm_of (Nat.le_of_ble_eq_true rfl) (Nat.le_of_ble_eq_true rfl) (by omega) (by omega) rfl rfl) (fun r3 hr3 hf => ?_)
  refine r_iload C0 dL_law_1692 1 rfl ?_
  refine r_icmp_eq C0 1699 dL_law_1694 (by decide) hf (fun hf => ?_) (fun hf => ?_)
  · refine r_iload C0 dL_law_1699 1 rfl ?_
    refine r_if_ne C0 1716 dL_law_1701 (by decide) hf (fun hf => ?_) (fun hf => ?_)
    · refine r_goto C0 1775 dL_law_1716 (by decide) ?_
      refine r_iinc (j := 6) (v := (v4 + (4 : Int32))) (L' := [(4, .int (v4 + (4 : Int32))), (6, .int r2.1), (5, .int r1.1), (0, .ref b), (1, .ref p1), (2, .ref p2), (3, .ref p3)]) C0 dL_law_1775 rfl rfl (by decide) rfl ?_
      refine r_goto C0 23 dL_law_1778 (by decide) ?_
      refine r_widen (k1 := kc2) (s1 := ks2) (by omega) (by omega) ?_
      refine r_sub (L' := [(0, .ref b), (1, .ref p1), (2, .ref p2), (3, .ref p3), (4, .int (v4 + (4 : Int32)))]) [3, 4, 5, 6, 0] rfl ?_
      exact hk (v4 + (4 : Int32)) r2.2 r1.2.2 hf
    · refine r_aload_n C0 dL_law_1704 rfl 5 rfl ?_
      refine r_iconst (v := 0) C0 dL_law_1705 (by decide) ?_
      refine r_lald' (j := 0) C0 hk_p3 rfl rfl dL_law_1706 ?_
      refine r_iload C0 dL_law_1707 0 rfl ?_
      refine r_i2l C0 dL_law_1709 ?_
      refine r_lcmp C0 dL_law_1710 ?_
      refine r_if_eq C0 1716 dL_law_1711 (by decide) hf (fun hf => ?_) (fun hf => ?_)
      · refine r_goto C0 1775 dL_law_1716 (by decide) ?_
        refine r_iinc (j := 6) (v := (v4 + (4 : Int32))) (L' := [(4, .int (v4 + (4 : Int32))), (6, .int r2.1), (5, .int r1.1), (0, .ref b), (1, .ref p1), (2, .ref p2), (3, .ref p3)]) C0 dL_law_1775 rfl rfl (by decide) rfl ?_
        refine r_goto C0 23 dL_law_1778 (by decide) ?_
        refine r_widen (k1 := kc2) (s1 := ks2) (by omega) (by omega) ?_
        refine r_sub (L' := [(0, .ref b), (1, .ref p1), (2, .ref p2), (3, .ref p3), (4, .int (v4 + (4 : Int32)))]) [3, 4, 5, 6, 0] rfl ?_
        exact hk (v4 + (4 : Int32)) r2.2 r1.2.2 hf
      · refine r_iconst (v := 0) C0 dL_law_1714 (by decide) ?_
        exact absurd (Option.some.inj hf) (by decide)
  · refine r_iconst (v := 0) C0 dL_law_1697 (by decide) ?_
    exact absurd (Option.some.inj hf) (by decide)
set_option maxHeartbeats 4000000 in
set_option maxRecDepth 100000 in
theorem g_L_law_1719 {ret : Option FieldType} {hh : List (Nat × Nat × Nat × Nat)} {Γ : zCx} {Q : State → Prop} {E : zEn} {S : zSk} {kc ks kc2 ks2 : Nat} (C0 : zCt Γ E R_law cL_law 7 ret hh room_1) (F b len : Nat) (xs : Nat → Int32) (p1 p2 p3 : Nat) (hc1 : kc + 8 ≤ kc2) (hs1 : ks + 48 ≤ ks2) (hc2 : kc2 ≤ room_1.cells) (hs2 : ks2 ≤ room_1.slots) (hX : va_X b len xs (gS Γ) (gS Γ).heap) (hbl : b < (gS Γ).heap.size) (hbA : ¬ E.2.2 ≤ b) (hk_p1 : K_X10 S p1) (hk_p2 : K_X11 S p2) (hk_p3 : S.1 p3 = some (.inr (3, 1))) (k : Int32 → zMi → zMl → Option Int32) (hk : ∀ (v4 : Int32) (M : zMi) (X : zMl), k v4 M X = some 1 → zG Γ Q E 7 kc2 ks2 S ZT M X 23 [(0, .ref b), (1, .ref p1), (2, .ref p2), (3, .ref p3), (4, .int v4)] []) (v4 : Int32) (M : zMi) (X : zMl) (hf : f_L_law_1719 F len xs p1 p2 p3 k v4 M X = some 1) : zG Γ Q E 7 kc ks S ZT M X 1719 [(0, .ref b), (1, .ref p1), (2, .ref p2), (3, .ref p3), (4, .int v4)] [] := by
  unfold f_L_law_1719 at hf
  refine r_aload_n C0 dL_law_1719 rfl 1 rfl ?_
  refine r_aload_n C0 dL_law_1720 rfl 0 rfl ?_
  refine r_iload C0 dL_law_1721 4 rfl ?_
  refine r_iconst (v := 1) C0 dL_law_1723 (by decide) ?_
  refine r_iadd C0 dL_law_1724 ?_
  refine r_sld C0 hX hbl hbA hf dL_law_1725 (fun hf => ?_)
  refine r_aload_n C0 dL_law_1726 rfl 3 rfl ?_
  refine r_callSW C0 (st := []) [.ref p1, .int (xs (ix (v4 + (1 : Int32)))), .ref p3] hf vs_247 (fun hl r1 hr1 => c_L_restore hl F p1 (xs (ix (v4 + (1 : Int32)))) p3 hk_p1 hk_p3 M X r1 hr1) rfl rfl (Nat.le_of_ble_eq_true rfl) dL_law_1727 (zrm_of (Nat.le_of_ble_eq_true rfl) (Nat.le_of_ble_eq_true rfl) (by omega) (by omega) rfl rfl) (fun r1 hr1 hf => ?_)
  refine r_istore (L' := [(5, .int r1.1), (0, .ref b), (1, .ref p1), (2, .ref p2), (3, .ref p3), (4, .int v4)]) C0 dL_law_1730 (by decide) rfl ?_
  refine r_aload_n C0 dL_law_1732 rfl 3 rfl ?_
  refine r_aload_n C0 dL_law_1733 rfl 1 rfl ?_
  refine r_iload C0 dL_law_1734 5 rfl ?_
  refine r_iconst (v := 1) C0 dL_law_1736 (by decide) ?_
  refine r_iadd C0 dL_law_1737 ?_
  refine r_sld C0 hX hbl hbA hf dL_law_1738 (fun hf => ?_)
  refine r_callVim C0 (st := []) [.int (xs (ix (v4 + (1 : Int32))))] p2 hf vs_248 (fun hl r2 hr2 => c_X11_restore hl F p2 (xs (ix (v4 + (1 : Int32)))) hk_p2 r1.2.1 r2 hr2) (K_X11_o hk_p2) rfl rfl rfl rfl (Nat.le_of_ble_eq_true rfl) dL_law_1739 (zrm_of (Nat.le_of_ble_eq_true rfl) (Nat.le_of_ble_eq_true rfl) (by omega) (by omega) rfl rfl) (fun r2 hr2 hf => ?_)
  refine r_istore (L' := [(6, .int r2.1), (5, .int r1.1), (0, .ref b), (1, .ref p1), (2, .ref p2), (3, .ref p3), (4, .int v4)]) C0 dL_law_1742 (by decide) rfl ?_
  refine r_aload_n C0 dL_law_1744 rfl 4 rfl ?_
  refine r_callVi C0 (st := []) [] p2 hf vs_194 (fun hl r3 hr3 => c_X11_thrown hl F p2 hk_p2 r2.2 r3 hr3) (K_X11_o hk_p2) rfl rfl rfl rfl (Nat.le_of_ble_eq_true rfl) dL_law_1745 (zrm_of (Nat.le_of_ble_eq_true rfl) (Nat.le_of_ble_eq_true rfl) (by omega) (by omega) rfl rfl) (fun r3 hr3 hf => ?_)
  refine r_iload C0 dL_law_1748 1 rfl ?_
  refine r_icmp_eq C0 1755 dL_law_1750 (by decide) hf (fun hf => ?_) (fun hf => ?_)
  · refine r_iload C0 dL_law_1755 1 rfl ?_
    refine r_if_ne C0 1772 dL_law_1757 (by decide) hf (fun hf => ?_) (fun hf => ?_)
    · refine r_goto C0 1775 dL_law_1772 (by decide) ?_
      refine r_iinc (j := 6) (v := (v4 + (4 : Int32))) (L' := [(4, .int (v4 + (4 : Int32))), (6, .int r2.1), (5, .int r1.1), (0, .ref b), (1, .ref p1), (2, .ref p2), (3, .ref p3)]) C0 dL_law_1775 rfl rfl (by decide) rfl ?_
      refine r_goto C0 23 dL_law_1778 (by decide) ?_
      refine r_widen (k1 := kc2) (s1 := ks2) (by omega) (by omega) ?_
      refine r_sub (L' := [(0, .ref b), (1, .ref p1), (2, .ref p2), (3, .ref p3), (4, .int (v4 + (4 : Int32)))]) [3, 4, 5, 6, 0] rfl ?_
      exact hk (v4 + (4 : Int32)) r2.2 r1.2.2 hf
    · refine r_aload_n C0 dL_law_1760 rfl 5 rfl ?_
      refine r_iconst (v := 0) C0 dL_law_1761 (by decide) ?_
      refine r_lald' (j := 0) C0 hk_p3 rfl rfl dL_law_1762 ?_
      refine r_iload C0 dL_law_1763 0 rfl ?_
      refine r_i2l C0 dL_law_1765 ?_
      refine r_lcmp C0 dL_law_1766 ?_
      refine r_if_eq C0 1772 dL_law_1767 (by decide) hf (fun hf => ?_) (fun hf => ?_)
      · refine r_goto C0 1775 dL_law_1772 (by decide) ?_
        refine r_iinc (j := 6) (v := (v4 + (4 : Int32))) (L' := [(4, .int (v4 + (4 : Int32))), (6, .int r2.1), (5, .int r1.1), (0, .ref b), (1, .ref p1), (2, .ref p2), (3, .ref p3)]) C0 dL_law_1775 rfl rfl (by decide) rfl ?_
        refine r_goto C0 23 dL_law_1778 (by decide) ?_
        refine r_widen (k1 := kc2) (s1 := ks2) (by omega) (by omega) ?_
        refine r_sub (L' := [(0, .ref b), (1, .ref p1), (2, .ref p2), (3, .ref p3), (4, .int (v4 + (4 : Int32)))]) [3, 4, 5, 6, 0] rfl ?_
        exact hk (v4 + (4 : Int32)) r2.2 r1.2.2 hf
      · refine r_iconst (v := 0) C0 dL_law_1770 (by decide) ?_
        exact absurd (Option.some.inj hf) (by decide)
  · refine r_iconst (v := 0) C0 dL_law_1753 (by decide) ?_
    exact absurd (Option.some.inj hf) (by decide)
set_option maxHeartbeats 8000000 in
set_option maxRecDepth 100000 in
theorem g_L_law_sw {ret : Option FieldType} {hh : List (Nat × Nat × Nat × Nat)} {Γ : zCx} {Q : State → Prop} {E : zEn} {S : zSk} {kc ks kc2 ks2 : Nat} (C0 : zCt Γ E R_law cL_law 7 ret hh room_1) (F b len : Nat) (xs : Nat → Int32) (p1 p2 p3 : Nat) (hc1 : kc + 8 ≤ kc2) (hs1 : ks + 48 ≤ ks2) (hc2 : kc2 ≤ room_1.cells) (hs2 : ks2 ≤ room_1.slots) (hX : va_X b len xs (gS Γ) (gS Γ).heap) (hbl : b < (gS Γ).heap.size) (hbA : ¬ E.2.2 ≤ b) (hk_p1 : K_X10 S p1) (hk_p2 : K_X11 S p2) (hk_p3 : S.1 p3 = some (.inr (3, 1))) (k : Int32 → zMi → zMl → Option Int32) (hk : ∀ (v4 : Int32) (M : zMi) (X : zMl), k v4 M X = some 1 → zG Γ Q E 7 kc2 ks2 S ZT M X 23 [(0, .ref b), (1, .ref p1), (2, .ref p2), (3, .ref p3), (4, .int v4)] []) (v4 : Int32) (M : zMi) (X : zMl) (hf : f_L_law_sw F len xs p1 p2 p3 k v4 M X = some 1) : zG Γ Q E 7 kc ks S ZT M X 39 [(0, .ref b), (1, .ref p1), (2, .ref p2), (3, .ref p3), (4, .int v4)] [.int (xs (ix v4) &&& (31 : Int32))] := by
  unfold f_L_law_sw at hf
  refine z_ite hf (fun hx hf => ?_) (fun hx0 hf => ?_)
  · refine r_tsIn (off := 125) C0 164 dL_law_39 (by rw [hx]; decide) (by rw [hx]; decide) (by rw [hx]; decide) (by decide) ?_
    exact g_L_law_164 C0 F b len xs p1 p2 p3 hc1 hs1 hc2 hs2 hX hbl hbA hk_p1 hk_p2 hk_p3 k hk v4 M X hf
  refine z_ite hf (fun hx hf => ?_) (fun hx1 hf => ?_)
  · refine r_tsIn (off := 181) C0 220 dL_law_39 (by rw [hx]; decide) (by rw [hx]; decide) (by rw [hx]; decide) (by decide) ?_
    exact g_L_law_220 C0 F b len xs p1 p2 p3 hc1 hs1 hc2 hs2 hX hbl hbA hk_p1 hk_p2 hk_p3 k hk v4 M X hf
  refine z_ite hf (fun hx hf => ?_) (fun hx2 hf => ?_)
  · refine r_tsIn (off := 194) C0 233 dL_law_39 (by rw [hx]; decide) (by rw [hx]; decide) (by rw [hx]; decide) (by decide) ?_
    exact g_L_law_233 C0 F b len xs p1 p2 p3 hc1 hs1 hc2 hs2 hX hbl hbA hk_p1 hk_p2 hk_p3 k hk v4 M X hf
  refine z_ite hf (fun hx hf => ?_) (fun hx3 hf => ?_)
  · refine r_tsIn (off := 207) C0 246 dL_law_39 (by rw [hx]; decide) (by rw [hx]; decide) (by rw [hx]; decide) (by decide) ?_
    exact g_L_law_246 C0 F b len xs p1 p2 p3 hc1 hs1 hc2 hs2 hX hbl hbA hk_p1 hk_p2 hk_p3 k hk v4 M X hf
  refine z_ite hf (fun hx hf => ?_) (fun hx4 hf => ?_)
  · refine r_tsIn (off := 251) C0 290 dL_law_39 (by rw [hx]; decide) (by rw [hx]; decide) (by rw [hx]; decide) (by decide) ?_
    exact g_L_law_290 C0 F b len xs p1 p2 p3 hc1 hs1 hc2 hs2 hX hbl hbA hk_p1 hk_p2 hk_p3 k hk v4 M X hf
  refine z_ite hf (fun hx hf => ?_) (fun hx5 hf => ?_)
  · refine r_tsIn (off := 307) C0 346 dL_law_39 (by rw [hx]; decide) (by rw [hx]; decide) (by rw [hx]; decide) (by decide) ?_
    exact g_L_law_346 C0 F b len xs p1 p2 p3 hc1 hs1 hc2 hs2 hX hbl hbA hk_p1 hk_p2 hk_p3 k hk v4 M X hf
  refine z_ite hf (fun hx hf => ?_) (fun hx6 hf => ?_)
  · refine r_tsIn (off := 375) C0 414 dL_law_39 (by rw [hx]; decide) (by rw [hx]; decide) (by rw [hx]; decide) (by decide) ?_
    exact g_L_law_414 C0 F b len xs p1 p2 p3 hc1 hs1 hc2 hs2 hX hbl hbA hk_p1 hk_p2 hk_p3 k hk v4 M X hf
  refine z_ite hf (fun hx hf => ?_) (fun hx7 hf => ?_)
  · refine r_tsIn (off := 443) C0 482 dL_law_39 (by rw [hx]; decide) (by rw [hx]; decide) (by rw [hx]; decide) (by decide) ?_
    exact g_L_law_482 C0 F b len xs p1 p2 p3 hc1 hs1 hc2 hs2 hX hbl hbA hk_p1 hk_p2 hk_p3 k hk v4 M X hf
  refine z_ite hf (fun hx hf => ?_) (fun hx8 hf => ?_)
  · refine r_tsIn (off := 499) C0 538 dL_law_39 (by rw [hx]; decide) (by rw [hx]; decide) (by rw [hx]; decide) (by decide) ?_
    exact g_L_law_538 C0 F b len xs p1 p2 p3 hc1 hs1 hc2 hs2 hX hbl hbA hk_p1 hk_p2 hk_p3 k hk v4 M X hf
  refine z_ite hf (fun hx hf => ?_) (fun hx9 hf => ?_)
  · refine r_tsIn (off := 555) C0 594 dL_law_39 (by rw [hx]; decide) (by rw [hx]; decide) (by rw [hx]; decide) (by decide) ?_
    exact g_L_law_594 C0 F b len xs p1 p2 p3 hc1 hs1 hc2 hs2 hX hbl hbA hk_p1 hk_p2 hk_p3 k hk v4 M X hf
  refine z_ite hf (fun hx hf => ?_) (fun hx10 hf => ?_)
  · refine r_tsIn (off := 623) C0 662 dL_law_39 (by rw [hx]; decide) (by rw [hx]; decide) (by rw [hx]; decide) (by decide) ?_
    exact g_L_law_662 C0 F b len xs p1 p2 p3 hc1 hs1 hc2 hs2 hX hbl hbA hk_p1 hk_p2 hk_p3 k hk v4 M X hf
  refine z_ite hf (fun hx hf => ?_) (fun hx11 hf => ?_)
  · refine r_tsIn (off := 679) C0 718 dL_law_39 (by rw [hx]; decide) (by rw [hx]; decide) (by rw [hx]; decide) (by decide) ?_
    exact g_L_law_718 C0 F b len xs p1 p2 p3 hc1 hs1 hc2 hs2 hX hbl hbA hk_p1 hk_p2 hk_p3 k hk v4 M X hf
  refine z_ite hf (fun hx hf => ?_) (fun hx12 hf => ?_)
  · refine r_tsIn (off := 735) C0 774 dL_law_39 (by rw [hx]; decide) (by rw [hx]; decide) (by rw [hx]; decide) (by decide) ?_
    exact g_L_law_774 C0 F b len xs p1 p2 p3 hc1 hs1 hc2 hs2 hX hbl hbA hk_p1 hk_p2 hk_p3 k hk v4 M X hf
  refine z_ite hf (fun hx hf => ?_) (fun hx13 hf => ?_)
  · refine r_tsIn (off := 803) C0 842 dL_law_39 (by rw [hx]; decide) (by rw [hx]; decide) (by rw [hx]; decide) (by decide) ?_
    exact g_L_law_842 C0 F b len xs p1 p2 p3 hc1 hs1 hc2 hs2 hX hbl hbA hk_p1 hk_p2 hk_p3 k hk v4 M X hf
  refine z_ite hf (fun hx hf => ?_) (fun hx14 hf => ?_)
  · refine r_tsIn (off := 859) C0 898 dL_law_39 (by rw [hx]; decide) (by rw [hx]; decide) (by rw [hx]; decide) (by decide) ?_
    exact g_L_law_898 C0 F b len xs p1 p2 p3 hc1 hs1 hc2 hs2 hX hbl hbA hk_p1 hk_p2 hk_p3 k hk v4 M X hf
  refine z_ite hf (fun hx hf => ?_) (fun hx15 hf => ?_)
  · refine r_tsIn (off := 927) C0 966 dL_law_39 (by rw [hx]; decide) (by rw [hx]; decide) (by rw [hx]; decide) (by decide) ?_
    exact g_L_law_966 C0 F b len xs p1 p2 p3 hc1 hs1 hc2 hs2 hX hbl hbA hk_p1 hk_p2 hk_p3 k hk v4 M X hf
  refine z_ite hf (fun hx hf => ?_) (fun hx16 hf => ?_)
  · refine r_tsIn (off := 983) C0 1022 dL_law_39 (by rw [hx]; decide) (by rw [hx]; decide) (by rw [hx]; decide) (by decide) ?_
    exact g_L_law_1022 C0 F b len xs p1 p2 p3 hc1 hs1 hc2 hs2 hX hbl hbA hk_p1 hk_p2 hk_p3 k hk v4 M X hf
  refine z_ite hf (fun hx hf => ?_) (fun hx17 hf => ?_)
  · refine r_tsIn (off := 1027) C0 1066 dL_law_39 (by rw [hx]; decide) (by rw [hx]; decide) (by rw [hx]; decide) (by decide) ?_
    exact g_L_law_1066 C0 F b len xs p1 p2 p3 hc1 hs1 hc2 hs2 hX hbl hbA hk_p1 hk_p2 hk_p3 k hk v4 M X hf
  refine z_ite hf (fun hx hf => ?_) (fun hx18 hf => ?_)
  · refine r_tsIn (off := 1095) C0 1134 dL_law_39 (by rw [hx]; decide) (by rw [hx]; decide) (by rw [hx]; decide) (by decide) ?_
    exact g_L_law_1134 C0 F b len xs p1 p2 p3 hc1 hs1 hc2 hs2 hX hbl hbA hk_p1 hk_p2 hk_p3 k hk v4 M X hf
  refine z_ite hf (fun hx hf => ?_) (fun hx19 hf => ?_)
  · refine r_tsIn (off := 1163) C0 1202 dL_law_39 (by rw [hx]; decide) (by rw [hx]; decide) (by rw [hx]; decide) (by decide) ?_
    exact g_L_law_1202 C0 F b len xs p1 p2 p3 hc1 hs1 hc2 hs2 hX hbl hbA hk_p1 hk_p2 hk_p3 k hk v4 M X hf
  refine z_ite hf (fun hx hf => ?_) (fun hx20 hf => ?_)
  · refine r_tsIn (off := 1231) C0 1270 dL_law_39 (by rw [hx]; decide) (by rw [hx]; decide) (by rw [hx]; decide) (by decide) ?_
    exact g_L_law_1270 C0 F b len xs p1 p2 p3 hc1 hs1 hc2 hs2 hX hbl hbA hk_p1 hk_p2 hk_p3 k hk v4 M X hf
  refine z_ite hf (fun hx hf => ?_) (fun hx21 hf => ?_)
  · refine r_tsIn (off := 1299) C0 1338 dL_law_39 (by rw [hx]; decide) (by rw [hx]; decide) (by rw [hx]; decide) (by decide) ?_
    exact g_L_law_1338 C0 F b len xs p1 p2 p3 hc1 hs1 hc2 hs2 hX hbl hbA hk_p1 hk_p2 hk_p3 k hk v4 M X hf
  refine z_ite hf (fun hx hf => ?_) (fun hx22 hf => ?_)
  · refine r_tsIn (off := 1355) C0 1394 dL_law_39 (by rw [hx]; decide) (by rw [hx]; decide) (by rw [hx]; decide) (by decide) ?_
    exact g_L_law_1394 C0 F b len xs p1 p2 p3 hc1 hs1 hc2 hs2 hX hbl hbA hk_p1 hk_p2 hk_p3 k hk v4 M X hf
  refine z_ite hf (fun hx hf => ?_) (fun hx23 hf => ?_)
  · refine r_tsIn (off := 1368) C0 1407 dL_law_39 (by rw [hx]; decide) (by rw [hx]; decide) (by rw [hx]; decide) (by decide) ?_
    exact g_L_law_1407 C0 F b len xs p1 p2 p3 hc1 hs1 hc2 hs2 hX hbl hbA hk_p1 hk_p2 hk_p3 k hk v4 M X hf
  refine z_ite hf (fun hx hf => ?_) (fun hx24 hf => ?_)
  · refine r_tsIn (off := 1424) C0 1463 dL_law_39 (by rw [hx]; decide) (by rw [hx]; decide) (by rw [hx]; decide) (by decide) ?_
    exact g_L_law_1463 C0 F b len xs p1 p2 p3 hc1 hs1 hc2 hs2 hX hbl hbA hk_p1 hk_p2 hk_p3 k hk v4 M X hf
  refine z_ite hf (fun hx hf => ?_) (fun hx25 hf => ?_)
  · refine r_tsIn (off := 1524) C0 1563 dL_law_39 (by rw [hx]; decide) (by rw [hx]; decide) (by rw [hx]; decide) (by decide) ?_
    exact g_L_law_1563 C0 F b len xs p1 p2 p3 hc1 hs1 hc2 hs2 hX hbl hbA hk_p1 hk_p2 hk_p3 k hk v4 M X hf
  refine z_ite hf (fun hx hf => ?_) (fun hx26 hf => ?_)
  · refine r_tsIn (off := 1624) C0 1663 dL_law_39 (by rw [hx]; decide) (by rw [hx]; decide) (by rw [hx]; decide) (by decide) ?_
    exact g_L_law_1663 C0 F b len xs p1 p2 p3 hc1 hs1 hc2 hs2 hX hbl hbA hk_p1 hk_p2 hk_p3 k hk v4 M X hf
  refine z_ite hf (fun hx hf => ?_) (fun hx27 hf => ?_)
  · refine r_tsIn (off := 1680) C0 1719 dL_law_39 (by rw [hx]; decide) (by rw [hx]; decide) (by rw [hx]; decide) (by decide) ?_
    exact g_L_law_1719 C0 F b len xs p1 p2 p3 hc1 hs1 hc2 hs2 hX hbl hbA hk_p1 hk_p2 hk_p3 k hk v4 M X hf
  have hy0 := z_ne (a := 0) hx0 (by decide)
  have hy1 := z_ne (a := 1) hx1 (by decide)
  have hy2 := z_ne (a := 2) hx2 (by decide)
  have hy3 := z_ne (a := 3) hx3 (by decide)
  have hy4 := z_ne (a := 4) hx4 (by decide)
  have hy5 := z_ne (a := 5) hx5 (by decide)
  have hy6 := z_ne (a := 6) hx6 (by decide)
  have hy7 := z_ne (a := 7) hx7 (by decide)
  have hy8 := z_ne (a := 8) hx8 (by decide)
  have hy9 := z_ne (a := 9) hx9 (by decide)
  have hy10 := z_ne (a := 10) hx10 (by decide)
  have hy11 := z_ne (a := 11) hx11 (by decide)
  have hy12 := z_ne (a := 12) hx12 (by decide)
  have hy13 := z_ne (a := 13) hx13 (by decide)
  have hy14 := z_ne (a := 14) hx14 (by decide)
  have hy15 := z_ne (a := 15) hx15 (by decide)
  have hy16 := z_ne (a := 16) hx16 (by decide)
  have hy17 := z_ne (a := 17) hx17 (by decide)
  have hy18 := z_ne (a := 18) hx18 (by decide)
  have hy19 := z_ne (a := 19) hx19 (by decide)
  have hy20 := z_ne (a := 20) hx20 (by decide)
  have hy21 := z_ne (a := 21) hx21 (by decide)
  have hy22 := z_ne (a := 22) hx22 (by decide)
  have hy23 := z_ne (a := 23) hx23 (by decide)
  have hy24 := z_ne (a := 24) hx24 (by decide)
  have hy25 := z_ne (a := 25) hx25 (by decide)
  have hy26 := z_ne (a := 26) hx26 (by decide)
  have hy27 := z_ne (a := 27) hx27 (by decide)
  refine r_tsOut C0 1775 dL_law_39 (by omega) (by decide) ?_
  refine r_iinc (j := 4) (v := (v4 + (4 : Int32))) (L' := [(4, .int (v4 + (4 : Int32))), (0, .ref b), (1, .ref p1), (2, .ref p2), (3, .ref p3)]) C0 dL_law_1775 rfl rfl (by decide) rfl ?_
  refine r_goto C0 23 dL_law_1778 (by decide) ?_
  refine r_widen (k1 := kc2) (s1 := ks2) (by omega) (by omega) ?_
  refine r_sub (L' := [(0, .ref b), (1, .ref p1), (2, .ref p2), (3, .ref p3), (4, .int (v4 + (4 : Int32)))]) [1, 2, 3, 4, 0] rfl ?_
  exact hk (v4 + (4 : Int32)) M X hf
set_option maxHeartbeats 4000000 in
set_option maxRecDepth 100000 in
theorem g_L_law_loop {ret : Option FieldType} {hh : List (Nat × Nat × Nat × Nat)} {Γ : zCx} {Q : State → Prop} {E : zEn} {S : zSk} (C0 : zCt Γ E R_law cL_law 7 ret hh room_1) (F b len : Nat) (xs : Nat → Int32) (p1 p2 p3 : Nat) (k0 s0 N : Nat) (hk0 : k0 + 8 * N ≤ room_1.cells) (hs0 : s0 + 48 * N ≤ room_1.slots) (hX : va_X b len xs (gS Γ) (gS Γ).heap) (hbl : b < (gS Γ).heap.size) (hbA : ¬ E.2.2 ≤ b) (hk_p1 : K_X10 S p1) (hk_p2 : K_X11 S p2) (hk_p3 : S.1 p3 = some (.inr (3, 1)))
    (hend : ∀ (kc ks : Nat) (L : List (Nat × Value)) (M : zMi) (X : zMl), kc ≤ room_1.cells → ks ≤ room_1.slots → zG Γ Q E 7 kc ks S ZT M X 1781 L []) :
    ∀ (n : Nat), n ≤ N → ∀ (v4 : Int32) (M : zMi) (X : zMl), f_L_law_loop F len xs p1 p2 p3 n v4 M X = some 1 → zG Γ Q E 7 (k0 + 8 * (N - n)) (s0 + 48 * (N - n)) S ZT M X 23 [(0, .ref b), (1, .ref p1), (2, .ref p2), (3, .ref p3), (4, .int v4)] [] := by
  intro n
  induction n with
  | zero => intro _ v4 M X hf; cases hf
  | succ n ih =>
    intro hn v4 M X hf
    unfold f_L_law_loop at hf
    refine r_iload C0 dL_law_23 4 rfl ?_
    refine r_aload_n C0 dL_law_25 rfl 0 rfl ?_
    refine r_slen C0 hX hbl hbA dL_law_26 ?_
    refine r_iconst (v := 4) C0 dL_law_27 (by decide) ?_
    refine r_isub C0 dL_law_28 ?_
    refine r_icmp_gt C0 1781 dL_law_29 (by decide) hf (fun hf => ?_) (fun hf => ?_)
    · exact hend _ _ _ M X (by omega) (by omega)
    · refine r_aload_n C0 dL_law_32 rfl 0 rfl ?_
      refine r_iload C0 dL_law_33 4 rfl ?_
      refine r_sld C0 hX hbl hbA hf dL_law_35 (fun hf => ?_)
      refine r_bipush (v := 31) C0 dL_law_36 (by decide) ?_
      refine r_iand C0 dL_law_38 ?_
      exact g_L_law_sw (kc2 := k0 + 8 * (N - n)) (ks2 := s0 + 48 * (N - n)) C0 F b len xs p1 p2 p3 (by omega) (by omega) (by omega) (by omega) hX hbl hbA hk_p1 hk_p2 hk_p3 _ (fun v4 M X hf => ih (by omega) v4 M X hf) v4 M X hf
