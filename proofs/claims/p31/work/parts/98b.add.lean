section
variable {F a b K : Nat} {M N : zMi} {A B P : Pg}
theorem pU_z {i : Nat} (h : A i = 0) : pU A i 0 = A := by
  have := pU_i (A := A) (i := i)
  rw [h] at this
  exact this
theorem c_build {q : Nat} {p1 p2 p3 p4 : Int32} : ∃ N, f_X3_build F q p1 p2 p3 p4 M = some N ∧ (∀ y, y ≠ q → N y = M y) ∧ N q 0 = p1 ∧ N q 1 = p2 ∧ N q 2 = p3 ∧ N q 3 = p4 ∧ ∀ k, 4 ≤ k → k < 8 → N q k = 0 := by
  unfold f_X3_build
  simp only [bnd_e]
  refine ⟨_, rfl, fun y hy => ?_, by simp [wI], by simp [wI], by simp [wI], by simp [wI], fun k k4 k8 => ?_⟩
  · rw [wI_ne hy, wI_ne hy, wI_ne hy, wI_ne hy, wI_ne hy, wI_ne hy, wI_ne hy, wI_ne hy]
  · have c : k = 4 ∨ k = 5 ∨ k = 6 ∨ k = 7 := by omega
    rcases c with rfl | rfl | rfl | rfl <;> simp [wI]
def bgTail (F : Nat) (p0 : Nat) (p1 p2 p3 : Int32) (M : zMi) : Option zMi := bnd (wI M (p0 + 3) 0 (0 : Int32)) (fun M1 => cal (f_X6_begin F (p0 + 5) p1 p2 M1) (fun r2 => cal (f_X1_begin F (p0 + 7) p3 r2) (fun r3 => bnd (wI r3 p0 7 p3) (fun M4 => bnd (wI M4 p0 8 (0 : Int32)) (fun M5 => bnd (wI M5 p0 9 (0 : Int32)) (fun M6 => bnd (wI M6 p0 10 (0 : Int32)) (fun M7 => bnd (wI M7 p0 11 (0 : Int32)) (fun M8 => some M8))))))))
theorem c_bgShips {m : Nat} {p1 p2 p3 : Int32} : ∃ N, f_X5_begin_24 F a p1 p2 p3 (m + 5) (nI 0) M = bgTail F a p1 p2 p3 N ∧ (∀ q, (q < a + 17 ∨ a + 20 < q) → N q = M q) ∧ ∀ z, z < 4 → ∀ k, k < 8 → N (a + 17 + z) k = 0 := by
  have step : ∀ j, j ≤ 4 → ∃ N, f_X5_begin_24 F a p1 p2 p3 (m + 5) (nI 0) M = f_X5_begin_24 F a p1 p2 p3 (m + 5 - j) (nI j) N ∧ (∀ q, (q < a + 17 ∨ a + 20 < q) → N q = M q) ∧ ∀ z, z < j → ∀ k, k < 8 → N (a + 17 + z) k = 0 := by
    intro j
    induction j with
    | zero => intro _; exact ⟨M, rfl, fun _ _ => rfl, fun z hz => absurd hz (by omega)⟩
    | succ j ih =>
      intro hj
      obtain ⟨N, n1, n2, n3⟩ := ih (by omega)
      obtain ⟨N1, b1, b2, b3, b4, b5, b6, b7⟩ := c_build (F := F) (M := N) (q := a + 17 + j) (p1 := 0) (p2 := 0) (p3 := 0) (p4 := 0)
      rw [n1, show m + 5 - j = (m + 5 - (j + 1)) + 1 from by omega, f_X5_begin_24, if_pos (show nI j < 4 from nI_lt (b := 4) (by omega) (by decide)), inbN (by omega) (by decide), grd_t, bnd_e, ixN (by omega), Nat.one_mul, show a + 2 + 15 + j = a + 17 + j from rfl, b1, cal_s, ad1]
      refine ⟨N1, rfl, fun q hq => by rw [b2 q (by omega)]; exact n2 q hq, fun z hz k hk => ?_⟩
      by_cases e : z = j
      · subst e
        have c : k = 0 ∨ k = 1 ∨ k = 2 ∨ k = 3 ∨ 4 ≤ k := by omega
        rcases c with rfl | rfl | rfl | rfl | c
        · exact b3
        · exact b4
        · exact b5
        · exact b6
        · exact b7 k c hk
      · rw [b2 _ (by omega)]; exact n3 z (by omega) k hk
  obtain ⟨N, n1, n2, n3⟩ := step 4 (by decide)
  have e : f_X5_begin_24 F a p1 p2 p3 (m + 5 - 4) (nI 4) N = bgTail F a p1 p2 p3 N := by
    rw [show m + 5 - 4 = m + 1 from by omega, f_X5_begin_24, if_neg (show ¬ nI 4 < (4 : Int32) by decide)]
    rfl
  exact ⟨N, n1.trans e, n2, n3⟩
theorem c_begT {p1 p2 : Int32} (hF : 4 ≤ F) : ∃ N, f_X6_begin F b p1 p2 M = some N ∧ (∀ x, x ≠ b → x ≠ b + 1 → N x = M x) ∧ N b 0 = p1 ∧ N b 1 = p2 ∧ N b 3 = 0 ∧ N b 4 = -9 ∧ N b 5 = 0 ∧ N b 6 = 0 ∧ ∀ j, j < 3 → N (b + 1) j = 0 := by
  obtain ⟨m, hm⟩ : ∃ m, F = m + 4 := ⟨F - 4, by omega⟩
  have loop : ∀ M : zMi, ∃ N, f_X6_begin_12 F b p1 p2 (m + 4) (nI 0) M = some (wI (wI (wI (wI N b 3 0) b 4 (-9)) b 5 0) b 6 0) ∧ (∀ x, x ≠ b + 1 → N x = M x) ∧ ∀ j, j < 3 → N (b + 1) j = 0 := by
    intro M
    rw [f_X6_begin_12, if_pos (show nI 0 < 3 by decide), inbN (by decide) (by decide), grd_t, bnd_e, ad1, f_X6_begin_12, if_pos (show nI (0 + 1) < 3 by decide), inbN (by decide) (by decide), grd_t, bnd_e, ad1, f_X6_begin_12, if_pos (show nI (0 + 1 + 1) < 3 by decide), inbN (by decide) (by decide), grd_t, bnd_e, ad1, f_X6_begin_12, if_neg (show ¬ nI (0 + 1 + 1 + 1) < 3 by decide), bnd_e, bnd_e, bnd_e, bnd_e, ixN (by decide), ixN (by decide), ixN (by decide)]
    refine ⟨_, rfl, fun x hx => by rw [wI_ne hx, wI_ne hx, wI_ne hx], fun j hj => ?_⟩
    have c : j = 0 ∨ j = 1 ∨ j = 2 := by omega
    rcases c with rfl | rfl | rfl <;> simp [wI]
  obtain ⟨N, n1, n2, n3⟩ := loop (wI (wI M b 0 p1) b 1 p2)
  rw [← hm] at n1
  unfold f_X6_begin
  rw [bnd_e, bnd_e, show (0 : Int32) = nI 0 from rfl, n1]
  have e0 : N b 0 = p1 := by rw [n2 _ (by omega)]; simp [wI]
  have e1 : N b 1 = p2 := by rw [n2 _ (by omega)]; simp [wI]
  refine ⟨_, rfl, fun x x0 x1 => by rw [wI_ne x0, wI_ne x0, wI_ne x0, wI_ne x0, n2 x x1, wI_ne x0, wI_ne x0], by simp [wI, e0], by simp [wI, e1], by simp [wI]; rfl, by simp [wI], by simp [wI]; rfl, by simp [wI]; rfl, fun j hj => by rw [wI_ne (by omega), wI_ne (by omega), wI_ne (by omega), wI_ne (by omega)]; exact n3 j hj⟩
theorem c_begL {p1 : Int32} : ∃ N, f_X1_begin F b p1 M = some N ∧ (∀ x, x ≠ b → N x = M x) ∧ N b 0 = p1 ∧ ∀ j, 1 ≤ j → j < 7 → N b j = 0 := by
  unfold f_X1_begin
  simp only [bnd_e]
  refine ⟨_, rfl, fun x p1 => ?_, by simp [wI], fun j j1 hj => ?_⟩
  · rw [wI_ne p1, wI_ne p1, wI_ne p1, wI_ne p1, wI_ne p1, wI_ne p1, wI_ne p1]
  · have c : j = 1 ∨ j = 2 ∨ j = 3 ∨ j = 4 ∨ j = 5 ∨ j = 6 := by omega
    rcases c with rfl | rfl | rfl | rfl | rfl | rfl <;> simp [wI]
/-- a state that is begun -/
theorem c_beginX {t d dep : Int32} (hF : 5 ≤ F) : ∃ N, f_X5_begin F a t d dep M = some N ∧ fr a M N ∧ ∀ B : Pg, B 0 = t → B 1 = d → B 2 = dep → B 16 = dep → (∀ k, k ≠ 0 → k ≠ 1 → k ≠ 2 → k ≠ 16 → k < 121 → B k = 0) → RC N a B := by
  obtain ⟨m, hm⟩ : ∃ m, F = m + 5 := ⟨F - 5, by omega⟩
  obtain ⟨N1, n1, n2, n3⟩ := c_bgShips (F := F) (a := a) (m := m) (p1 := t) (p2 := d) (p3 := dep) (M := wI (wI M a 5 0) a 6 0)
  rw [← hm] at n1
  obtain ⟨N2, t1, t2, t3, t4, t5, t6, t7, t8, t9⟩ := c_begT (F := F) (b := a + 5) (p1 := t) (p2 := d) (M := wI N1 (a + 3) 0 0) (by omega)
  obtain ⟨N3, l1, l2, l3, l4⟩ := c_begL (F := F) (b := a + 7) (p1 := dep) (M := N2)
  unfold f_X5_begin
  rw [bnd_e, bnd_e, show f_X5_begin_24 F a t d dep F (0 : Int32) (wI (wI M a 5 0) a 6 0) = f_X5_begin_24 F a t d dep F (nI 0) (wI (wI M a 5 0) a 6 0) from rfl, n1]
  unfold bgTail
  rw [bnd_e, t1, cal_s, l1, cal_s, bnd_e, bnd_e, bnd_e, bnd_e, bnd_e]
  generalize hN : wI (wI (wI (wI (wI N3 a 7 dep) a 8 0) a 9 0) a 10 0) a 11 0 = N
  have q0 : ∀ q, q ≠ a → N q = N3 q := fun q hq => by rw [← hN, wI_ne hq, wI_ne hq, wI_ne hq, wI_ne hq, wI_ne hq]
  have q7 : ∀ q, q ≠ a → q ≠ a + 7 → N q = N2 q := fun q h1 h2 => by rw [q0 q h1, l2 q h2]
  have q5 : ∀ q, q ≠ a → q ≠ a + 7 → q ≠ a + 5 → q ≠ a + 6 → N q = wI N1 (a + 3) 0 0 q := fun q h1 h2 h3 h4 => by rw [q7 q h1 h2, t2 q h3 h4]
  have qz : ∀ z, z < 4 → ∀ k, k < 8 → N (a + 17 + z) k = 0 := fun z hz k hk => by rw [q5 _ (by omega) (by omega) (by omega) (by omega), wI_ne (by omega)]; exact n3 z hz k hk
  have e3 : N3 a = wI (wI M a 5 0) a 6 0 a := by rw [l2 _ (by omega), t2 _ (by omega) (by omega), wI_ne (by omega), n2 _ (by omega)]
  refine ⟨N, rfl, fun q hq => ?_, fun B b0 b1 b2 b16 bz => ?_⟩
  · rw [q5 q (by omega) (by omega) (by omega) (by omega), wI_ne (by omega), n2 q (by omega), wI_ne (by omega), wI_ne (by omega)]
  · have z4 : B 4 = 0 := bz 4 (by decide) (by decide) (by decide) (by decide) (by decide)
    have z6 : B 6 = 0 := bz 6 (by decide) (by decide) (by decide) (by decide) (by decide)
    have z10 : B 10 = 0 := bz 10 (by decide) (by decide) (by decide) (by decide) (by decide)
    have z11 : B 11 = 0 := bz 11 (by decide) (by decide) (by decide) (by decide) (by decide)
    have z12 : B 12 = 0 := bz 12 (by decide) (by decide) (by decide) (by decide) (by decide)
    have z13 : B 13 = 0 := bz 13 (by decide) (by decide) (by decide) (by decide) (by decide)
    have z14 : B 14 = 0 := bz 14 (by decide) (by decide) (by decide) (by decide) (by decide)
    have z15 : B 15 = 0 := bz 15 (by decide) (by decide) (by decide) (by decide) (by decide)
    refine ⟨?_, ?_, ?_, ?_, ?_, ?_⟩
    · have z5 : B 5 = 0 := bz 5 (by decide) (by decide) (by decide) (by decide) (by decide)
      have z3 : B 3 = 0 := bz 3 (by decide) (by decide) (by decide) (by decide) (by decide)
      have z7 : B 7 = 0 := bz 7 (by decide) (by decide) (by decide) (by decide) (by decide)
      have z8 : B 8 = 0 := bz 8 (by decide) (by decide) (by decide) (by decide) (by decide)
      have z9 : B 9 = 0 := bz 9 (by decide) (by decide) (by decide) (by decide) (by decide)
      have e35 : N3 a 5 = 0 := by rw [e3]; simp [wI]
      have e36 : N3 a 6 = 0 := by rw [e3]; simp [wI]
      unfold rH
      rw [z4, z5, b2, z3, z7, z8, z9, ← hN]
      refine ⟨by simp [wI, e35], by simp [wI, e36], by simp [wI], by simp [wI], by simp [wI], by simp [wI], by simp [wI]⟩
    · rw [q0 _ (by omega)]
      unfold rL
      rw [b16, bz 17 (by decide) (by decide) (by decide) (by decide) (by decide), bz 18 (by decide) (by decide) (by decide) (by decide) (by decide), bz 19 (by decide) (by decide) (by decide) (by decide) (by decide), bz 20 (by decide) (by decide) (by decide) (by decide) (by decide), bz 21 (by decide) (by decide) (by decide) (by decide) (by decide), bz 22 (by decide) (by decide) (by decide) (by decide) (by decide)]
      exact ⟨l3, l4 1 (by decide) (by decide), l4 2 (by decide) (by decide), l4 3 (by decide) (by decide), l4 4 (by decide) (by decide), l4 5 (by decide) (by decide), l4 6 (by decide) (by decide)⟩
    · refine ⟨?_, fun j hj hq => ?_⟩
      · rw [q5 _ (by omega) (by omega) (by omega) (by omega), z6]; simp [wI]
      · rw [z6] at hq; exact absurd hq (nI_pos (by omega))
    · rw [q7 _ (by omega) (by omega), q7 _ (by omega) (by omega)]
      refine ⟨t3.trans b0.symm, t4.trans b1.symm, t7.trans z11.symm, t8.trans z12.symm, ?_, fun _ => t6, fun y => ?_, ?_⟩
      · rw [t5, z10]; rfl
      · rw [z10] at y; exact absurd y (by decide)
      · have r : ∀ i, i < 3 → N2 (a + 6) i = 0 := t9
        refine ⟨fun i hi => ⟨Or.inl (r i hi), fun _ => r i hi⟩, ?_, ?_⟩
        · rw [r 0 (by decide), r 1 (by decide), r 2 (by decide), z13, z14, z15]
        · rw [r 0 (by decide), r 1 (by decide), r 2 (by decide), z13, z14, z15]
    · intro z hz hq
      rw [z4] at hq; exact absurd hq (nI_pos (by omega))
    · intro s hs k hk
      show N (a + 17 + s) k = _
      rw [qz s hs k hk, bz _ (by omega) (by omega) (by omega) (by omega) (by omega)]
theorem RC_zc {zc : Nat} (h : RC M a A) (h4 : A 4 = nI zc) (hz : zc < 9) (hq : ∀ k, k < 4 → M (a + 8 + zc) k = A (23 + 4 * zc + k)) : RC (wI M a 5 (nI (zc + 1))) a (pU A 4 (nI (zc + 1))) := by
  obtain ⟨h1, h2, h3, h5, h6, h7⟩ := h
  refine ⟨?_, ?_, ?_, ?_, ?_, ?_⟩
  · unfold rH wI pU at *
    obtain ⟨a1, a2, a3, a4, a5, a6, a7⟩ := h1
    simp_all
  · rw [wI_ne (by omega)]; exact rL_u (by omega) h2
  · rw [wI_ne (by omega), wI_ne (by omega)]; exact rW_u (by omega) h3
  · rw [wI_ne (by omega), wI_ne (by omega)]; exact rT_u (by omega) h5
  · intro t ht hlt k hk
    rw [pU_s] at hlt
    have hlt := (nI_ltI (by omega) (by omega)).mp hlt
    rw [pU_n (by omega)]
    show wI M a 5 (nI (zc + 1)) (a + 8 + t) k = _
    rw [wI_ne (by omega)]
    by_cases e : t = zc
    · subst e; exact hq k hk
    · exact h6 t ht (by rw [h4]; exact nI_lt (by omega) (by omega)) k hk
  · exact rS_u (by omega) (fun s hs => wI_ne (by omega)) h7
theorem RC_sc {v : Int32} (h : RC M a A) : RC (wI M a 6 v) a (pU A 5 v) := by
  obtain ⟨h1, h2, h3, h5, h6, h7⟩ := h
  refine ⟨?_, ?_, ?_, ?_, ?_, ?_⟩
  · unfold rH wI pU at *
    obtain ⟨a1, a2, a3, a4, a5, a6, a7⟩ := h1
    simp_all
  · rw [wI_ne (by omega)]; exact rL_u (by omega) h2
  · rw [wI_ne (by omega), wI_ne (by omega)]; exact rW_u (by omega) h3
  · rw [wI_ne (by omega), wI_ne (by omega)]; exact rT_u (by omega) h5
  · exact rZ_u (by omega) (fun s hs => wI_ne (by omega)) h6
  · exact rS_u (by omega) (fun s hs => wI_ne (by omega)) h7
theorem RC_wc {wc : Nat} (h : RC M a A) (h6 : A 6 = nI wc) (hw : wc < 30) (hq : M (a + 4) wc = A (91 + wc)) : RC (wI M (a + 3) 0 (nI (wc + 1))) a (pU A 6 (nI (wc + 1))) := by
  obtain ⟨h1, h2, h3, h5, h7, h8⟩ := h
  refine ⟨?_, ?_, ?_, ?_, ?_, ?_⟩
  · rw [wI_ne (by omega)]
    unfold rH pU at *
    obtain ⟨a1, a2, a3, a4, a5, a6, a7⟩ := h1
    simp_all
  · rw [wI_ne (by omega)]; exact rL_u (by omega) h2
  · refine ⟨by rw [pU_s]; simp [wI], fun j hj hlt => ?_⟩
    rw [pU_s] at hlt
    have hlt := (nI_ltI (by omega) (by omega)).mp hlt
    rw [wI_ne (by omega), pU_n (by omega)]
    by_cases e : j = wc
    · subst e; exact hq
    · exact h3.2 j hj (by rw [h6]; exact nI_lt (by omega) (by omega))
  · rw [wI_ne (by omega), wI_ne (by omega)]; exact rT_u (by omega) h5
  · exact rZ_u (by omega) (fun s hs => wI_ne (by omega)) h7
  · exact rS_u (by omega) (fun s hs => wI_ne (by omega)) h8
theorem c_addZ {zc : Nat} {v0 v1 v2 v3 : Int32} (h : RC M a A) (h4 : A 4 = nI zc) (hz : zc < 9) : ∃ N, f_X5_addZone F a v0 v1 v2 v3 M = some N ∧ fr a M N ∧ RC N a (pU (pU (pU (pU (pU A (23 + 4 * zc) v0) (23 + 4 * zc + 1) v1) (23 + 4 * zc + 2) v2) (23 + 4 * zc + 3) v3) 4 (nI (zc + 1))) := by
  have e5 : M a 5 = nI zc := h.1.1.trans h4
  have k0 : RC (wI M (a + 8 + zc) 0 v0) a (pU A (23 + 4 * zc) v0) := RC_zn Tu_T hz (k := 0) (by decide) h
  have k1 := RC_zn Tu_T hz (k := 1) (v := v1) (by decide) k0
  have k2 := RC_zn Tu_T hz (k := 2) (v := v2) (by decide) k1
  have k3 := RC_zn Tu_T hz (k := 3) (v := v3) (by decide) k2
  have eM : wI (wI (wI (wI M (a + 8 + zc) 0 v0) (a + 8 + zc) 1 v1) (a + 8 + zc) 2 v2) (a + 8 + zc) 3 v3 a 5 = nI zc := by
    rw [wI_ne (by omega), wI_ne (by omega), wI_ne (by omega), wI_ne (by omega)]; exact e5
  unfold f_X5_addZone
  rw [e5, if_neg (nI_pos (by omega)), if_pos (show nI zc < 9 from nI_lt (b := 9) hz (by decide)), inbN hz (by decide), grd_t, ixN (by omega), Nat.one_mul, show a + 1 + 7 + zc = a + 8 + zc from rfl, bnd_e, bnd_e, bnd_e, bnd_e, bnd_e, eM, ad1, bnd_e]
  refine ⟨_, rfl, fr_t (fr_t (fr_t (fr_t (fr_w (by omega)) (fr_w (by omega))) (fr_w (by omega))) (fr_w (by omega))) (fr_w (by omega)), RC_zc k3 ?_ hz (fun k hk => ?_)⟩
  · rw [pU_n (by omega), pU_n (by omega), pU_n (by omega), pU_n (by omega)]; exact h4
  · have c : k = 0 ∨ k = 1 ∨ k = 2 ∨ k = 3 := by omega
    rcases c with rfl | rfl | rfl | rfl <;> simp [wI, pU]
theorem c_addS {sc : Nat} {v0 v1 v2 v3 : Int32} (h : RC M a A) (h5 : A 5 = nI sc) (hs : sc < 4) (hz : ∀ k, 4 ≤ k → k < 8 → A (59 + 8 * sc + k) = 0) : ∃ N, f_X5_addShip F a v0 v1 v2 v3 M = some N ∧ fr a M N ∧ RC N a (pU (pU (pU (pU (pU A (59 + 8 * sc) v0) (59 + 8 * sc + 1) v1) (59 + 8 * sc + 2) v2) (59 + 8 * sc + 3) v3) 5 (nI (sc + 1))) := by
  have e6 : M a 6 = nI sc := h.1.2.1.trans h5
  have k0 : RC (wI M (a + 17 + sc) 0 v0) a (pU A (59 + 8 * sc) v0) := RC_sh Tu_T hs (k := 0) (by decide) h
  have k1 := RC_sh Tu_T hs (k := 1) (v := v1) (by decide) k0
  have k2 := RC_sh Tu_T hs (k := 2) (v := v2) (by decide) k1
  have k3 := RC_sh Tu_T hs (k := 3) (v := v3) (by decide) k2
  have k4 := RC_sh Tu_T hs (k := 4) (v := 0) (by decide) k3
  have k5 := RC_sh Tu_T hs (k := 5) (v := 0) (by decide) k4
  have k6 := RC_sh Tu_T hs (k := 6) (v := 0) (by decide) k5
  have k7 := RC_sh Tu_T hs (k := 7) (v := 0) (by decide) k6
  have zz : ∀ k, 4 ≤ k → k < 8 → pU (pU (pU (pU A (59 + 8 * sc) v0) (59 + 8 * sc + 1) v1) (59 + 8 * sc + 2) v2) (59 + 8 * sc + 3) v3 (59 + 8 * sc + k) = 0 := fun k k4 k8 => by
    rw [pU_n (by omega), pU_n (by omega), pU_n (by omega), pU_n (by omega)]; exact hz k k4 k8
  rw [pU_z (zz 4 (by decide) (by decide)), pU_z (zz 5 (by decide) (by decide)), pU_z (zz 6 (by decide) (by decide)), pU_z (zz 7 (by decide) (by decide))] at k7
  generalize hN : wI (wI (wI (wI (wI (wI (wI (wI M (a + 17 + sc) 0 v0) (a + 17 + sc) 1 v1) (a + 17 + sc) 2 v2) (a + 17 + sc) 3 v3) (a + 17 + sc) 4 0) (a + 17 + sc) 5 0) (a + 17 + sc) 6 0) (a + 17 + sc) 7 0 = N at k7
  have fN : fr a M N := by rw [← hN]; exact fun q hq => by rw [wI_ne (by omega), wI_ne (by omega), wI_ne (by omega), wI_ne (by omega), wI_ne (by omega), wI_ne (by omega), wI_ne (by omega), wI_ne (by omega)]
  have eM : N a 6 = nI sc := by rw [← hN, wI_ne (by omega), wI_ne (by omega), wI_ne (by omega), wI_ne (by omega), wI_ne (by omega), wI_ne (by omega), wI_ne (by omega), wI_ne (by omega)]; exact e6
  unfold f_X5_addShip f_X3_build
  rw [e6, if_neg (nI_pos (by omega)), if_pos (show nI sc < 4 from nI_lt (b := 4) hs (by decide)), inbN hs (by decide), grd_t, ixN (by omega), Nat.one_mul, show a + 2 + 15 + sc = a + 17 + sc from rfl, bnd_e, bnd_e, bnd_e, bnd_e, bnd_e, bnd_e, bnd_e, bnd_e, bnd_e, cal_s, hN, eM, ad1, bnd_e]
  exact ⟨_, rfl, fr_t fN (fr_w (by omega)), RC_sc k7⟩
theorem c_addW {wc : Nat} {v : Int32} (h : RC M a A) (h6 : A 6 = nI wc) (hw : wc < 30) : ∃ N, f_X8_add F (a + 3) v M = some N ∧ fr a M N ∧ RC N a (pU (pU A (91 + wc) v) 6 (nI (wc + 1))) := by
  have e0 : M (a + 3) 0 = nI wc := h.2.2.1.1.trans h6
  have k0 := RC_wv Tu_T hw (v := v) h
  have eM : wI M (a + 4) wc v (a + 3) 0 = nI wc := by rw [wI_ne (by omega)]; exact e0
  unfold f_X8_add
  rw [e0, if_neg (nI_pos (by omega)), if_pos (show nI wc < 30 from nI_lt (b := 30) hw (by decide)), inbN hw (by decide), grd_t, ixN (by omega), show a + 3 + 1 = a + 4 from rfl, bnd_e, eM, ad1, bnd_e]
  refine ⟨_, rfl, fr_t (fr_w (by omega)) (fr_w (by omega)), RC_wc k0 (by rw [pU_n (by omega)]; exact h6) hw (by simp [wI, pU])⟩
/-- they always end -/
theorem c_addZt {v0 v1 v2 v3 : Int32} : ∃ N, f_X5_addZone F a v0 v1 v2 v3 M = some N ∧ fr a M N := by
  unfold f_X5_addZone
  by_cases c : M a 5 < 0
  · rw [if_pos c]; exact ⟨M, rfl, fr_r⟩
  · rw [if_neg c]
    by_cases c2 : M a 5 < 9
    · obtain ⟨j, hj, e⟩ := nI_of c
      rw [e] at c2
      have j9 := (nI_ltI (a := j) (b := 9) hj (by decide)).mp c2
      rw [e, if_pos c2, inbN j9 (by decide), grd_t, ixN (by omega), bnd_e, bnd_e, bnd_e, bnd_e, bnd_e, bnd_e]
      exact ⟨_, rfl, fr_t (fr_t (fr_t (fr_t (fr_w (by omega)) (fr_w (by omega))) (fr_w (by omega))) (fr_w (by omega))) (fr_w (by omega))⟩
    · rw [if_neg c2]; exact ⟨M, rfl, fr_r⟩
theorem c_addSt {v0 v1 v2 v3 : Int32} : ∃ N, f_X5_addShip F a v0 v1 v2 v3 M = some N ∧ fr a M N := by
  unfold f_X5_addShip
  by_cases c : M a 6 < 0
  · rw [if_pos c]; exact ⟨M, rfl, fr_r⟩
  · rw [if_neg c]
    by_cases c2 : M a 6 < 4
    · obtain ⟨j, hj, e⟩ := nI_of c
      rw [e] at c2
      have j9 := (nI_ltI (a := j) (b := 4) hj (by decide)).mp c2
      obtain ⟨N1, b1, b2, -⟩ := c_build (F := F) (M := M) (q := a + 2 + 15 + 1 * j) (p1 := v0) (p2 := v1) (p3 := v2) (p4 := v3)
      rw [e, if_pos c2, inbN j9 (by decide), grd_t, ixN (by omega), bnd_e, b1, cal_s, bnd_e]
      exact ⟨_, rfl, fr_t (fun q hq => b2 q (by omega)) (fr_w (by omega))⟩
    · rw [if_neg c2]; exact ⟨M, rfl, fr_r⟩
theorem c_addWt {v : Int32} : ∃ N, f_X8_add F (a + 3) v M = some N ∧ fr a M N := by
  unfold f_X8_add
  by_cases c : M (a + 3) 0 < 0
  · rw [if_pos c]; exact ⟨M, rfl, fr_r⟩
  · rw [if_neg c]
    by_cases c2 : M (a + 3) 0 < 30
    · obtain ⟨j, hj, e⟩ := nI_of c
      rw [e] at c2
      have j9 := (nI_ltI (a := j) (b := 30) hj (by decide)).mp c2
      rw [e, if_pos c2, inbN j9 (by decide), grd_t, ixN (by omega), bnd_e, bnd_e]
      exact ⟨_, rfl, fr_t (fr_w (by omega)) (fr_w (by omega))⟩
    · rw [if_neg c2]; exact ⟨M, rfl, fr_r⟩
end
