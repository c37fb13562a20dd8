section
variable {F a b K : Nat} {M N : zMi} {A : Pg}
/-- the same state at another place -/
theorem RC_eq (h : RC M b A) (hH : ∀ j, 5 ≤ j → j < 12 → N a j = M b j) (hL : ∀ j, j < 7 → N (a + 7) j = M (b + 7) j) (hW0 : N (a + 3) 0 = M (b + 3) 0) (hW : ∀ j, j < 30 → N (a + 4) j = M (b + 4) j) (hT : ∀ j, j < 7 → j ≠ 2 → N (a + 5) j = M (b + 5) j) (hR : ∀ j, j < 3 → N (a + 6) j = M (b + 6) j) (hZ : ∀ z, z < 9 → ∀ k, k < 4 → N (a + 8 + z) k = M (b + 8 + z) k) (hS : ∀ s, s < 4 → ∀ k, k < 8 → N (a + 17 + s) k = M (b + 17 + s) k) : RC N a A := by
  obtain ⟨h1, h2, h3, h4, h5, h6⟩ := h
  refine ⟨?_, ?_, ?_, ?_, ?_, ?_⟩
  · unfold rH; rw [hH 5 (by decide) (by decide), hH 6 (by decide) (by decide), hH 7 (by decide) (by decide), hH 8 (by decide) (by decide), hH 9 (by decide) (by decide), hH 10 (by decide) (by decide), hH 11 (by decide) (by decide)]; exact h1
  · unfold rL; rw [hL 0 (by decide), hL 1 (by decide), hL 2 (by decide), hL 3 (by decide), hL 4 (by decide), hL 5 (by decide), hL 6 (by decide)]; exact h2
  · exact ⟨hW0.trans h3.1, fun j hj hq => (hW j hj).trans (h3.2 j hj hq)⟩
  · obtain ⟨t1, t2, t3, t4, t5, t6, t7, r, n0, n1⟩ := h4
    unfold rT rRs
    rw [hT 0 (by decide) (by decide), hT 1 (by decide) (by decide), hT 5 (by decide) (by decide), hT 6 (by decide) (by decide), hT 3 (by decide) (by decide), hT 4 (by decide) (by decide), hR 0 (by decide), hR 1 (by decide), hR 2 (by decide)]
    refine ⟨t1, t2, t3, t4, t5, t6, fun x => ?_, fun i hi => by rw [hR i hi]; exact r i hi, n0, n1⟩
    obtain ⟨i, i1, i2, i3, i4⟩ := t7 x
    exact ⟨i, i1, i2, i3, by rw [hR i i1]; exact i4⟩
  · intro z hz hq k hk; exact (hZ z hz k hk).trans (h5 z hz hq k hk)
  · intro s hs k hk; exact (hS s hs k hk).trans (h6 s hs k hk)
theorem fr_o {q : Nat} (h : fr a M N) (hq : q < a ∨ a + 20 < q) : N q = M q := h q hq
theorem c_cpZones (hd : b + 20 < a ∨ a + 20 < b) {m : Nat} : ∃ N, f_X5_copyFrom_2 F a b (m + 10) (nI 0) M = f_X5_copyFrom_43 F a b F (nI 0) N ∧ (∀ q, (q < a + 8 ∨ a + 16 < q) → N q = M q) ∧ ∀ z, z < 9 → ∀ k, k < 4 → N (a + 8 + z) k = M (b + 8 + z) k := by
  have step : ∀ j, j ≤ 9 → ∃ N, f_X5_copyFrom_2 F a b (m + 10) (nI 0) M = f_X5_copyFrom_2 F a b (m + 10 - j) (nI j) N ∧ (∀ q, (q < a + 8 ∨ a + 16 < q) → N q = M q) ∧ ∀ z, z < j → ∀ k, k < 4 → N (a + 8 + z) k = M (b + 8 + z) k := by
    intro j
    induction j with
    | zero => intro _; exact ⟨M, rfl, fun _ _ => rfl, fun z hz => absurd hz (by omega)⟩
    | succ j ih =>
      intro hj
      obtain ⟨N, n1, n2, n3⟩ := ih (by omega)
      rw [n1, show m + 10 - j = (m + 10 - (j + 1)) + 1 from by omega, f_X5_copyFrom_2, if_pos (show nI j < 9 from nI_lt (b := 9) (by omega) (by decide)), if_pos (show nI j < 9 from nI_lt (b := 9) (by omega) (by decide)), inbN (by omega) (by decide), grd_t, bnd_e, grd_t, bnd_e, ixN (by omega), Nat.one_mul, show a + 1 + 7 + j = a + 8 + j from rfl, show b + 1 + 7 + j = b + 8 + j from rfl, ad1]
      unfold f_X9_copyFrom
      simp only [bnd_e, cal_s]
      refine ⟨_, rfl, fun q hq => ?_, fun z hz k hk => ?_⟩
      · rw [wI_ne (by omega), wI_ne (by omega), wI_ne (by omega), wI_ne (by omega)]; exact n2 q hq
      · have hb : ∀ y, N (b + 8 + j) y = M (b + 8 + j) y := fun y => by rw [n2 _ (by omega)]
        by_cases e : z = j
        · subst e
          have c : k = 0 ∨ k = 1 ∨ k = 2 ∨ k = 3 := by omega
          have hne : ∀ (N' : zMi) (i : Nat) (v : Int32), wI N' (a + 8 + z) i v (b + 8 + z) = N' (b + 8 + z) := fun N' i v => wI_ne (by omega)
          simp only [hne]
          rcases c with rfl | rfl | rfl | rfl <;> simp [wI, hb]
        · rw [wI_ne (by omega), wI_ne (by omega), wI_ne (by omega), wI_ne (by omega)]
          exact n3 z (by omega) k hk
  obtain ⟨N, n1, n2, n3⟩ := step 9 (by decide)
  have e : f_X5_copyFrom_2 F a b (m + 10 - 9) (nI 9) N = f_X5_copyFrom_43 F a b F (nI 0) N := by
    rw [show m + 10 - 9 = m + 1 from by omega, f_X5_copyFrom_2, if_neg (show ¬ nI 9 < (9 : Int32) by decide)]; rfl
  exact ⟨N, n1.trans e, n2, n3⟩
theorem c_cpShips (hd : b + 20 < a ∨ a + 20 < b) {m : Nat} : ∃ N, f_X5_copyFrom_43 F a b (m + 5) (nI 0) M = f_X5_copyFrom_82 F a b N ∧ (∀ q, (q < a + 17 ∨ a + 20 < q) → N q = M q) ∧ ∀ z, z < 4 → ∀ k, k < 8 → N (a + 17 + z) k = M (b + 17 + z) k := by
  have step : ∀ j, j ≤ 4 → ∃ N, f_X5_copyFrom_43 F a b (m + 5) (nI 0) M = f_X5_copyFrom_43 F a b (m + 5 - j) (nI j) N ∧ (∀ q, (q < a + 17 ∨ a + 20 < q) → N q = M q) ∧ ∀ z, z < j → ∀ k, k < 8 → N (a + 17 + z) k = M (b + 17 + z) k := by
    intro j
    induction j with
    | zero => intro _; exact ⟨M, rfl, fun _ _ => rfl, fun z hz => absurd hz (by omega)⟩
    | succ j ih =>
      intro hj
      obtain ⟨N, n1, n2, n3⟩ := ih (by omega)
      rw [n1, show m + 5 - j = (m + 5 - (j + 1)) + 1 from by omega, f_X5_copyFrom_43, if_pos (show nI j < 4 from nI_lt (b := 4) (by omega) (by decide)), if_pos (show nI j < 4 from nI_lt (b := 4) (by omega) (by decide)), inbN (by omega) (by decide), grd_t, bnd_e, grd_t, bnd_e, ixN (by omega), Nat.one_mul, show a + 2 + 15 + j = a + 17 + j from rfl, show b + 2 + 15 + j = b + 17 + j from rfl, ad1]
      unfold f_X3_copyFrom
      simp only [bnd_e, cal_s]
      refine ⟨_, rfl, fun q hq => ?_, fun z hz k hk => ?_⟩
      · rw [wI_ne (by omega), wI_ne (by omega), wI_ne (by omega), wI_ne (by omega), wI_ne (by omega), wI_ne (by omega), wI_ne (by omega), wI_ne (by omega)]; exact n2 q hq
      · have hb : ∀ y, N (b + 17 + j) y = M (b + 17 + j) y := fun y => by rw [n2 _ (by omega)]
        by_cases e : z = j
        · subst e
          have c : k = 0 ∨ k = 1 ∨ k = 2 ∨ k = 3 ∨ k = 4 ∨ k = 5 ∨ k = 6 ∨ k = 7 := by omega
          have hne : ∀ (N' : zMi) (i : Nat) (v : Int32), wI N' (a + 17 + z) i v (b + 17 + z) = N' (b + 17 + z) := fun N' i v => wI_ne (by omega)
          simp only [hne]
          rcases c with rfl | rfl | rfl | rfl | rfl | rfl | rfl | rfl <;> simp [wI, hb]
        · rw [wI_ne (by omega), wI_ne (by omega), wI_ne (by omega), wI_ne (by omega), wI_ne (by omega), wI_ne (by omega), wI_ne (by omega), wI_ne (by omega)]
          exact n3 z (by omega) k hk
  obtain ⟨N, n1, n2, n3⟩ := step 4 (by decide)
  have e : f_X5_copyFrom_43 F a b (m + 5 - 4) (nI 4) N = f_X5_copyFrom_82 F a b N := by
    rw [show m + 5 - 4 = m + 1 from by omega, f_X5_copyFrom_43, if_neg (show ¬ nI 4 < (4 : Int32) by decide)]
  exact ⟨N, n1.trans e, n2, n3⟩
theorem c_cpRow {m : Nat} {p q : Nat} (hd : p ≠ q) (hd2 : p + 1 ≠ q + 1) : ∃ N, f_X8_copyFrom_10 F p q (m + 31) (nI 0) M = some N ∧ (∀ x, x ≠ p + 1 → N x = M x) ∧ ∀ j, j < 30 → N (p + 1) j = M (q + 1) j := by
  have step : ∀ j, j ≤ 30 → ∃ N, f_X8_copyFrom_10 F p q (m + 31) (nI 0) M = f_X8_copyFrom_10 F p q (m + 31 - j) (nI j) N ∧ (∀ x, x ≠ p + 1 → N x = M x) ∧ ∀ z, z < j → N (p + 1) z = M (q + 1) z := by
    intro j
    induction j with
    | zero => intro _; exact ⟨M, rfl, fun _ _ => rfl, fun z hz => absurd hz (by omega)⟩
    | succ j ih =>
      intro hj
      obtain ⟨N, n1, n2, n3⟩ := ih (by omega)
      rw [n1, show m + 31 - j = (m + 31 - (j + 1)) + 1 from by omega, f_X8_copyFrom_10, if_pos (show nI j < 30 from nI_lt (b := 30) (by omega) (by decide)), if_pos (show nI j < 30 from nI_lt (b := 30) (by omega) (by decide)), inbN (by omega) (by decide), grd_t, grd_t, ixN (by omega), bnd_e, ad1]
      refine ⟨_, rfl, fun x hx => ?_, fun z hz => ?_⟩
      · rw [wI_ne hx]; exact n2 x hx
      · by_cases e : z = j
        · subst e; rw [← n2 (q + 1) (by omega)]; simp [wI]
        · rw [← n3 z (by omega)]; simp [wI, e]
  obtain ⟨N, n1, n2, n3⟩ := step 30 (by decide)
  have e : f_X8_copyFrom_10 F p q (m + 31 - 30) (nI 30) N = some N := by
    rw [show m + 31 - 30 = m + 1 from by omega, f_X8_copyFrom_10, if_neg (show ¬ nI 30 < (30 : Int32) by decide)]
  exact ⟨N, n1.trans e, n2, n3⟩
theorem c_cpRst {m : Nat} {p q : Nat} (hd : p + 1 ≠ q + 1) : ∃ N, f_X6_copyFrom_18 F p q (m + 4) (nI 0) M = f_X6_copyFrom_54 F p q N ∧ (∀ x, x ≠ p + 1 → N x = M x) ∧ ∀ j, j < 3 → N (p + 1) j = M (q + 1) j := by
  have step : ∀ j, j ≤ 3 → ∃ N, f_X6_copyFrom_18 F p q (m + 4) (nI 0) M = f_X6_copyFrom_18 F p q (m + 4 - j) (nI j) N ∧ (∀ x, x ≠ p + 1 → N x = M x) ∧ ∀ z, z < j → N (p + 1) z = M (q + 1) z := by
    intro j
    induction j with
    | zero => intro _; exact ⟨M, rfl, fun _ _ => rfl, fun z hz => absurd hz (by omega)⟩
    | succ j ih =>
      intro hj
      obtain ⟨N, n1, n2, n3⟩ := ih (by omega)
      rw [n1, show m + 4 - j = (m + 4 - (j + 1)) + 1 from by omega, f_X6_copyFrom_18, if_pos (show nI j < 3 from nI_lt (b := 3) (by omega) (by decide)), if_pos (show nI j < 3 from nI_lt (b := 3) (by omega) (by decide)), inbN (by omega) (by decide), grd_t, grd_t, ixN (by omega), bnd_e, ad1]
      refine ⟨_, rfl, fun x hx => ?_, fun z hz => ?_⟩
      · rw [wI_ne hx]; exact n2 x hx
      · by_cases e : z = j
        · subst e; rw [← n2 (q + 1) (by omega)]; simp [wI]
        · rw [← n3 z (by omega)]; simp [wI, e]
  obtain ⟨N, n1, n2, n3⟩ := step 3 (by decide)
  have e : f_X6_copyFrom_18 F p q (m + 4 - 3) (nI 3) N = f_X6_copyFrom_54 F p q N := by
    rw [show m + 4 - 3 = m + 1 from by omega, f_X6_copyFrom_18, if_neg (show ¬ nI 3 < (3 : Int32) by decide)]
  exact ⟨N, n1.trans e, n2, n3⟩
end
