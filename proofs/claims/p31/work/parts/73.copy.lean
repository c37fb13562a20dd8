section
variable {F a b K : Nat} {M N : zMi} {A : Pg}
theorem c_cpW (hF : 31 ≤ F) (hd : b + 20 < a ∨ a + 20 < b) : ∃ N, f_X8_copyFrom F (a + 3) (b + 3) M = some N ∧ (∀ x, x ≠ a + 3 → x ≠ a + 4 → N x = M x) ∧ N (a + 3) 0 = M (b + 3) 0 ∧ ∀ j, j < 30 → N (a + 4) j = M (b + 4) j := by
  obtain ⟨m, hm⟩ : ∃ m, F = m + 31 := ⟨F - 31, by omega⟩
  obtain ⟨N, n1, n2, n3⟩ := c_cpRow (F := F) (M := wI M (a + 3) 0 (M (b + 3) 0)) (m := m) (p := a + 3) (q := b + 3) (by omega) (by omega)
  rw [← hm] at n1
  unfold f_X8_copyFrom
  rw [bnd_e]
  refine ⟨N, n1, fun x h1 h2 => ?_, ?_, fun j hj => ?_⟩
  · rw [n2 x h2, wI_ne h1]
  · rw [n2 (a + 3) (by omega)]; simp [wI]
  · exact (n3 j hj).trans (by rw [wI_ne (by omega)])
theorem c_cpT (hF : 4 ≤ F) (hd : b + 20 < a ∨ a + 20 < b) (hz : zb (M (b + 5) 3) = true) : ∃ N, f_X6_copyFrom F (a + 5) (b + 5) M = some N ∧ (∀ x, x ≠ a + 5 → x ≠ a + 6 → N x = M x) ∧ (∀ j, j < 7 → j ≠ 2 → N (a + 5) j = M (b + 5) j) ∧ ∀ j, j < 3 → N (a + 6) j = M (b + 6) j := by
  obtain ⟨m, hm⟩ : ∃ m, F = m + 4 := ⟨F - 4, by omega⟩
  unfold f_X6_copyFrom
  simp only [bnd_e]
  rw [show wI M (a + 5) 0 (M (b + 5) 0) (b + 5) 1 = M (b + 5) 1 from by rw [wI_ne (by omega)]]
  obtain ⟨N, n1, n2, n3⟩ := c_cpRst (F := F) (M := wI (wI M (a + 5) 0 (M (b + 5) 0)) (a + 5) 1 (M (b + 5) 1)) (m := m) (p := a + 5) (q := b + 5) (by omega)
  rw [← hm] at n1
  rw [show (0 : Int32) = nI 0 from rfl, n1]
  have hb : ∀ y, N (b + 5) y = M (b + 5) y := fun y => by rw [n2 _ (by omega), wI_ne (by omega), wI_ne (by omega)]
  have hne : ∀ (N' : zMi) (i : Nat) (v : Int32), wI N' (a + 5) i v (b + 5) = N' (b + 5) := fun N' i v => wI_ne (by omega)
  have ha : ∀ y, y ≠ 0 → y ≠ 1 → N (a + 5) y = M (a + 5) y := fun y h0 h1 => by rw [n2 _ (by omega)]; simp [wI, h0, h1]
  have h0 : N (a + 5) 0 = M (b + 5) 0 := by rw [n2 _ (by omega)]; simp [wI]
  have h1 : N (a + 5) 1 = M (b + 5) 1 := by rw [n2 _ (by omega)]; simp [wI]
  unfold f_X6_copyFrom_54
  rw [hb, hz, grd_t]
  simp only [bnd_e, hne, hb]
  refine ⟨_, rfl, fun x p1 p2 => ?_, fun j hj hj2 => ?_, fun j hj => ?_⟩
  · rw [wI_ne p1, wI_ne p1, wI_ne p1, wI_ne p1, n2 x p2, wI_ne p1, wI_ne p1]
  · have c : j = 0 ∨ j = 1 ∨ j = 3 ∨ j = 4 ∨ j = 5 ∨ j = 6 := by omega
    rcases c with rfl | rfl | rfl | rfl | rfl | rfl <;> simp [wI, h0, h1]
  · rw [wI_ne (by omega), wI_ne (by omega), wI_ne (by omega), wI_ne (by omega)]
    exact (n3 j hj).trans (by rw [wI_ne (by omega), wI_ne (by omega)])
theorem c_cpL (hd : b + 20 < a ∨ a + 20 < b) : ∃ N, f_X1_copyFrom F (a + 7) (b + 7) M = some N ∧ (∀ x, x ≠ a + 7 → N x = M x) ∧ ∀ j, j < 7 → N (a + 7) j = M (b + 7) j := by
  have hne : ∀ (N' : zMi) (i : Nat) (v : Int32), wI N' (a + 7) i v (b + 7) = N' (b + 7) := fun N' i v => wI_ne (by omega)
  unfold f_X1_copyFrom
  simp only [bnd_e, hne]
  refine ⟨_, rfl, fun x p1 => ?_, fun j hj => ?_⟩
  · rw [wI_ne p1, wI_ne p1, wI_ne p1, wI_ne p1, wI_ne p1, wI_ne p1, wI_ne p1]
  · have c : j = 0 ∨ j = 1 ∨ j = 2 ∨ j = 3 ∨ j = 4 ∨ j = 5 ∨ j = 6 := by omega
    rcases c with rfl | rfl | rfl | rfl | rfl | rfl | rfl <;> simp [wI]
/-- a state copied: the same page -/
theorem c_copy (hF : 31 ≤ F) (hd : b + 20 < a ∨ a + 20 < b) (h : RC M b A) : ∃ N, f_X5_copyFrom F a b M = some N ∧ fr a M N ∧ RC N a A := by
  obtain ⟨m1, hm1⟩ : ∃ m, F = m + 10 := ⟨F - 10, by omega⟩
  obtain ⟨m2, hm2⟩ : ∃ m, F = m + 5 := ⟨F - 5, by omega⟩
  obtain ⟨N1, a1, b1, c1⟩ := c_cpZones (F := F) (M := M) hd (m := m1)
  obtain ⟨N2, a2, b2, c2⟩ := c_cpShips (F := F) (M := N1) hd (m := m2)
  rw [← hm1] at a1
  rw [← hm2] at a2
  obtain ⟨N3, a3, b3, d3, c3⟩ := c_cpW (F := F) (M := N2) hF hd
  have q2 : ∀ x, (x < a + 8 ∨ a + 20 < x) → N2 x = M x := fun x hx => by rw [b2 x (by omega), b1 x (by omega)]
  have q3 : ∀ x, x ≠ a + 3 → x ≠ a + 4 → (x < a + 8 ∨ a + 20 < x) → N3 x = M x := fun x p1 p2 p3 => by rw [b3 x p1 p2, q2 x p3]
  have hz : zb (N3 (b + 5) 3) = true := by
    rw [q3 _ (by omega) (by omega) (by omega), h.2.2.2.1.2.2.2.2.1]
    split <;> decide
  obtain ⟨N4, a4, b4, d4, c4⟩ := c_cpT (F := F) (M := N3) (by omega) hd hz
  obtain ⟨N5, a5, b5, c5⟩ := c_cpL (F := F) (M := N4) hd
  have hne : ∀ (N' : zMi) (i : Nat) (v : Int32), wI N' a i v b = N' b := fun N' i v => wI_ne (by omega)
  unfold f_X5_copyFrom
  rw [show (0 : Int32) = nI 0 from rfl, a1, a2]
  unfold f_X5_copyFrom_82
  rw [a3, cal_s, a4, cal_s, a5, cal_s]
  simp only [bnd_e, hne]
  have e5 : ∀ x, x ≠ a + 7 → x ≠ a + 5 → x ≠ a + 6 → N5 x = N3 x := fun x p1 p2 p3 => by rw [b5 x p1, b4 x p2 p3]
  have q5 : ∀ x, (x < a + 3 ∨ a + 20 < x) → N5 x = M x := fun x hx => by rw [e5 x (by omega) (by omega) (by omega), q3 x (by omega) (by omega) (by omega)]
  refine ⟨_, rfl, fun x hx => ?_, ?_⟩
  · rw [wI_ne (by omega), wI_ne (by omega), wI_ne (by omega), wI_ne (by omega), wI_ne (by omega), wI_ne (by omega), wI_ne (by omega)]
    exact q5 x (by omega)
  · have hx : ∀ (x j : Nat) (w5 w6 w7 w8 w9 w10 w11 : Int32), x ≠ a → wI (wI (wI (wI (wI (wI (wI N5 a 5 w5) a 6 w6) a 7 w7) a 8 w8) a 9 w9) a 10 w10) a 11 w11 x j = N5 x j := fun x j _ _ _ _ _ _ _ p => by
      rw [wI_ne p, wI_ne p, wI_ne p, wI_ne p, wI_ne p, wI_ne p, wI_ne p]
    refine RC_eq h (fun j h1 h2 => ?_) (fun j hj => ?_) ?_ (fun j hj => ?_) (fun j hj hj2 => ?_) (fun j hj => ?_) (fun z hz k hk => ?_) (fun s hs k hk => ?_)
    · have eb : ∀ y, N5 b y = M b y := fun y => by rw [q5 b (by omega)]
      have c : j = 5 ∨ j = 6 ∨ j = 7 ∨ j = 8 ∨ j = 9 ∨ j = 10 ∨ j = 11 := by omega
      rcases c with rfl | rfl | rfl | rfl | rfl | rfl | rfl <;> simp [wI, eb]
    · rw [hx _ _ _ _ _ _ _ _ _ (by omega), c5 j hj, b4 _ (by omega) (by omega), q3 _ (by omega) (by omega) (by omega)]
    · rw [hx _ _ _ _ _ _ _ _ _ (by omega), e5 _ (by omega) (by omega) (by omega), d3, q2 _ (by omega)]
    · rw [hx _ _ _ _ _ _ _ _ _ (by omega), e5 _ (by omega) (by omega) (by omega), c3 j hj, q2 _ (by omega)]
    · rw [hx _ _ _ _ _ _ _ _ _ (by omega), b5 _ (by omega), d4 j hj hj2, q3 _ (by omega) (by omega) (by omega)]
    · rw [hx _ _ _ _ _ _ _ _ _ (by omega), b5 _ (by omega), c4 j hj, q3 _ (by omega) (by omega) (by omega)]
    · rw [hx _ _ _ _ _ _ _ _ _ (by omega), e5 _ (by omega) (by omega) (by omega), b3 _ (by omega) (by omega), b2 _ (by omega)]
      exact c1 z hz k hk
    · rw [hx _ _ _ _ _ _ _ _ _ (by omega), e5 _ (by omega) (by omega) (by omega), b3 _ (by omega) (by omega), c2 s hs k hk, b1 _ (by omega)]
end
