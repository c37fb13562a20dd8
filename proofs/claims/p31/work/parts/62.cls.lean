section
variable {F a K : Nat} {M : zMi} {A : Pg}
theorem c_come1 (h : RC M a A) (h10 : A 10 = 0) {s : Nat} (hs : s < 4) : RC (wI (wI M (a + 17 + s) 5 3) (a + 5) 3 (if 0 < A 17 then 1 else 0)) a (dCome1 s A) := by
  have h1 := RC_sh Tu_T hs (k := 5) (v := 3) (by decide) h
  unfold dCome1
  refine RC_tm h1 (fun k x y z => pU_n (by omega)) (fun q x y => wI_ne x) ?_
  obtain ⟨t1, t2, t3, t4, t5, t6, t7, t8⟩ := h1.2.2.2.1
  generalize wI M (a + 17 + s) 5 3 = N at *
  rw [pU_n (by omega), h10] at t5 t6
  have t6 := t6 (by decide)
  rw [pU_n (by omega)] at t1 t2 t3 t4
  unfold rT
  rw [pU_n (by omega : 0 ≠ 10), pU_n (by omega : 1 ≠ 10), pU_n (by omega : 11 ≠ 10), pU_n (by omega : 12 ≠ 10), pU_s, pU_n (by omega : 0 ≠ 59 + 8 * s + 5), pU_n (by omega : 1 ≠ 59 + 8 * s + 5), pU_n (by omega : 11 ≠ 59 + 8 * s + 5), pU_n (by omega : 12 ≠ 59 + 8 * s + 5)]
  rw [wI_ne (by omega : a + 6 ≠ a + 5)]
  refine ⟨by simpa [wI] using t1, by simpa [wI] using t2, by simpa [wI] using t3, by simpa [wI] using t4, ?_, fun _ => by simpa [wI] using t6, fun x => ?_, rRs_u (by omega) t8⟩
  · by_cases q : 0 < A 17
    · simp only [q, ↓reduceIte, wI, and_self]
    · simp only [q, ↓reduceIte, wI, and_self, show (0 : Int32) ≠ 1 from by decide]
  · exfalso
    by_cases q : 0 < A 17
    · rw [if_pos q] at x; exact absurd x (by decide)
    · rw [if_neg q] at x; exact absurd x (by decide)
theorem c_comeStep {n s : Nat} (hs : s < 4) : f_X5_comeToFront_20 F a (n + 1) (nI s) M = if M (a + 17 + s) 5 = 2 then some (wI (wI M (a + 17 + s) 5 3) (a + 5) 3 (if 0 < M (a + 7) 1 then 1 else 0)) else f_X5_comeToFront_20 F a n (nI (s + 1)) M := by
  rw [f_X5_comeToFront_20]
  rw [if_pos (show nI s < 4 from nI_lt (b := 4) hs (by decide)), inbN hs (by decide), grd_t, bnd_e, ixN (by omega), Nat.one_mul, ad1, show a + 2 + 15 + s = a + 17 + s from rfl]
  simp only [bnd_e]
  rw [show wI M (a + 17 + s) 5 3 (a + 7) 1 = M (a + 7) 1 from by rw [wI_ne (by omega)]]
  by_cases k : 0 < M (a + 7) 1
  · rw [if_pos k, if_pos k]
  · rw [if_neg k, if_neg k]
theorem c_come (h : RC M a A) (h0 : dF A = 4 → A 10 = 0) (h7 : A 7 ≠ A 4) (hF : 5 ≤ F) : ∃ M', f_X5_comeToFront F a M = some M' ∧ fr a M M' ∧ RC M' a (dCome A) := by
  have hd := dFi_eq A
  unfold f_X5_comeToFront
  rw [c_front h hF, cal_s]
  unfold dCome
  by_cases hx : dF A = 4
  · have h10 := h0 hx
    rw [if_pos (hd.mpr hx), if_pos ⟨hx, h7⟩]
    have e0 : M (a + 17 + 0) 5 = A 64 := RC_s h (s := 0) (k := 5) (by decide) (by decide)
    have e1 : M (a + 17 + 1) 5 = A 72 := RC_s h (s := 1) (k := 5) (by decide) (by decide)
    have e2 : M (a + 17 + 2) 5 = A 80 := RC_s h (s := 2) (k := 5) (by decide) (by decide)
    have e3 : M (a + 17 + 3) 5 = A 88 := RC_s h (s := 3) (k := 5) (by decide) (by decide)
    have g : ∀ s, s < 4 → ∃ M', some (wI (wI M (a + 17 + s) 5 3) (a + 5) 3 (if 0 < A 17 then 1 else 0)) = some M' ∧ fr a M M' ∧ RC M' a (dCome1 s A) := fun s hs =>
      ⟨_, rfl, fr_t (fr_w (by omega)) (fr_w (by omega)), c_come1 h h10 hs⟩
    have hl : M (a + 7) 1 = A 17 := h.2.1.2.1
    have c4 : ¬ nI 4 < (4 : Int32) := by decide
    obtain ⟨m, hm⟩ : ∃ m, F = m + 5 := ⟨F - 5, by omega⟩
    have hh : ∀ F', F' = F → ∃ M', f_X5_comeToFront_20 F a F' (nI 0) M = some M' ∧ fr a M M' ∧ RC M' a (if A 64 = 2 then dCome1 0 A else if A 72 = 2 then dCome1 1 A else if A 80 = 2 then dCome1 2 A else if A 88 = 2 then dCome1 3 A else A) := by
      intro F' hF'
      rw [hF', show f_X5_comeToFront_20 F a F = f_X5_comeToFront_20 F a (m + 5) from by rw [← hm]]
      rw [c_comeStep (by decide), c_comeStep (by decide), c_comeStep (by decide), c_comeStep (by decide), e0, e1, e2, e3, hl]
      by_cases k0 : A 64 = 2
      · rw [if_pos k0, if_pos k0]; exact g 0 (by decide)
      · rw [if_neg k0, if_neg k0]
        by_cases k1 : A 72 = 2
        · rw [if_pos k1, if_pos k1]; exact g 1 (by decide)
        · rw [if_neg k1, if_neg k1]
          by_cases k2 : A 80 = 2
          · rw [if_pos k2, if_pos k2]; exact g 2 (by decide)
          · rw [if_neg k2, if_neg k2]
            by_cases k3 : A 88 = 2
            · rw [if_pos k3, if_pos k3]; exact g 3 (by decide)
            · rw [if_neg k3, if_neg k3, f_X5_comeToFront_20, if_neg c4]; exact ⟨_, rfl, fr_r, h⟩
    exact hh F rfl
  · rw [if_neg (fun x => hx (hd.mp x)), if_neg (fun x => hx x.1)]
    exact ⟨_, rfl, fr_r, h⟩
/-- the free teams, by the class's rests -/
theorem posA {x y z : Int32} (hx : x = 0 ∨ x = 1 ∨ x = 2) (hy : y = 0 ∨ y = 1 ∨ y = 2) (hz : z = 0 ∨ z = 1 ∨ z = 2) (v : Int32) : v - (if 0 < x then 1 else 0) - (if 0 < y then 1 else 0) - (if 0 < z then 1 else 0) = v - nI (3 - cq x y z 0) := by
  have e : ∀ p q r : Int32, v - p - q - r = v - (p + q + r) := fun p q r => by grind
  rw [e]
  congr 1
  rcases hx with rfl | rfl | rfl <;> rcases hy with rfl | rfl | rfl <;> rcases hz with rfl | rfl | rfl <;> decide
theorem free_R {R1 : Pg} (h : rRs R1 A) (ht : wTm A) (h10 : A 10 ≠ 2) : dFree A = 0 ↔ ¬ ((nI 0 < A 0 ∧ R1 0 = 0) ∨ (nI 1 < A 0 ∧ R1 1 = 0) ∨ (nI 2 < A 0 ∧ R1 2 = 0)) := by
  have b0 := (ht.2 0 (by decide)).1
  have b1 := (ht.2 1 (by decide)).1
  have b2 := (ht.2 2 (by decide)).1
  obtain ⟨r, n0, n1⟩ := h
  have r0 := r 0 (by decide)
  have r1 := r 1 (by decide)
  have r2 := r 2 (by decide)
  unfold dFree
  rw [if_neg h10, posA b0 b1 b2, ← n0]
  generalize R1 0 = x at *
  generalize R1 1 = y at *
  generalize R1 2 = z at *
  obtain ⟨r0, s0⟩ := r0
  obtain ⟨r1, s1⟩ := r1
  obtain ⟨r2, s2⟩ := r2
  rcases ht.1 with q | q | q <;> rw [q] at s0 s1 s2 ⊢ <;> clear b0 b1 b2 n0 n1 r ht h10 q
  · have s1 := s1 (by decide)
    have s2 := s2 (by decide)
    subst s1; subst s2
    rcases r0 with rfl | rfl | rfl <;> decide
  · have s2 := s2 (by decide)
    subst s2
    rcases r0 with rfl | rfl | rfl <;> rcases r1 with rfl | rfl | rfl <;> decide
  · rcases r0 with rfl | rfl | rfl <;> rcases r1 with rfl | rfl | rfl <;> rcases r2 with rfl | rfl | rfl <;> decide
end
