section
variable {F r : Nat} {M : zMi} {A : Pg}
theorem dF_le (A : Pg) : dF A ≤ 4 := by unfold dF; repeat' split
                                        all_goals omega
theorem dFi_eq (A : Pg) : dFi A = -9 ↔ dF A = 4 := by
  unfold dFi
  have h := dF_le A
  generalize dF A = q at *
  have h1 : q = 0 ∨ q = 1 ∨ q = 2 ∨ q = 3 ∨ q = 4 := by omega
  rcases h1 with rfl | rfl | rfl | rfl | rfl <;> decide
theorem wFl_up {k : Nat} {v : Int32} (h : wFl A) (h5 : k ≠ 5) (hk : k < 59 ∨ 91 ≤ k) : wFl (pU A k v) := by
  refine ⟨by rw [pU_n (by omega)]; exact h.1, fun s hs h6 j hj => ?_⟩
  rw [pU_n (by omega)] at h6
  rw [pU_n (by omega)]; exact h.2 s hs h6 j hj
theorem wFl_sh {s k : Nat} {v : Int32} (h : wFl A) (hs : s < 4) (hf : nI s < A 5) (hk : k < 8) : wFl (pU A (59 + 8 * s + k) v) := by
  refine ⟨by rw [pU_n (by omega)]; exact h.1, fun t ht h6 j hj => ?_⟩
  rw [pU_n (by omega)] at h6
  have : t ≠ s := fun e => h6 (e ▸ hf)
  rw [pU_n (by omega)]; exact h.2 t ht h6 j hj
theorem dF_c1 {s : Nat} (hs : s < 4) : dF (dCome1 s A) ≠ 4 := by
  unfold dF dCome1
  have : s = 0 ∨ s = 1 ∨ s = 2 ∨ s = 3 := by omega
  rcases this with rfl | rfl | rfl | rfl <;> simp [pU] <;> grind
theorem m_comeStop {n s : Nat} (hF : 5 ≤ F) (h : wFl A) (hd : dF A ≠ 4 ∨ A 7 = A 4) : f_X11_comeOn_2 F r (n + 1) (nI s) (pR M r A) = some (pR M r A) := by
  rw [f_X11_comeOn_2]
  simp only [m_front hF h, cal_s, m_isFin]
  have := dFi_eq A
  by_cases h1 : dF A = 4 <;> by_cases h2 : A 7 = A 4 <;> simp_all
theorem m_comeGo {n s : Nat} (hF : 5 ≤ F) (h : wFl A) (hs : s < 4) (hd : dF A = 4) (h7 : A 7 ≠ A 4) : f_X11_comeOn_2 F r (n + 1) (nI s) (pR M r A) = if nI s < A 5 then (if A (59 + 8 * s + 5) = 2 then f_X11_comeOn_2 F r n (nI (s + 1)) (pR M r (dCome1 s A)) else f_X11_comeOn_2 F r n (nI (s + 1)) (pR M r A)) else some (pR M r A) := by
  rw [f_X11_comeOn_2]
  have e := (dFi_eq A).mpr hd
  simp (disch := omega) only [m_front hF h, cal_s, m_isFin, m_shipAt, bnd_e, ad1, ad5, pR_s, inbN, ixN, grd_t, pR_w, pU_s, pU_n, e, if_neg h7]
  unfold dCome1
  by_cases h1 : A (59 + 8 * s + 5) = 2 <;> by_cases h2 : 0 < A 17 <;> simp only [h1, h2, ↓reduceIte]
theorem m_come (hF : 5 ≤ F) (h : wFl A) : f_X11_comeOn F r (pR M r A) = some (pR M r (dCome A)) := by
  unfold f_X11_comeOn dCome
  by_cases hd : dF A = 4 ∧ A 7 ≠ A 4
  · rw [if_pos hd]
    obtain ⟨hd, h7⟩ := hd
    obtain ⟨m, hm⟩ : ∃ m, F = m + 5 := ⟨F - 5, by omega⟩
    rw [show (0:Int32) = nI 0 from rfl]
    have a1 := wFl_a h (s := 1) (k := 5) (by decide)
    have a2 := wFl_a h (s := 2) (k := 5) (by decide)
    have a3 := wFl_a h (s := 3) (k := 5) (by decide)
    have c0 : nI 0 < A 5 := by rcases h.1 with h5 | h5 | h5 | h5 <;> rw [h5] <;> decide
    have c4 : ¬ nI 4 < A 5 := by rcases h.1 with h5 | h5 | h5 | h5 <;> rw [h5] <;> decide
    have c12 : nI 2 < A 5 → nI 1 < A 5 := by rcases h.1 with h5 | h5 | h5 | h5 <;> rw [h5] <;> decide
    have c23 : nI 3 < A 5 → nI 2 < A 5 := by rcases h.1 with h5 | h5 | h5 | h5 <;> rw [h5] <;> decide
    have g : ∀ s, s < 4 → nI s < A 5 → ∀ n j, f_X11_comeOn_2 F r (n + 1) (nI j) (pR M r (dCome1 s A)) = some (pR M r (dCome1 s A)) := fun s hs hf n j =>
      m_comeStop hF (wFl_up (wFl_sh h hs hf (by decide)) (by decide) (by decide)) (Or.inl (dF_c1 hs))
    have e4 : ∀ n, f_X11_comeOn_2 F r (n + 1) (nI 4) (pR M r A) = some (pR M r A) := fun n => by
      rw [f_X11_comeOn_2]; simp only [pR_s]; rw [if_neg c4]
    have hh : ∀ F', F' = F → f_X11_comeOn_2 F r F' (nI 0) (pR M r A) = some (pR M r (if A 64 = 2 then dCome1 0 A else if A 72 = 2 then dCome1 1 A else if A 80 = 2 then dCome1 2 A else if A 88 = 2 then dCome1 3 A else A)) := by
      intro F' hF'
      rw [hF', show F = m + 5 from hm]
      rw [show f_X11_comeOn_2 (m + 5) r = f_X11_comeOn_2 F r from by rw [hm]]
      rw [m_comeGo hF h (by decide) hd h7, if_pos c0, m_comeGo hF h (by decide) hd h7, m_comeGo hF h (by decide) hd h7, m_comeGo hF h (by decide) hd h7, e4, g 0 (by decide) c0]
      simp only [Nat.reduceAdd, Nat.reduceMul] at *
      by_cases b1 : nI 1 < A 5
      · rw [if_pos b1, g 1 (by decide) b1]
        by_cases b2 : nI 2 < A 5
        · rw [if_pos b2, g 2 (by decide) b2]
          by_cases b3 : nI 3 < A 5
          · rw [if_pos b3, g 3 (by decide) b3]; grind
          · rw [if_neg b3]; grind
        · rw [if_neg b2]; grind
      · rw [if_neg b1]; grind
    exact hh F rfl
  · rw [if_neg hd]
    obtain ⟨m, hm⟩ : ∃ m, F = m + 1 := ⟨F - 1, by omega⟩
    have hd' : dF A ≠ 4 ∨ A 7 = A 4 := by by_cases x : dF A = 4 <;> by_cases y : A 7 = A 4 <;> simp_all
    have k := m_comeStop (r := r) (M := M) (n := m) (s := 0) hF h hd'
    rw [← hm] at k
    exact k
end
