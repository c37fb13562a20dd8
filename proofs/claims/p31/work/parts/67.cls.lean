section
variable {F a b K : Nat} {M : zMi} {A B C : Pg} {R1 : Pg}
def dc (x : Int32) : Int32 := if 0 < x then x - 1 else x
def dcR (R : Pg) : Pg := pU (pU (pU R 0 (dc (R 0))) 1 (dc (R 1))) 2 (dc (R 2))
theorem c_rstStep {n i : Nat} (hi : i < 3) : f_X6_restOneDay_2 F b (n + 1) (nI i) M = f_X6_restOneDay_2 F b n (nI (i + 1)) (wI M (b + 1) i (dc (M (b + 1) i))) := by
  rw [f_X6_restOneDay_2, if_pos (show nI i < 3 from nI_lt (b := 3) hi (by decide)), inbN hi (by decide), grd_t, grd_t, grd_t, ixN (by omega), bnd_e, ad1]
  unfold dc
  by_cases k : 0 < M (b + 1) i
  · rw [if_pos k, if_pos k]
  · rw [if_neg k, if_neg k]
    rw [show wI M (b + 1) i (M (b + 1) i) = M from by funext q j; unfold wI; split <;> simp_all]
theorem c_rst (hF : 4 ≤ F) : ∃ M', f_X6_restOneDay F b M = some M' ∧ (∀ q, q ≠ b + 1 → M' q = M q) ∧ M' (b + 1) = dcR (M (b + 1)) := by
  obtain ⟨m, hm⟩ : ∃ m, F = m + 4 := ⟨F - 4, by omega⟩
  have hh : ∀ F', F' = F → ∃ M', f_X6_restOneDay_2 F b F' (nI 0) M = some M' ∧ (∀ q, q ≠ b + 1 → M' q = M q) ∧ M' (b + 1) = dcR (M (b + 1)) := by
    intro F' hF'
    rw [hF', show f_X6_restOneDay_2 F b F = f_X6_restOneDay_2 F b (m + 4) from by rw [← hm]]
    rw [c_rstStep (by decide), c_rstStep (by decide), c_rstStep (by decide), f_X6_restOneDay_2, if_neg (show ¬ nI (0 + 1 + 1 + 1) < (3 : Int32) by decide)]
    refine ⟨_, rfl, fun q hq => by rw [wI_ne hq, wI_ne hq, wI_ne hq], ?_⟩
    funext j
    unfold dcR pU wI
    simp
  exact hh F rfl
theorem cq_dc {x y z : Int32} (hx : x = 0 ∨ x = 1 ∨ x = 2) (hy : y = 0 ∨ y = 1 ∨ y = 2) (hz : z = 0 ∨ z = 1 ∨ z = 2) : cq (dc x) (dc y) (dc z) 0 = cq x y z 0 + cq x y z 1 ∧ cq (dc x) (dc y) (dc z) 1 = 3 - cq x y z 0 - cq x y z 1 := by
  rcases hx with rfl | rfl | rfl <;> rcases hy with rfl | rfl | rfl <;> rcases hz with rfl | rfl | rfl <;> decide
theorem dc_r {x : Int32} (hx : x = 0 ∨ x = 1 ∨ x = 2) : dc x = 0 ∨ dc x = 1 ∨ dc x = 2 := by rcases hx with rfl | rfl | rfl <;> decide
theorem dRest_v {t : Nat} (ht : t < 3) : dRest A (13 + t) = dc (A (13 + t)) := by
  have c : t = 0 ∨ t = 1 ∨ t = 2 := by omega
  unfold dRest dc
  rcases c with rfl | rfl | rfl
  · rw [dRest1_n (by decide), dRest1_n (by decide)]; unfold dRest1; exact pU_s
  · rw [dRest1_n (by decide)]
    refine Eq.trans (b := if 0 < dRest1 0 A (13 + 1) then dRest1 0 A (13 + 1) - 1 else dRest1 0 A (13 + 1)) ?_ (by rw [dRest1_n (by decide)])
    generalize dRest1 0 A = C
    unfold dRest1; exact pU_s
  · have z : dRest1 1 (dRest1 0 A) (13 + 2) = A (13 + 2) := by rw [dRest1_n (by decide), dRest1_n (by decide)]
    refine Eq.trans (b := if 0 < dRest1 1 (dRest1 0 A) (13 + 2) then dRest1 1 (dRest1 0 A) (13 + 2) - 1 else dRest1 1 (dRest1 0 A) (13 + 2)) ?_ (by rw [z])
    generalize dRest1 1 (dRest1 0 A) = C
    unfold dRest1; exact pU_s
theorem dcR_v {i : Nat} (hi : i < 3) : dcR R1 i = dc (R1 i) := by
  have c : i = 0 ∨ i = 1 ∨ i = 2 := by omega
  unfold dcR pU
  rcases c with rfl | rfl | rfl <;> simp
theorem rRs_dc (h : rRs R1 A) (ht : wTm A) : rRs (dcR R1) (dRest A) := by
  obtain ⟨r, n0, n1⟩ := h
  have v0 : dRest A 13 = dc (A 13) := dRest_v (t := 0) (by decide)
  have v1 : dRest A 14 = dc (A 14) := dRest_v (t := 1) (by decide)
  have v2 : dRest A 15 = dc (A 15) := dRest_v (t := 2) (by decide)
  obtain ⟨e0, e1⟩ := cq_dc (r 0 (by decide)).1 (r 1 (by decide)).1 (r 2 (by decide)).1
  obtain ⟨d0, d1⟩ := cq_dc (ht.2 0 (by decide)).1 (ht.2 1 (by decide)).1 (ht.2 2 (by decide)).1
  simp only [Nat.reduceAdd] at d0 d1
  refine ⟨fun i hi => ?_, ?_, ?_⟩
  · rw [dcR_v hi, dRest_n (by decide)]
    exact ⟨dc_r (r i hi).1, fun q => by rw [(r i hi).2 q]; rfl⟩
  · rw [dcR_v (by decide), dcR_v (by decide), dcR_v (by decide), v0, v1, v2, e0, d0, n0, n1]
  · rw [dcR_v (by decide), dcR_v (by decide), dcR_v (by decide), v0, v1, v2, e1, d1, n0, n1]
theorem rT_dc {R0 : Pg} (h : rT R0 R1 A) (ht : wTm A) : rT R0 (dcR R1) (dRest A) := by
  obtain ⟨t1, t2, t3, t4, t5, t6, t7, t8⟩ := h
  unfold rT
  rw [dRest_n (by decide), dRest_n (by decide), dRest_n (by decide), dRest_n (by decide), dRest_n (by decide)]
  refine ⟨t1, t2, t3, t4, t5, t6, fun x => ?_, rRs_dc t8 ht⟩
  obtain ⟨i, i1, i2, i3, i4⟩ := t7 x
  exact ⟨i, i1, i2, i3, by rw [dcR_v i1, i4]; rfl⟩
/-- a team comes to rest: in the page the first free place, in the class its own -/
theorem rO_page (ht : wTm C) {n : Nat} (hn : C 0 = nI n) (hn3 : n = 1 ∨ n = 2 ∨ n = 3) (hq : 4 - n ≤ cq (C 13) (C 14) (C 15) 0) : cq (dRestOn C 13) (dRestOn C 14) (dRestOn C 15) 0 + 1 = cq (C 13) (C 14) (C 15) 0 ∧ cq (dRestOn C 13) (dRestOn C 14) (dRestOn C 15) 1 = cq (C 13) (C 14) (C 15) 1 := by
  have b0 := ht.2 0 (by decide)
  have b1 := ht.2 1 (by decide)
  have b2 := ht.2 2 (by decide)
  simp only [Nat.reduceAdd] at b0 b1 b2
  unfold dRestOn
  rw [hn] at b0 b1 b2 ⊢
  by_cases k0 : C 13 = 0
  · rw [if_pos k0, pU_s, pU_n (by decide), pU_n (by decide), k0]
    unfold cq; simp <;> omega
  · rw [if_neg k0]
    by_cases k1 : 1 < nI n ∧ C 14 = 0
    · rw [if_pos k1, pU_s, pU_n (by decide), pU_n (by decide), k1.2]
      unfold cq; simp <;> omega
    · rw [if_neg k1]
      by_cases k2 : 2 < nI n ∧ C 15 = 0
      · rw [if_pos k2, pU_s, pU_n (by decide), pU_n (by decide), k2.2]
        unfold cq; simp
      · exfalso
        unfold cq at hq
        rw [if_neg k0] at hq
        rcases hn3 with rfl | rfl | rfl
        · split at hq <;> split at hq <;> omega
        · have h1 : ¬ C 14 = 0 := fun x => k1 ⟨by decide, x⟩
          rw [if_neg h1] at hq
          split at hq <;> omega
        · have h1 : ¬ C 14 = 0 := fun x => k1 ⟨by decide, x⟩
          have h2 : ¬ C 15 = 0 := fun x => k2 ⟨by decide, x⟩
          rw [if_neg h1, if_neg h2] at hq
          omega
theorem rO_cls {i n : Nat} (hi : i < n) (hn3 : n = 1 ∨ n = 2 ∨ n = 3) (h2 : R1 i = 2) (ha : ∀ j, j < 3 → n ≤ j → R1 j = 0) : 4 - n ≤ cq (pU R1 i 0 0) (pU R1 i 0 1) (pU R1 i 0 2) 0 ∧ cq (R1 0) (R1 1) (R1 2) 0 + 1 = cq (pU R1 i 0 0) (pU R1 i 0 1) (pU R1 i 0 2) 0 ∧ cq (R1 0) (R1 1) (R1 2) 1 = cq (pU R1 i 0 0) (pU R1 i 0 1) (pU R1 i 0 2) 1 := by
  have c : i = 0 ∨ i = 1 ∨ i = 2 := by omega
  have a1 := ha 1 (by decide)
  have a2 := ha 2 (by decide)
  rcases hn3 with rfl | rfl | rfl
  · have a1 := a1 (by decide)
    have a2 := a2 (by decide)
    have : i = 0 := by omega
    subst this
    rw [pU_s, pU_n (by decide), pU_n (by decide), h2, a1, a2]; decide
  · have a2 := a2 (by decide)
    have c : i = 0 ∨ i = 1 := by omega
    rcases c with rfl | rfl
    · rw [pU_s, pU_n (by decide), pU_n (by decide), h2, a2]; unfold cq; simp <;> omega
    · rw [pU_s, pU_n (by decide), pU_n (by decide), h2, a2]; unfold cq; simp <;> omega
  · rcases c with rfl | rfl | rfl
    · rw [pU_s, pU_n (by decide), pU_n (by decide), h2]; unfold cq; simp <;> omega
    · rw [pU_s, pU_n (by decide), pU_n (by decide), h2]; unfold cq; simp <;> omega
    · rw [pU_s, pU_n (by decide), pU_n (by decide), h2]; unfold cq; simp <;> omega
end
