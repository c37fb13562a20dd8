section
variable {K z s : Nat} {A B Y P : Pg}
/-- a page with other cells where a day doesn't look: the last day of a zone's permit, what was paid for extensions, and what lies behind the page -/
noncomputable def mk (z : Nat) (Y A : Pg) : Pg := fun k => if k = 21 ∨ k = 23 + 4 * z + 2 ∨ 121 ≤ k then Y k else A k
theorem mk_n {k : Nat} (h : k ≠ 21 ∧ k ≠ 23 + 4 * z + 2 ∧ k < 121) : mk z Y A k = A k := by
  unfold mk; rw [if_neg (by omega)]
theorem mk_p : mk z Y A (23 + 4 * z + 2) = Y (23 + 4 * z + 2) := by
  unfold mk; rw [if_pos (Or.inr (Or.inl rfl))]
theorem mk_u {j : Nat} {w : Int32} (h : j ≠ 21 ∧ j ≠ 23 + 4 * z + 2 ∧ j < 121) : pU (mk z Y A) j w = mk z Y (pU A j w) := by
  funext k
  unfold mk pU
  by_cases e : k = j
  · subst e; rw [if_pos rfl, if_neg (by omega), if_pos rfl]
  · rw [if_neg e, if_neg e]
theorem mk_self (h : ∀ k, k ≠ 21 → k ≠ 23 + 4 * z + 2 → k < 121 → A k = Y k) : mk z Y A = Y := by
  funext k
  unfold mk
  split
  · rfl
  · exact h k (by omega) (by omega) (by omega)
theorem mk_i {c : Prop} {inst : Decidable c} {A B : Pg} : (if c then mk z Y A else mk z Y B) = mk z Y (if c then A else B) := by split <;> rfl
theorem mk_sail1 (hz : z < 9) (hs : s < 4) : dSail1 s (mk z Y A) = mk z Y (dSail1 s A) := by
  unfold dSail1
  simp (disch := omega) only [mk_n, mk_u, mk_i]
theorem mk_sail (hz : z < 9) : dSail (mk z Y A) = mk z Y (dSail A) := by
  unfold dSail
  rw [mk_sail1 hz (by decide), mk_sail1 hz (by decide), mk_sail1 hz (by decide), mk_sail1 hz (by decide)]
theorem mk_F (hz : z < 9) : dF (mk z Y A) = dF A := by
  unfold dF
  simp (disch := omega) only [mk_n]
theorem mk_come1 (hz : z < 9) (hs : s < 4) : dCome1 s (mk z Y A) = mk z Y (dCome1 s A) := by
  unfold dCome1
  simp (disch := omega) only [mk_n, mk_u]
theorem mk_come (hz : z < 9) : dCome (mk z Y A) = mk z Y (dCome A) := by
  unfold dCome
  rw [mk_F hz]
  simp (disch := omega) only [mk_n, mk_come1 hz, mk_i]
theorem mk_home {d : Int32} (hz : z < 9) (hs : s < 4) : dHome (mk z Y A) s d = mk z Y (dHome A s d) := by
  unfold dHome
  simp (disch := omega) only [mk_n, mk_u]
theorem mk_way (hz : z < 9) : dWay (mk z Y A) = dWay A := by
  unfold dWay
  simp (disch := omega) only [mk_n]
theorem mk_free (hz : z < 9) : dFree (mk z Y A) = dFree A := by
  unfold dFree
  simp (disch := omega) only [mk_n]
theorem mk_layU (hz : z < 9) (hs : s < 4) (hy : ix (A 7) ≤ 9) : dLayU (mk z Y A) s = dLayU A s := by
  unfold dLayU dMost
  simp (disch := omega) only [mk_n]
theorem mk_laid {u : Int32} (hz : z < 9) (hs : s < 4) (hy : ix (A 7) ≤ 9) : dLaid (mk z Y A) s u = mk z Y (dLaid A s u) := by
  unfold dLaid dNeed
  simp (disch := omega) only [mk_n, mk_u]
theorem mk_next (hz : z < 9) (hs : s < 4) : dNext (mk z Y A) s = mk z Y (dNext A s) := by
  unfold dNext
  simp (disch := omega) only [mk_n, mk_u, mk_way hz, mk_home hz, mk_i]
theorem mk_lay (hz : z < 9) (hs : s < 4) (hy : ix (A 7) ≤ 9) : dLay (mk z Y A) s = ((dLay A s).1, mk z Y (dLay A s).2) := by
  unfold dLay
  rw [mk_layU hz hs hy]
  by_cases c : dLayU A s = 0
  · rw [if_pos c, if_pos c, mk_home hz hs, mk_way hz]
  · rw [if_neg c, if_neg c, mk_laid hz hs hy, mk_next hz hs]
    simp (disch := omega) only [mk_n, mk_i]
theorem mk_wav (hz : z < 9) (hw : 91 + ix (A 3 - A 3 / A 6 * A 6) < 121) : dWav (mk z Y A) (A 3) = dWav A (A 3) := by
  unfold dWav
  rw [mk_n (k := 6) (by omega), mk_n (by omega)]
theorem mk_work (hz : z < 9) (hs : s < 4) (hy : ix (A 7) ≤ 9) (hw : 91 + ix (A 3 - A 3 / A 6 * A 6) < 121) (hc : ix (A 7) = z → ¬ A (23 + 4 * z + 2) < A 3 ∧ ¬ Y (23 + 4 * z + 2) < A 3) : dWork (mk z Y A) s = ((dWork A s).1, mk z Y (dWork A s).2) := by
  have e3 : mk z Y A 3 = A 3 := mk_n (by omega)
  have e7 : mk z Y A 7 = A 7 := mk_n (by omega)
  have e10 : mk z Y A 10 = A 10 := mk_n (by omega)
  have e11 : mk z Y A 11 = A 11 := mk_n (by omega)
  have e1 : mk z Y A 1 = A 1 := mk_n (by omega)
  have el : ¬ mk z Y A (23 + 4 * ix (A 7) + 2) < A 3 ↔ ¬ A (23 + 4 * ix (A 7) + 2) < A 3 := by
    by_cases c : ix (A 7) = z
    · rw [c, mk_p]; exact ⟨fun _ => (hc c).1, fun _ => (hc c).2⟩
    · rw [mk_n (by omega)]
  unfold dWork
  rw [e10, e11, e1, e3, e7, mk_free hz, mk_wav hz hw, mk_n (k := 23 + 4 * ix (A 7) + 1) (by omega), mk_n (k := 59 + 8 * s + 2) (by omega)]
  by_cases c1 : A 10 = 2
  · rw [if_pos c1, if_pos c1]
    by_cases c2 : A 11 - 1 = 0
    · rw [if_pos c2, if_pos c2, mk_u (by omega)]
    · rw [if_neg c2, if_neg c2, mk_u (by omega)]
  · rw [if_neg c1, if_neg c1]
    by_cases c2 : A 10 = 1
    · rw [if_pos c2, if_pos c2]
      by_cases c3 : dFree A = 0 ∨ 3 < dWav A (A 3)
      · rw [if_pos c3, if_pos c3]
      · rw [if_neg c3, if_neg c3]
        by_cases c4 : A 1 - 1 = 0
        · rw [if_pos c4, if_pos c4, mk_u (by omega), mk_u (by omega)]
        · rw [if_neg c4, if_neg c4, mk_u (by omega), mk_u (by omega)]
    · rw [if_neg c2, if_neg c2]
      by_cases c3 : A 3 < A (23 + 4 * ix (A 7) + 1)
      · rw [if_pos c3, if_pos c3]
      · rw [if_neg c3, if_neg c3]
        by_cases c4 : A (23 + 4 * ix (A 7) + 2) < A 3
        · rw [if_pos c4, if_pos (Decidable.byContradiction fun y => el.mp y c4)]
        · rw [if_neg c4, if_neg (el.mpr c4)]
          by_cases c5 : A (59 + 8 * s + 2) < dWav A (A 3)
          · rw [if_pos c5, if_pos c5]
          · rw [if_neg c5, if_neg c5, mk_lay hz hs hy]
theorem mk_sea (hz : z < 9) : dSea (mk z Y A) = dSea A := by
  unfold dSea
  simp (disch := omega) only [mk_n]
theorem mk_wait (hz : z < 9) : dWait (mk z Y A) = dWait A := by
  unfold dWait
  simp (disch := omega) only [mk_n]
theorem mk_book {f : Nat} {r : Int32} (hz : z < 9) (hf : f ≤ 4) : dBook (mk z Y B) f (r, mk z Y P) = mk z Y (dBook B f (r, P)) := by
  unfold dBook
  simp (disch := omega) only [mk_n, mk_u, mk_sea hz, mk_wait hz]
theorem mk_rest1 {t : Nat} (hz : z < 9) (ht : t < 3) : dRest1 t (mk z Y A) = mk z Y (dRest1 t A) := by
  unfold dRest1
  simp (disch := omega) only [mk_n, mk_u]
theorem mk_rest (hz : z < 9) : dRest (mk z Y A) = mk z Y (dRest A) := by
  unfold dRest
  rw [mk_rest1 hz (by decide), mk_rest1 hz (by decide), mk_rest1 hz (by decide)]
theorem mk_restOn (hz : z < 9) : dRestOn (mk z Y A) = mk z Y (dRestOn A) := by
  unfold dRestOn
  simp (disch := omega) only [mk_n, mk_u, mk_i]
theorem mk_end {r : Int32} (hz : z < 9) : dEnd r (mk z Y A) = mk z Y (dEnd r A) := by
  unfold dEnd
  simp (disch := omega) only [mk_rest hz, mk_n, mk_u, mk_restOn hz, mk_i]
theorem mk_wk (hz : z < 9) (hy : ix (A 7) ≤ 9) (hw : 91 + ix (A 3 - A 3 / A 6 * A 6) < 121) (hc : ix (A 7) = z → ¬ A (23 + 4 * z + 2) < A 3 ∧ ¬ Y (23 + 4 * z + 2) < A 3) : dWk (mk z Y A) = ((dWk A).1, mk z Y (dWk A).2) := by
  unfold dWk
  rw [mk_F hz, mk_n (k := 7) (by omega), mk_n (k := 4) (by omega)]
  by_cases c : dF A = 4
  · rw [if_pos c, if_pos c]
  · rw [if_neg c, if_neg c, mk_work hz (by have := dF_le A; omega) hy hw hc]
theorem mk_day (hz : z < 9) (hA : WF K A) (hK : K < 1000000000) (hc : ix (A 7) = z → ¬ A (23 + 4 * z + 2) < A 3 ∧ ¬ Y (23 + 4 * z + 2) < A 3) : dDay (mk z Y A) = mk z Y (dDay A) := by
  have e : ∀ k, k < 59 → k ≠ 10 → dCome (dSail A) k = A k := fun k h1 h2 => by rw [dCome_n h1 h2, dSail_n h1]
  obtain ⟨w, w0, w1, h6⟩ := WF_6 hA
  obtain ⟨t, ht, h3⟩ := exN (n := K) hA.2.2.1.2.2.1.1 hA.2.2.1.2.2.1.2 (by omega)
  obtain ⟨n, n9, n0, h4⟩ := wZ_N hA
  have q7 := hA.2.2.1.2.2.2.2.2.1
  rw [h4] at q7
  obtain ⟨y, hy, e7⟩ := exN (n := n) q7.1 q7.2 (by omega)
  have hm : t % w < w := Nat.mod_lt _ w0
  have hwv : 91 + ix (A 3 - A 3 / A 6 * A 6) < 121 := by
    rw [h3, h6, pk_rem (by omega) w0 (by omega), ixN (by omega)]
    omega
  have hy9 : ix (A 7) ≤ 9 := by rw [e7, ixN (by omega)]; omega
  have key := mk_wk (A := dCome (dSail A)) (Y := Y) hz (by rw [e 7 (by decide) (by decide)]; exact hy9) (by rw [e 3 (by decide) (by decide), e 6 (by decide) (by decide)]; exact hwv) (by rw [e 7 (by decide) (by decide), e 3 (by decide) (by decide), e (23 + 4 * z + 2) (by omega) (by omega)]; exact hc)
  unfold dDay
  (try dsimp only)
  rw [mk_sail hz, mk_come hz, key, mk_F hz, mk_book hz (dF_le _), mk_end hz]
end
