section
theorem zo_s {α β : Type} (x : α) (p : β) (q : α → β) : zopt (some x) p q = q x := rfl
theorem zo_n {α β : Type} (p : β) (q : α → β) : zopt none p q = p := rfl
variable {F a b K : Nat} {M : zMi} {A B : Pg}
/-- a splice goes on: one day of it -/
theorem c_goes {x : Int32} {i : Nat} (h : RCt (rTs x i) M a A) (hx : 1 ≤ x ∧ x ≤ 3) (v1 v2 : Nat) (hB : ∀ k, k ≠ 10 → k ≠ 11 → B k = A k) (h10 : B 10 = 2) (h11 : B 11 = x - 1) :
    (x - 1 = 0 → ∃ M', f_X5_workAtFront_62 F a v1 v2 M = some (0, M') ∧ fr a M M' ∧ RCt rTd M' a B) ∧ (x - 1 ≠ 0 → ∃ M', f_X5_workAtFront_62 F a v1 v2 M = some (0, M') ∧ fr a M M' ∧ RC M' a B) := by
  obtain ⟨t1, t2, t3, t4, t5, t6, t7, t8, t9, t10⟩ := h.2.2.2.1
  obtain ⟨w1, w2⟩ := c_wsp (F := F) h hx
  unfold f_X5_workAtFront_62 f_X6_spliceGoesOn
  rw [t8, if_neg (nI_n9 t6), cal_s, if_neg (by decide)]
  refine ⟨fun hy => ?_, fun hy => ?_⟩
  · obtain ⟨M', k1, k2, k3⟩ := w1 hy
    rw [k1, cal_s]
    exact ⟨M', rfl, k2, rTd_rT k3 hB⟩
  · obtain ⟨M', k1, k2, k3⟩ := w2 hy
    rw [k1, cal_s]
    exact ⟨M', rfl, k2, rTs_rT k3 hB h10 h11⟩
theorem c_62 {s z l c v e d w : Nat} (h : RC M a A) (hs : s < 4) (hw : wLay A s z l c v e) (hz4 : nI z < A 4) (h10 : A 10 = 0) (h11 : A 11 = 0) (h7n : A 7 ≠ A 4) (hb : 0 ≤ A 8 ∧ A 8 ≤ 99 ∧ 0 ≤ A (23 + 4 * z) ∧ A (23 + 4 * z) ≤ 99 ∧ 0 ≤ A 7 ∧ A 7 ≤ A 4 ∧ A 4 ≤ 9) (hd : d < 2147483648) (h3 : A 3 = nI d) (hw0 : 0 < w) (hw2 : w ≤ 30) (h6 : A 6 = nI w) :
    ∃ M', f_X5_workAtFront_62 F a (a + 17 + s) (a + 8 + z) M = some ((dWork A s).1, M') ∧ fr a M M' ∧ RC M' a (dWork A s).2 := by
  obtain ⟨t1, t2, t3, t4, t5, t6, t7, t8⟩ := h.2.2.2.1
  have hz := hw.1
  have h7 : A 7 = nI z := hw.2.2.2.2.2.1
  have e7 : ix (A 7) = z := by rw [h7]; exact ixN (by omega)
  have hl := c_lay (F := F) h hs hw hz4 h10 h11 h7n hb
  have k10 : ¬ A 10 = 2 := by rw [h10]; decide
  have k11 : ¬ A 10 = 1 := by rw [h10]; decide
  unfold f_X5_workAtFront_62 f_X6_spliceGoesOn dWork
  rw [t6 (by rw [h10]; decide), if_pos rfl, cal_s, if_pos rfl, RC_z h hz hz4 (k := 1) (by decide), RC_z h hz hz4 (k := 2) (by decide), RC_s h hs (k := 2) (by decide), h.1.2.2.2.1, h3, c_on h hd hw0 hw2 h6, cal_s, if_neg k10, if_neg k11, e7]
  by_cases k1 : nI d < A (23 + 4 * z + 1)
  · rw [if_pos k1, if_pos k1]; exact ⟨M, rfl, fr_r, h⟩
  · rw [if_neg k1, if_neg k1]
    by_cases k2 : A (23 + 4 * z + 2) < nI d
    · rw [if_pos k2, if_pos k2]; exact ⟨M, rfl, fr_r, h⟩
    · rw [if_neg k2, if_neg k2]
      by_cases k3 : A (59 + 8 * s + 2) < dWav A (nI d)
      · rw [if_pos k3, if_pos k3]; exact ⟨M, rfl, fr_r, h⟩
      · rw [if_neg k3, if_neg k3]
        obtain ⟨M', q1, q2, q3⟩ := hl
        rw [q1, cal_s]
        exact ⟨M', rfl, q2, q3⟩
theorem c_work (h : RC M a A) (hA : WF K A) (hK : K < 1000000000) (h7 : A 7 ≠ A 4) (hF : 101 ≤ F) :
    ∃ M', f_X5_workAtFront F a M = some ((if (dWk A).1 = 10 then 0 else (dWk A).1), M') ∧ fr a M M' ∧ ((dWk A).1 ≠ 10 → RC M' a (dWk A).2) ∧ ((dWk A).1 = 10 → RCt rTd M' a (dWk A).2) := by
  have hA' := hA
  obtain ⟨g1, g2, g3, g4, g5, g6, g7, g8⟩ := hA'
  obtain ⟨q1, q2, q3, q4, q5, q6, q7, q8, q9, q10⟩ := g3
  unfold f_X5_workAtFront dWk
  rw [c_front h (by omega), cal_s]
  obtain ⟨z, hz, ez⟩ := exN (n := 8) (x := A 7) q6.1 (by show A 7 ≤ 8; grind) (by decide)
  have hz4 : nI z < A 4 := by rw [← ez]; grind
  have hzone : f_X5_zoneNumbered F a (M a 9) M = some (some (a + 8 + z)) := by
    rw [h.1.2.2.2.2.1, ez]; exact c_zoneS h (by omega) hz4
  by_cases hd : dF A = 4
  · have e9 : dFi A = -9 := (dFi_eq A).mpr hd
    rw [e9, c_shipN h (Or.inl (by decide)), cal_s, zo_n, hzone, cal_s, zo_s, if_pos hd, if_neg h7]
    exact ⟨M, rfl, fr_r, fun _ => h, fun x => absurd x (by show ¬ (6 : Int32) = 10; decide)⟩
  · have hle := dF_le A
    have hs : dF A < 4 := by omega
    have h3 := dF_at hd
    have hp := wFl_pres g1 hs (by rw [h3]; decide)
    have ef : dFi A = nI (dF A) := by unfold dFi; rw [if_neg hd]
    obtain ⟨z', l, c, v, e, hw, he0, hz4'⟩ := WF_lay hA hs h7
    have ezz : z' = z := (nI_eq (by have := hw.1; omega) (by omega)).mp (hw.2.2.2.2.2.1.symm.trans ez)
    subst ezz
    obtain ⟨b1, b2, b3, b4⟩ := g7 z' (by omega) hz4
    obtain ⟨d, hd1, hd2⟩ := exN (n := K) q3.1 q3.2 (by omega)
    obtain ⟨w, hw1, hw2⟩ := exN (n := 30) (x := A 6) (by grind) q5.2 (by decide)
    have hw0 : 0 < w := by
      apply Nat.pos_of_ne_zero
      rintro rfl
      rw [nI_0] at hw2
      grind
    rw [ef, c_shipS h g1 hs hp, cal_s, zo_s, hzone, cal_s, zo_s, if_neg hd]
    obtain ⟨t1, t2, t3, t4, t5, t6, t7, t8⟩ := h.2.2.2.1
    rw [t5]
    by_cases k2 : A 10 = 2
    · rw [if_pos (by rw [k2]; decide)]
      obtain ⟨i, hR, -, -⟩ := rT_rTs h k2
      obtain ⟨-, r1, r2, r3⟩ := g5 k2
      have r1 := r1 (fun x => x)
      obtain ⟨w1, w2⟩ := c_goes (F := F) hR ⟨r1, r2⟩ (a + 17 + dF A) (a + 8 + z') (B := pU A 11 (A 11 - 1)) (fun k x y => pU_n y) (by rw [pU_n (by decide)]; exact k2) pU_s
      unfold dWork
      rw [if_pos k2]
      by_cases k3 : A 11 - 1 = 0
      · rw [if_pos k3]
        obtain ⟨M', m1, m2, m3⟩ := w1 k3
        rw [m1]
        exact ⟨M', rfl, m2, fun x => absurd rfl x, fun _ => m3⟩
      · rw [if_neg k3]
        obtain ⟨M', m1, m2, m3⟩ := w2 k3
        rw [m1]
        exact ⟨M', rfl, m2, fun _ => m3, fun x => absurd x (show ¬ (0 : Int32) = 10 by decide)⟩
    · by_cases k1 : A 10 = 1
      · rw [if_neg (by rw [if_pos k1]; decide), h.1.2.2.2.1, hd2, c_on h (by omega) hw0 hw1 hw2, cal_s]
        obtain ⟨s1, s2⟩ := c_begin (w := dWav A (nI d)) (F := F) h g2 k1 (by omega)
        unfold dWork
        rw [if_neg k2, if_pos k1, hd2]
        by_cases k3 : dFree A = 0 ∨ 3 < dWav A (nI d)
        · rw [s1 k3, cal_s, if_pos rfl, if_pos k3]
          exact ⟨M, rfl, fr_r, fun _ => h, fun x => absurd x (show ¬ (5 : Int32) = 10 by decide)⟩
        · obtain ⟨i, i1, i2, i3, i4⟩ := s2 k3
          rw [i4, cal_s, if_neg (show ¬ (1 : Int32) = 0 by decide), if_neg k3]
          have hR := rTs_begin h i1 i2 i3
          have hf : fr a M (wI (wI (wI M (a + 5) 3 0) (a + 5) 4 (nI i)) (a + 5) 5 (A 1)) := fr_t (fr_t (fr_w (by omega)) (fr_w (by omega))) (fr_w (by omega))
          obtain ⟨w1, w2⟩ := c_goes (F := F) hR q1 (a + 17 + dF A) (a + 8 + z') (B := pU (pU A 10 2) 11 (A 1 - 1)) (fun k x y => by rw [pU_n y, pU_n x]) (by rw [pU_n (by decide), pU_s]) pU_s
          by_cases k4 : A 1 - 1 = 0
          · rw [if_pos k4]
            obtain ⟨M', m1, m2, m3⟩ := w1 k4
            rw [m1]
            exact ⟨M', rfl, fr_t hf m2, fun x => absurd rfl x, fun _ => m3⟩
          · rw [if_neg k4]
            obtain ⟨M', m1, m2, m3⟩ := w2 k4
            rw [m1]
            exact ⟨M', rfl, fr_t hf m2, fun _ => m3, fun x => absurd x (show ¬ (0 : Int32) = 10 by decide)⟩
      · have h10 : A 10 = 0 := by grind
        have h11 : A 11 = 0 := q9 k2
        rw [if_pos (by rw [if_neg k1])]
        obtain ⟨M', m1, m2, m3⟩ := c_62 (F := F) h hs hw hz4 h10 h11 h7 ⟨q7.1, q7.2.1, by grind, b1.2, q6.1, q6.2, q4.2⟩ (by omega) hd2 hw0 hw1 hw2
        have hr : (dWork A (dF A)).1 ≠ 10 := by
          unfold dWork dLay
          rw [if_neg k2, if_neg k1]
          repeat' split
          all_goals first | (show ¬ (1 : Int32) = 10; decide) | (show ¬ (2 : Int32) = 10; decide) | (show ¬ (3 : Int32) = 10; decide) | (show ¬ (4 : Int32) = 10; decide) | (show ¬ (0 : Int32) = 10; decide)
        rw [m1, if_neg hr]
        exact ⟨M', rfl, m2, fun _ => m3, fun x => absurd x hr⟩
end
