section
variable {F a b r K : Nat} {M N : zMi} {A B : Pg}
theorem WF_2 {v : Int32} (hA : WF K A) (hv : 0 ≤ v ∧ v ≤ 9999) : WF K (pU A 2 v) := by
  obtain ⟨g1, g2, g3, g4, g5, g6, g7, g8⟩ := hA
  have h : ∀ k, k ≠ 2 → pU A 2 v k = A k := fun k hk => pU_n hk
  refine ⟨wFl_up g1 (by decide) (by decide), wTm_up g2 (by decide), ?_, ?_, ?_, ?_, ?_, ?_⟩
  · unfold wGen at g3 ⊢; rw [h 1 (by decide), pU_s, h 3 (by decide), h 4 (by decide), h 6 (by decide), h 7 (by decide), h 8 (by decide), h 10 (by decide), h 11 (by decide), h 17 (by decide)]
    exact ⟨g3.1, hv, g3.2.2⟩
  · intro z hz; rw [h 7 (by decide), h 4 (by decide), h 8 (by decide), h (23 + 4 * z) (by omega)]; exact g4 z hz
  · unfold wSpl rs; rw [h 10 (by decide), h 11 (by decide), h 0 (by decide), h 13 (by decide), h 14 (by decide), h 15 (by decide)]; exact g5
  · have e0 := h 64 (by decide)
    have e1 := h 72 (by decide)
    have e2 := h 80 (by decide)
    have e3 := h 88 (by decide)
    unfold wFr wOne
    rw [dF_cg (A := A) (B := pU A 2 v) (by rw [e0]) (by rw [e1]) (by rw [e2]) (by rw [e3]), h 7 (by decide), h 4 (by decide), h 10 (by decide), e0, e1, e2, e3]
    exact g6
  · intro z hz hm; rw [h 4 (by decide)] at hm; exact wZn_c (fun k hk => h _ (by omega)) (g7 z hz hm)
  · intro s hs; exact wSh_c (h _ (by omega)) (h _ (by omega)) (h _ (by omega)) (by rw [h _ (by omega)]; exact (g8 s hs).2.2.2) (g8 s hs)
theorem WF_sh {s k : Nat} {v : Int32} (hA : WF K A) (hs : s < 4) (hk : k < 8) (hp : nI s < A 5) (hw : k = 5 → (v = 3 ↔ A (59 + 8 * s + 5) = 3)) (hv : wSh (pU A (59 + 8 * s + k) v) s) : WF K (pU A (59 + 8 * s + k) v) := by
  refine WG_ships hA (fun j hj => pU_n (by omega)) (wFl_sh hA.1 hs hp hk) (fun t ht => ?_) (fun t ht => ?_)
  · by_cases e : t = s ∧ k = 5
    · obtain ⟨rfl, rfl⟩ := e; rw [pU_s]; exact hw rfl
    · rw [pU_n (by omega)]
  · by_cases e : t = s
    · subst e; exact hv
    · exact wSh_c (pU_n (by omega)) (pU_n (by omega)) (pU_n (by omega)) (by rw [pU_n (by omega)]; exact (hA.2.2.2.2.2.2.2 t ht).2.2.2) (hA.2.2.2.2.2.2.2 t ht)
theorem WF_take {s : Nat} {u : Int32} (hA : WF K A) (hs : s < 4) (hp : nI s < A 5) (hu : 0 ≤ u ∧ u ≤ A 2 ∧ u ≤ A (59 + 8 * s) - A (59 + 8 * s + 4)) : WF K (dTake s u A) := by
  obtain ⟨c1, c2, c3, c4⟩ := hA.2.2.2.2.2.2.2 s hs
  obtain ⟨q1, q2, q3⟩ := hA.2.2.1
  have h2 := WF_2 (v := A 2 - u) hA (by grind)
  unfold dTake
  refine WF_sh (k := 4) h2 hs (by decide) (by rw [pU_n (by decide)]; exact hp) (fun x => absurd x (by decide)) ?_
  unfold wSh
  rw [pU_s, pU_n (by omega), pU_n (by omega), pU_n (by omega), pU_n (by omega), pU_n (by omega), pU_n (by omega)]
  exact ⟨c1, c2, by grind, c4⟩
theorem WF_send {s : Nat} (hA : WF K A) (hs : s < 4) (hp : nI s < A 5) (hw : A (59 + 8 * s + 5) = 0) : WF K (dSend s A) := by
  obtain ⟨c1, c2, c3, c4⟩ := hA.2.2.2.2.2.2.2 s hs
  have h1 : WF K (pU A (59 + 8 * s + 5) 1) := by
    refine WF_sh (k := 5) hA hs (by decide) hp (fun _ => by rw [hw]; decide) ?_
    unfold wSh
    rw [pU_s, pU_n (by omega), pU_n (by omega), pU_n (by omega)]
    exact ⟨c1, c2, c3, by decide⟩
  unfold dSend
  refine WF_sh (k := 6) h1 hs (by decide) (by rw [pU_n (by omega)]; exact hp) (fun x => absurd x (by decide)) ?_
  have c := h1.2.2.2.2.2.2.2 s hs
  unfold wSh at c ⊢
  rw [pU_n (by omega : 59 + 8 * s ≠ 59 + 8 * s + 6), pU_n (by omega : 59 + 8 * s + 1 ≠ 59 + 8 * s + 6), pU_n (by omega : 59 + 8 * s + 4 ≠ 59 + 8 * s + 6), pU_n (by omega : 59 + 8 * s + 5 ≠ 59 + 8 * s + 6)]
  exact c
theorem WF_buy {u : Int32} (hA : WF K A) (hu : 0 ≤ A 2 + u ∧ A 2 + u ≤ 9999) : WF K (dBuy u A) := by
  have h := WF_2 hA hu
  unfold dBuy
  exact WG_cong h (fun k hk => by unfold irr at hk; rw [pU_n (by omega), pU_n (by omega)])
theorem WF_ext {z : Nat} {d : Int32} (hA : WF K A) (hz : z < 9) (hd : 0 ≤ A (23 + 4 * z + 2) + d ∧ A (23 + 4 * z + 2) + d ≤ 999) : WF K (dExt z d A) := by
  obtain ⟨g1, g2, g3, g4, g5, g6, g7, g8⟩ := hA
  have h : ∀ k, k ≠ 23 + 4 * z + 2 → pU A (23 + 4 * z + 2) (A (23 + 4 * z + 2) + d) k = A k := fun k hk => pU_n hk
  have hW : WF K (pU A (23 + 4 * z + 2) (A (23 + 4 * z + 2) + d)) := by
    refine ⟨wFl_up g1 (by omega) (by omega), wTm_up g2 (by omega), ?_, ?_, ?_, ?_, ?_, ?_⟩
    · unfold wGen; rw [h 1 (by omega), h 2 (by omega), h 3 (by omega), h 4 (by omega), h 6 (by omega), h 7 (by omega), h 8 (by omega), h 10 (by omega), h 11 (by omega), h 17 (by omega)]
      exact g3
    · intro y hy; rw [h 7 (by omega), h 4 (by omega), h 8 (by omega), h (23 + 4 * y) (by omega)]; exact g4 y hy
    · unfold wSpl rs; rw [h 10 (by omega), h 11 (by omega), h 0 (by omega), h 13 (by omega), h 14 (by omega), h 15 (by omega)]; exact g5
    · have e0 := h 64 (by omega)
      have e1 := h 72 (by omega)
      have e2 := h 80 (by omega)
      have e3 := h 88 (by omega)
      unfold wFr wOne
      rw [dF_cg (A := A) (B := pU A (23 + 4 * z + 2) (A (23 + 4 * z + 2) + d)) (by rw [e0]) (by rw [e1]) (by rw [e2]) (by rw [e3]), h 7 (by omega), h 4 (by omega), h 10 (by omega), e0, e1, e2, e3]
      exact g6
    · intro y hy hm
      rw [h 4 (by omega)] at hm
      have k := g7 y hy hm
      unfold wZn at k ⊢
      rw [h (23 + 4 * y) (by omega), h (23 + 4 * y + 1) (by omega), h (23 + 4 * y + 3) (by omega)]
      by_cases e : y = z
      · subst e; rw [pU_s]; exact ⟨k.1, k.2.1, hd, k.2.2.2⟩
      · rw [h (23 + 4 * y + 2) (by omega)]; exact k
    · intro s hs; exact wSh_c (h _ (by omega)) (h _ (by omega)) (h _ (by omega)) (by rw [h _ (by omega)]; exact (g8 s hs).2.2.2) (g8 s hs)
  unfold dExt
  exact WG_cong hW (fun k hk => by unfold irr at hk; rw [pU_n (by omega)])
theorem WF_wv {i : Nat} {v : Int32} (hA : WF K A) : WF K (pU A (91 + i) v) :=
  WG_ships hA (fun k hk => pU_n (by omega)) (wFl_up hA.1 (by omega) (by omega)) (fun s hs => by rw [pU_n (by omega)]) (fun s hs => wSh_c (pU_n (by omega)) (pU_n (by omega)) (pU_n (by omega)) (by rw [pU_n (by omega)]; exact (hA.2.2.2.2.2.2.2 s hs).2.2.2) (hA.2.2.2.2.2.2.2 s hs))
/-- a ship that waits sails home -/
theorem WF_home2 {s : Nat} {d : Int32} (hA : WF K A) (hs : s < 4) (h2 : A (59 + 8 * s + 5) = 2) : WF K (dHome A s d) := by
  have hp := wFl_pres hA.1 hs (by rw [h2]; decide)
  obtain ⟨c1, c2, c3, c4⟩ := hA.2.2.2.2.2.2.2 s hs
  have q9 := hA.2.2.1.2.2.2.2.2.2.2.2.1
  have e : dHome A s d = pU (pU A (59 + 8 * s + 5) 4) (59 + 8 * s + 6) d := by
    unfold dHome
    dsimp only
    rw [if_neg (show ¬ A (59 + 8 * s + 5) = 3 by rw [h2]; decide), pU_i]
    have e11 : (if A 10 = 2 then A 11 else 0) = A 11 := by
      by_cases k : A 10 = 2
      · rw [if_pos k]
      · rw [if_neg k, q9 k]
    rw [e11, pU_i]
  rw [e]
  have h1 : WF K (pU A (59 + 8 * s + 5) 4) := by
    refine WF_sh (k := 5) hA hs (by decide) hp (fun _ => by rw [h2]; decide) ?_
    unfold wSh
    rw [pU_s, pU_n (by omega), pU_n (by omega), pU_n (by omega)]
    exact ⟨c1, c2, c3, by decide⟩
  refine WF_sh (k := 6) h1 hs (by decide) (by rw [pU_n (by omega)]; exact hp) (fun x => absurd x (by decide)) ?_
  have c := h1.2.2.2.2.2.2.2 s hs
  unfold wSh at c ⊢
  rw [pU_n (by omega : 59 + 8 * s ≠ 59 + 8 * s + 6), pU_n (by omega : 59 + 8 * s + 1 ≠ 59 + 8 * s + 6), pU_n (by omega : 59 + 8 * s + 4 ≠ 59 + 8 * s + 6), pU_n (by omega : 59 + 8 * s + 5 ≠ 59 + 8 * s + 6)]
  exact c
theorem WF_recall {s : Nat} (hA : WF K A) (hs : s < 4) (hw : A (59 + 8 * s + 5) = 2 ∨ A (59 + 8 * s + 5) = 3) : WF K (dRecall s A) := by
  obtain ⟨g1, g2, g3, g4, g5, g6, g7, g8⟩ := hA
  unfold dRecall
  rcases hw with hw | hw
  · rw [if_neg (fun x => by rw [hw] at x; exact absurd x.1 (by decide))]
    exact WF_home2 ⟨g1, g2, g3, g4, g5, g6, g7, g8⟩ hs hw
  · by_cases k : A 10 = 2
    · rw [if_pos ⟨hw, k⟩]
      have e : ∀ j, j < 13 ∨ 15 < j → dRestOn A j = A j := fun j hj => dRestOn_n hj
      refine WF_home3 ⟨by rw [e 5 (by decide)]; exact g1.1, fun t ht h6 j hj => by rw [e _ (by omega)]; rw [e 5 (by decide)] at h6; exact g1.2 t ht h6 j hj⟩ (wTm_ro g2) ?_ ?_ ?_ ?_ ?_ hs (by rw [e _ (by omega)]; exact hw)
      · unfold wGen; rw [e 1 (by decide), e 2 (by decide), e 3 (by decide), e 4 (by decide), e 6 (by decide), e 7 (by decide), e 8 (by decide), e 10 (by decide), e 11 (by decide), e 17 (by decide)]; exact g3
      · intro z hz; rw [e 7 (by decide), e 4 (by decide), e 8 (by decide), e (23 + 4 * z) (by omega)]; exact g4 z hz
      · unfold wOne; rw [e 64 (by decide), e 72 (by decide), e 80 (by decide), e 88 (by decide)]; exact g6.2.2
      · intro z hz hm; rw [e 4 (by decide)] at hm; exact wZn_c (fun k hk => e _ (by omega)) (g7 z hz hm)
      · intro t ht; exact wSh_c (e _ (by omega)) (e _ (by omega)) (e _ (by omega)) (by rw [e _ (by omega)]; exact (g8 t ht).2.2.2) (g8 t ht)
    · rw [if_neg (fun x => k x.2)]
      exact WF_home3 g1 g2 g3 g4 g6.2.2 g7 g8 hs hw
end
