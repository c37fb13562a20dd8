section
variable {A B : Pg} {K : Nat}
def irr (k : Nat) : Prop := k = 9 ∨ k = 12 ∨ k = 16 ∨ k = 18 ∨ k = 19 ∨ k = 20 ∨ k = 21 ∨ k = 22
theorem WG_cong {b : Prop} (hA : WG b K A) (h : ∀ k, ¬ irr k → B k = A k) : WG b K B := by
  obtain ⟨g1, g2, g3, g4, g5, g6, g7, g8⟩ := hA
  have e : ∀ k, (k < 9 ∨ k = 10 ∨ k = 11 ∨ k = 17 ∨ (13 ≤ k ∧ k ≤ 15) ∨ 23 ≤ k) → B k = A k := fun k hk => h k (by unfold irr; omega)
  refine ⟨⟨by rw [e 5 (by decide)]; exact g1.1, fun s hs h6 j hj => by rw [e _ (by omega)]; rw [e 5 (by decide)] at h6; exact g1.2 s hs h6 j hj⟩, ⟨by rw [e 0 (by decide)]; exact g2.1, fun t ht => by rw [e (13 + t) (by omega), e 0 (by decide)]; exact g2.2 t ht⟩, ?_, ?_, ?_, ?_, ?_, ?_⟩
  · unfold wGen; rw [e 1 (by decide), e 2 (by decide), e 3 (by decide), e 4 (by decide), e 6 (by decide), e 7 (by decide), e 8 (by decide), e 10 (by decide), e 11 (by decide), e 17 (by decide)]; exact g3
  · intro z hz; rw [e 7 (by decide), e 4 (by decide), e 8 (by decide), e (23 + 4 * z) (by omega)]; exact g4 z hz
  · unfold wSpl rs; rw [e 10 (by decide), e 11 (by decide), e 0 (by decide), e 13 (by decide), e 14 (by decide), e 15 (by decide)]; exact g5
  · have e0 := e 64 (by decide)
    have e1 := e 72 (by decide)
    have e2 := e 80 (by decide)
    have e3 := e 88 (by decide)
    unfold wFr wOne
    rw [dF_cg (A := A) (B := B) (by rw [e0]) (by rw [e1]) (by rw [e2]) (by rw [e3]), e 7 (by decide), e 4 (by decide), e 10 (by decide), e0, e1, e2, e3]
    exact g6
  · intro z hz hm; rw [e 4 (by decide)] at hm; exact wZn_c (fun k hk => e _ (by omega)) (g7 z hz hm)
  · intro s hs; exact wSh_c (e _ (by omega)) (e _ (by omega)) (e _ (by omega)) (by rw [e _ (by omega)]; exact (g8 s hs).2.2.2) (g8 s hs)
/-- a page that differs at the splice alone -/
theorem WG_spl {b : Prop} (hA : WF K A) (h : ∀ k, k ≠ 10 → k ≠ 11 → B k = A k) (hd : dF A ≠ 4) (h10 : B 10 = 2) (h11 : (b → B 11 = 0) ∧ (¬ b → 1 ≤ B 11) ∧ B 11 ≤ 3) (hr : rs A < A 0) : WG b K B := by
  obtain ⟨g1, g2, g3, g4, g5, g6, g7, g8⟩ := hA
  have e : ∀ k, (k < 10 ∨ 12 ≤ k) → B k = A k := fun k hk => h k (by omega) (by omega)
  refine ⟨⟨by rw [e 5 (by decide)]; exact g1.1, fun s hs h6 j hj => by rw [e _ (by omega)]; rw [e 5 (by decide)] at h6; exact g1.2 s hs h6 j hj⟩, ⟨by rw [e 0 (by decide)]; exact g2.1, fun t ht => by rw [e (13 + t) (by omega), e 0 (by decide)]; exact g2.2 t ht⟩, ?_, ?_, ?_, ?_, ?_, ?_⟩
  · unfold wGen at g3 ⊢; rw [e 1 (by decide), e 2 (by decide), e 3 (by decide), e 4 (by decide), e 6 (by decide), e 7 (by decide), e 8 (by decide), e 17 (by decide), h10]
    obtain ⟨q1, q2, q3, q4, q5, q6, q7, q8, q9, q10⟩ := g3
    exact ⟨q1, q2, q3, q4, q5, q6, q7, ⟨by decide, by decide⟩, fun x => absurd rfl x, q10⟩
  · intro z hz; rw [e 7 (by decide), e 4 (by decide), e 8 (by decide), e (23 + 4 * z) (by omega)]; exact g4 z hz
  · intro _; refine ⟨h11.1, h11.2.1, h11.2.2, ?_⟩
    unfold rs at hr ⊢; rw [e 0 (by decide), e 13 (by decide), e 14 (by decide), e 15 (by decide)]; exact hr
  · have e0 := e 64 (by decide)
    have e1 := e 72 (by decide)
    have e2 := e 80 (by decide)
    have e3 := e 88 (by decide)
    have ed : dF B = dF A := dF_cg (by rw [e0]) (by rw [e1]) (by rw [e2]) (by rw [e3])
    refine ⟨?_, ?_, ?_⟩
    · rw [ed, e 7 (by decide), e 4 (by decide)]; exact g6.1
    · rw [ed]; exact fun x => absurd x hd
    · unfold wOne; rw [e0, e1, e2, e3]; exact g6.2.2
  · intro z hz hm; rw [e 4 (by decide)] at hm; exact wZn_c (fun k hk => e _ (by omega)) (g7 z hz hm)
  · intro s hs; exact wSh_c (e _ (by omega)) (e _ (by omega)) (e _ (by omega)) (by rw [e _ (by omega)]; exact (g8 s hs).2.2.2) (g8 s hs)
theorem dHome_n {s k : Nat} {d : Int32} (h10 : k ≠ 10) (h11 : k ≠ 11) (h5 : k ≠ 59 + 8 * s + 5) (h6 : k ≠ 59 + 8 * s + 6) : dHome A s d k = A k := by
  unfold dHome; (try dsimp only); rw [pU_n h6, pU_n h5, pU_n h11, pU_n h10]
theorem dHome_5 {s : Nat} {d : Int32} : dHome A s d (59 + 8 * s + 5) = 4 := by
  unfold dHome; (try dsimp only); rw [pU_n (by omega), pU_s]
theorem dHome_10 {s : Nat} {d : Int32} : dHome A s d 10 = (if A (59 + 8 * s + 5) = 3 then 0 else A 10) := by
  unfold dHome; (try dsimp only); rw [pU_n (by omega), pU_n (by omega), pU_n (by decide), pU_s]
theorem dHome_11 {s : Nat} {d : Int32} : dHome A s d 11 = (if (if A (59 + 8 * s + 5) = 3 then 0 else A 10) = 2 then A 11 else 0) := by
  unfold dHome; (try dsimp only); rw [pU_n (by omega), pU_n (by omega), pU_s, pU_s, pU_n (by decide)]
theorem wFl_home {s : Nat} {d : Int32} (h : wFl A) (hs : s < 4) (hp : nI s < A 5) : wFl (dHome A s d) := by
  unfold dHome; (try dsimp only)
  have w1 : ∀ v w, wFl (pU (pU A 10 v) 11 w) := fun v w => wFl_up (wFl_up h (by decide) (by decide)) (by decide) (by decide)
  have p1 : ∀ v w, nI s < (pU (pU A 10 v) 11 w) 5 := fun v w => by rw [pU_n (by decide), pU_n (by decide)]; exact hp
  refine wFl_sh (wFl_sh (w1 _ _) hs (p1 _ _) (by decide)) hs ?_ (by decide)
  rw [pU_n (by omega)]; exact p1 _ _
theorem WF_home3 (g1 : wFl A) (g2 : wTm A) (g3 : wGen K A) (g4 : wCur A) (g6 : wOne A) (g7 : ∀ z, z < 9 → nI z < A 4 → wZn A z) (g8 : ∀ s, s < 4 → wSh A s) {s : Nat} {d : Int32} (hs : s < 4) (h3 : A (59 + 8 * s + 5) = 3) : WF K (dHome A s d) := by
  have hp := wFl_pres g1 hs (by rw [h3]; decide)
  have e : ∀ k, k < 59 → k ≠ 10 → k ≠ 11 → dHome A s d k = A k := fun k hk x y => dHome_n x y (by omega) (by omega)
  have n10 : dHome A s d 10 = 0 := by rw [dHome_10, if_pos h3]
  have n11 : dHome A s d 11 = 0 := by rw [dHome_11, if_pos h3]; rfl
  have hF : dF (dHome A s d) = 4 ∧ wOne (dHome A s d) := by
    have c : s = 0 ∨ s = 1 ∨ s = 2 ∨ s = 3 := by omega
    unfold wOne at g6
    rcases c with rfl | rfl | rfl | rfl
    · have x0 : dHome A 0 d 64 = 4 := dHome_5
      have x1 : dHome A 0 d 72 = A 72 := dHome_n (by decide) (by decide) (by decide) (by decide)
      have x2 : dHome A 0 d 80 = A 80 := dHome_n (by decide) (by decide) (by decide) (by decide)
      have x3 : dHome A 0 d 88 = A 88 := dHome_n (by decide) (by decide) (by decide) (by decide)
      have h3' : A 64 = 3 := h3
      unfold dF wOne; rw [x0, x1, x2, x3]; grind
    · have x0 : dHome A 1 d 64 = A 64 := dHome_n (by decide) (by decide) (by decide) (by decide)
      have x1 : dHome A 1 d 72 = 4 := dHome_5
      have x2 : dHome A 1 d 80 = A 80 := dHome_n (by decide) (by decide) (by decide) (by decide)
      have x3 : dHome A 1 d 88 = A 88 := dHome_n (by decide) (by decide) (by decide) (by decide)
      have h3' : A 72 = 3 := h3
      unfold dF wOne; rw [x0, x1, x2, x3]; grind
    · have x0 : dHome A 2 d 64 = A 64 := dHome_n (by decide) (by decide) (by decide) (by decide)
      have x1 : dHome A 2 d 72 = A 72 := dHome_n (by decide) (by decide) (by decide) (by decide)
      have x2 : dHome A 2 d 80 = 4 := dHome_5
      have x3 : dHome A 2 d 88 = A 88 := dHome_n (by decide) (by decide) (by decide) (by decide)
      have h3' : A 80 = 3 := h3
      unfold dF wOne; rw [x0, x1, x2, x3]; grind
    · have x0 : dHome A 3 d 64 = A 64 := dHome_n (by decide) (by decide) (by decide) (by decide)
      have x1 : dHome A 3 d 72 = A 72 := dHome_n (by decide) (by decide) (by decide) (by decide)
      have x2 : dHome A 3 d 80 = A 80 := dHome_n (by decide) (by decide) (by decide) (by decide)
      have x3 : dHome A 3 d 88 = 4 := dHome_5
      have h3' : A 88 = 3 := h3
      unfold dF wOne; rw [x0, x1, x2, x3]; grind
  refine ⟨wFl_home g1 hs hp, ⟨by rw [e 0 (by decide) (by decide) (by decide)]; exact g2.1, fun t ht => by rw [e (13 + t) (by omega) (by omega) (by omega), e 0 (by decide) (by decide) (by decide)]; exact g2.2 t ht⟩, ?_, ?_, ?_, ⟨fun _ => hF.1, fun _ => n10, hF.2⟩, ?_, ?_⟩
  · unfold wGen at g3 ⊢; rw [e 1 (by decide) (by decide) (by decide), e 2 (by decide) (by decide) (by decide), e 3 (by decide) (by decide) (by decide), e 4 (by decide) (by decide) (by decide), e 6 (by decide) (by decide) (by decide), e 7 (by decide) (by decide) (by decide), e 8 (by decide) (by decide) (by decide), e 17 (by decide) (by decide) (by decide), n10, n11]
    obtain ⟨q1, q2, q3, q4, q5, q6, q7, q8, q9, q10⟩ := g3
    exact ⟨q1, q2, q3, q4, q5, q6, q7, ⟨by decide, by decide⟩, fun _ => rfl, q10⟩
  · intro z hz; rw [e 7 (by decide) (by decide) (by decide), e 4 (by decide) (by decide) (by decide), e 8 (by decide) (by decide) (by decide), e (23 + 4 * z) (by omega) (by omega) (by omega)]; exact g4 z hz
  · intro hx; rw [n10] at hx; exact absurd hx (by decide)
  · intro z hz hm; rw [e 4 (by decide) (by decide) (by decide)] at hm; exact wZn_c (fun k hk => e _ (by omega) (by omega) (by omega)) (g7 z hz hm)
  · intro t ht
    refine wSh_c (dHome_n (by omega) (by omega) (by omega) (by omega)) (dHome_n (by omega) (by omega) (by omega) (by omega)) (dHome_n (by omega) (by omega) (by omega) (by omega)) ?_ (g8 t ht)
    by_cases x : t = s
    · subst x; rw [dHome_5]; decide
    · rw [dHome_n (by omega) (by omega) (by omega) (by omega)]; exact (g8 t ht).2.2.2
end
