section
variable {K : Nat} {A B : Pg} {s k : Nat} {u v d : Int32}
def rel0 (k : Nat) : Prop := k = 2 ∨ k = 4 ∨ k = 5 ∨ k = 7 ∨ k = 8 ∨ k = 9 ∨ (16 ≤ k ∧ k ≤ 20) ∨ k = 23 ∨ k = 27 ∨ k = 31 ∨ k = 35 ∨ (59 ≤ k ∧ k < 91)
/-- the cells that SD looks at -/
def rel (k : Nat) : Prop := rel0 k ∨ (23 ≤ k ∧ k < 39)
theorem dAb_n (h : k ≠ 63 ∧ k ≠ 71 ∧ k ≠ 79 ∧ k ≠ 87) : dAb (pU A k v) = dAb A := by
  unfold dAb; rw [pU_n (by omega), pU_n (by omega), pU_n (by omega), pU_n (by omega)]
theorem dOwn_n (h : k ≠ 66 ∧ k ≠ 74 ∧ k ≠ 82 ∧ k ≠ 90) : dOwn (pU A k v) = dOwn A := by
  unfold dOwn; rw [pU_n (by omega), pU_n (by omega), pU_n (by omega), pU_n (by omega)]
theorem dLen_n (h : k ≠ 7 ∧ k ≠ 8 ∧ k ≠ 23 ∧ k ≠ 27 ∧ k ≠ 31 ∧ k ≠ 35) : dLen (pU A k v) = dLen A := by
  unfold dLen; rw [pU_n (by omega), pU_n (by omega), pU_n (by omega), pU_n (by omega), pU_n (by omega), pU_n (by omega)]
theorem dAb_s (hs : s < 4) : dAb (pU A (59 + 8 * s + 4) v) = dAb A - A (59 + 8 * s + 4) + v := by
  have c : s = 0 ∨ s = 1 ∨ s = 2 ∨ s = 3 := by omega
  rcases c with rfl | rfl | rfl | rfl <;> simp [dAb, pU] <;> grind
theorem dOwn_s (hs : s < 4) : dOwn (pU A (59 + 8 * s + 7) v) = dOwn A - A (59 + 8 * s + 7) + v := by
  have c : s = 0 ∨ s = 1 ∨ s = 2 ∨ s = 3 := by omega
  rcases c with rfl | rfl | rfl | rfl <;> simp [dOwn, pU] <;> grind
theorem dLen_8 : dLen (pU A 8 v) = dLen A - A 8 + v := by
  unfold dLen
  rw [pU_n (by decide), pU_n (by decide), pU_n (by decide), pU_n (by decide), pU_n (by decide), pU_s]
  grind
theorem sAc_cg (h : sAc A) (e : ∀ k, rel0 k → B k = A k) : sAc B := by
  unfold sAc dAb dOwn dLen at *
  rw [e 16 (by unfold rel0; omega), e 2 (by unfold rel0; omega), e 17 (by unfold rel0; omega), e 18 (by unfold rel0; omega), e 63 (by unfold rel0; omega), e 71 (by unfold rel0; omega), e 79 (by unfold rel0; omega), e 87 (by unfold rel0; omega), e 66 (by unfold rel0; omega), e 74 (by unfold rel0; omega), e 82 (by unfold rel0; omega), e 90 (by unfold rel0; omega), e 7 (by unfold rel0; omega), e 8 (by unfold rel0; omega), e 23 (by unfold rel0; omega), e 27 (by unfold rel0; omega), e 31 (by unfold rel0; omega), e 35 (by unfold rel0; omega)]
  exact h
theorem sFL_cg (h : sFL A) (e4 : B 4 = A 4) (e : ∀ k, 23 ≤ k → k < 39 → B k = A k) : sFL B := fun z hz h4 => by
  rw [e _ (by omega) (by omega), e _ (by omega) (by omega)]
  exact h z hz (by rw [← e4]; exact h4)
theorem sSh_cg (hs : s < 4) (h : sSh A s) (e5 : B 5 = A 5) (e : ∀ k, k = 0 ∨ k = 1 ∨ k = 3 → B (59 + 8 * s + k) = A (59 + 8 * s + k)) : sSh B s := by
  have e0 : B (59 + 8 * s) = A (59 + 8 * s) := e 0 (by omega)
  unfold sSh at *
  rw [e5, e0, e 1 (by omega), e 3 (by omega)]
  exact h
theorem sDl_cg (h : sDl A s) (e5 : B (59 + 8 * s + 5) = A (59 + 8 * s + 5)) (e6 : B (59 + 8 * s + 6) = A (59 + 8 * s + 6)) : sDl B s := by
  unfold sDl at *
  rw [e5, e6]
  exact h
/-- a change of accounts, of cable and of what is laid -/
theorem SD_acc (h : SD K A) (e : ∀ k, rel k → k ≠ 2 → k ≠ 7 → k ≠ 8 → k ≠ 16 → k ≠ 17 → k ≠ 18 → (∀ s, s < 4 → k ≠ 59 + 8 * s + 4 ∧ k ≠ 59 + 8 * s + 7) → B k = A k) (ac : sAc B) : SD K B := by
  obtain ⟨h1, h2, h3, h4, h5, h6⟩ := h
  have e' : ∀ k, rel k → k ≠ 2 → k ≠ 7 → k ≠ 8 → k ≠ 16 → k ≠ 17 → k ≠ 18 → k < 59 → B k = A k := fun k a b c d e1 f g i => e k a b c d e1 f g (fun s _ => ⟨by omega, by omega⟩)
  have e5 : B 5 = A 5 := e' 5 (by unfold rel rel0; omega) (by omega) (by omega) (by omega) (by omega) (by omega) (by omega) (by omega)
  have es : ∀ s j, s < 4 → j < 8 → j ≠ 4 → j ≠ 7 → B (59 + 8 * s + j) = A (59 + 8 * s + j) := fun s j hs hj h4 h7 => e _ (by unfold rel rel0; omega) (by omega) (by omega) (by omega) (by omega) (by omega) (by omega) (fun t ht => ⟨by omega, by omega⟩)
  refine ⟨?_, fun s hs => sSh_cg hs (h2 s hs) e5 (fun k hk => es s k hs (by omega) (by omega) (by omega)), fun s hs => sDl_cg (h3 s hs) (es s 5 hs (by omega) (by omega) (by omega)) (es s 6 hs (by omega) (by omega) (by omega)), ac, ?_, ?_⟩
  · rw [e' 4 (by unfold rel rel0; omega) (by omega) (by omega) (by omega) (by omega) (by omega) (by omega) (by omega)]; exact h1
  · unfold sCo
    rw [e' 19 (by unfold rel rel0; omega) (by omega) (by omega) (by omega) (by omega) (by omega) (by omega) (by omega), e' 20 (by unfold rel rel0; omega) (by omega) (by omega) (by omega) (by omega) (by omega) (by omega) (by omega)]
    exact h5
  · rw [e' 9 (by unfold rel rel0; omega) (by omega) (by omega) (by omega) (by omega) (by omega) (by omega) (by omega)]
    exact ⟨h6.1, h6.2.1, sFL_cg h6.2.2 (e' 4 (by unfold rel rel0; omega) (by omega) (by omega) (by omega) (by omega) (by omega) (by omega) (by omega)) (fun k k1 k2 => e' k (by unfold rel; omega) (by omega) (by omega) (by omega) (by omega) (by omega) (by omega) (by omega))⟩
theorem SD_cg (h : SD K A) (e : ∀ k, rel k → B k = A k) : SD K B := SD_acc h (fun k hk _ _ _ _ _ _ _ => e k hk) (sAc_cg h.2.2.2.1 (fun k hk => e k (Or.inl hk)))
/-- a change of where ships are -/
theorem SD_dl (h : SD K A) (e : ∀ k, rel k → (∀ s, s < 4 → k ≠ 59 + 8 * s + 5 ∧ k ≠ 59 + 8 * s + 6) → B k = A k) (dl : ∀ s, s < 4 → sDl B s) : SD K B := by
  obtain ⟨h1, h2, h3, h4, h5, h6⟩ := h
  have e' : ∀ k, rel k → k < 59 → B k = A k := fun k a b => e k a (fun s _ => ⟨by omega, by omega⟩)
  have es : ∀ s j, s < 4 → j < 8 → j ≠ 5 → j ≠ 6 → B (59 + 8 * s + j) = A (59 + 8 * s + j) := fun s j hs hj h5 h6 => e _ (by unfold rel rel0; omega) (fun t ht => ⟨by omega, by omega⟩)
  have x : ∀ k, 59 ≤ k → k < 91 → k % 8 = 7 ∨ k % 8 = 2 → B k = A k := fun k k1 k2 k3 => e k (by unfold rel rel0; omega) (fun t ht => ⟨by omega, by omega⟩)
  refine ⟨?_, fun s hs => sSh_cg hs (h2 s hs) (e' 5 (by unfold rel rel0; omega) (by omega)) (fun k hk => es s k hs (by omega) (by omega) (by omega)), dl, ?_, ?_, ?_⟩
  · rw [e' 4 (by unfold rel rel0; omega) (by omega)]; exact h1
  · unfold sAc dAb dOwn dLen at *
    rw [e' 16 (by unfold rel rel0; omega) (by omega), e' 2 (by unfold rel rel0; omega) (by omega), e' 17 (by unfold rel rel0; omega) (by omega), e' 18 (by unfold rel rel0; omega) (by omega), x 63 (by omega) (by omega) (by omega), x 71 (by omega) (by omega) (by omega), x 79 (by omega) (by omega) (by omega), x 87 (by omega) (by omega) (by omega), x 66 (by omega) (by omega) (by omega), x 74 (by omega) (by omega) (by omega), x 82 (by omega) (by omega) (by omega), x 90 (by omega) (by omega) (by omega), e' 7 (by unfold rel rel0; omega) (by omega), e' 8 (by unfold rel rel0; omega) (by omega), e' 23 (by unfold rel rel0; omega) (by omega), e' 27 (by unfold rel rel0; omega) (by omega), e' 31 (by unfold rel rel0; omega) (by omega), e' 35 (by unfold rel rel0; omega) (by omega)]
    exact h4
  · unfold sCo
    rw [e' 19 (by unfold rel rel0; omega) (by omega), e' 20 (by unfold rel rel0; omega) (by omega)]
    exact h5
  · rw [e' 9 (by unfold rel rel0; omega) (by omega)]
    exact ⟨h6.1, h6.2.1, sFL_cg h6.2.2 (e' 4 (by unfold rel rel0; omega) (by omega)) (fun k k1 k2 => e' k (by unfold rel; omega) (by omega))⟩
theorem dTake_n (h2 : k ≠ 2) (h4 : k ≠ 59 + 8 * s + 4) : dTake s u A k = A k := by unfold dTake; rw [pU_n h4, pU_n h2]
theorem SD_take (h : SD K A) (hs : s < 4) : SD K (dTake s u A) := by
  refine SD_acc h (fun k _ k2 _ _ _ _ _ ks => dTake_n k2 (ks s hs).1) ?_
  obtain ⟨a1, a2, a3⟩ := h.2.2.2.1
  refine ⟨?_, ?_, ?_⟩
  · unfold dTake
    rw [dAb_s hs, dAb_n (by omega), pU_n (by omega), pU_n (by omega), pU_n (by omega), pU_s, pU_n (by omega), pU_n (by omega), pU_n (by omega), pU_n (by omega), pU_n (by omega)]
    grind
  · unfold dTake
    rw [dOwn_n (by omega), dOwn_n (by omega), pU_n (by omega), pU_n (by omega)]; exact a2
  · unfold dTake
    rw [dLen_n (by omega), dLen_n (by omega), pU_n (by omega), pU_n (by omega)]; exact a3
theorem SD_buy (h : SD K A) : SD K (dBuy u A) := by
  refine SD_acc h (fun k hk k2 _ _ k16 _ _ _ => ?_) ?_
  · have : k ≠ 22 := by unfold rel rel0 at hk; omega
    unfold dBuy; rw [pU_n this, pU_n k16, pU_n k2]
  · obtain ⟨a1, a2, a3⟩ := h.2.2.2.1
    refine ⟨?_, ?_, ?_⟩
    · unfold dBuy
      rw [dAb_n (by omega), dAb_n (by omega), dAb_n (by omega)]
      simp [pU]
      grind
    · unfold dBuy
      rw [dOwn_n (by omega), dOwn_n (by omega), dOwn_n (by omega)]; simp [pU]; exact a2
    · unfold dBuy
      rw [dLen_n (by omega), dLen_n (by omega), dLen_n (by omega)]; simp [pU]; exact a3
theorem SD_ext {z : Nat} (h : SD K A) (hz : z < 9) (hu : 0 ≤ u) (h2 : 0 ≤ A (23 + 4 * z + 2) ∧ A (23 + 4 * z + 2) ≤ 999) (h3 : A (23 + 4 * z + 2) + u ≤ 999) (hu2 : u ≤ 99) : SD K (dExt z u A) := by
  have e : ∀ k, k ≠ 21 → k ≠ 23 + 4 * z + 2 → dExt z u A k = A k := fun k k1 k2 => by unfold dExt; rw [pU_n k1, pU_n k2]
  refine ⟨?_, fun s hs => sSh_cg hs (h.2.1 s hs) (e 5 (by decide) (by omega)) (fun k hk => e _ (by omega) (by omega)), fun s hs => sDl_cg (h.2.2.1 s hs) (e _ (by omega) (by omega)) (e _ (by omega) (by omega)), sAc_cg h.2.2.2.1 (fun k hk => e k (by unfold rel0 at hk; omega) (by unfold rel0 at hk; omega)), ?_, ?_⟩
  · rw [e 4 (by decide) (by omega)]; exact h.1
  · unfold sCo
    rw [e 19 (by decide) (by omega), e 20 (by decide) (by omega)]; exact h.2.2.2.2.1
  · obtain ⟨h6, h7, h8⟩ := h.2.2.2.2.2
    rw [e 9 (by decide) (by omega)]
    refine ⟨h6, h7, fun t ht h4 => ?_⟩
    rw [e 4 (by decide) (by omega)] at h4
    have q := h8 t ht h4
    by_cases c : t = z
    · subst c
      rw [e _ (by omega) (by omega), show dExt t u A (23 + 4 * t + 2) = A (23 + 4 * t + 2) + u by unfold dExt; rw [pU_n (by omega), pU_s]]
      grind
    · rw [e _ (by omega) (by omega), e _ (by omega) (by omega)]; exact q
theorem SD_wv {i : Nat} (h : SD K A) : SD K (pU A (91 + i) v) :=
  SD_cg h (fun k hk => by unfold rel rel0 at hk; rw [pU_n (by omega)])
theorem SD_send (h : SD K A) (hs : s < 4) (h7 : 0 ≤ A 7 ∧ A 7 ≤ 9) : SD K (dSend s A) := by
  refine SD_dl h (fun k _ ks => ?_) (fun t ht => ?_)
  · unfold dSend; rw [pU_n (ks s hs).2, pU_n (ks s hs).1]
  · by_cases e : t = s
    · subst e
      have e5 : dSend t A (59 + 8 * t + 5) = 1 := by unfold dSend; rw [pU_n (by omega), pU_s]
      have e6 : dSend t A (59 + 8 * t + 6) = A 7 + 1 := by unfold dSend; rw [pU_s]
      unfold sDl; rw [e5, e6]
      exact ⟨fun _ => by grind, fun y => absurd rfl y⟩
    · refine sDl_cg (h.2.2.1 t ht) ?_ ?_ <;> (unfold dSend; rw [pU_n (by omega), pU_n (by omega)])
theorem dHome_6 {s : Nat} {d : Int32} : dHome A s d (59 + 8 * s + 6) = d := by unfold dHome; exact pU_s
theorem SD_home (h : SD K A) (hs : s < 4) (hd : 1 ≤ d) : SD K (dHome A s d) := by
  refine SD_dl h (fun k hk ks => ?_) (fun t ht => ?_)
  · exact dHome_n (by unfold rel rel0 at hk; omega) (by unfold rel rel0 at hk; omega) (ks s hs).1 (ks s hs).2
  · by_cases e : t = s
    · subst e
      unfold sDl; rw [dHome_5, dHome_6]
      exact ⟨fun _ => hd, fun _ y => absurd rfl y⟩
    · refine sDl_cg (h.2.2.1 t ht) ?_ ?_ <;> exact dHome_n (by omega) (by omega) (by omega) (by omega)
theorem dWay_1 (hA : WF K A) : 1 ≤ dWay A := by
  have q4 := hA.2.2.1.2.2.2.1
  have q7 := hA.2.2.1.2.2.2.2.2.1
  unfold dWay
  split
  · exact q4.1
  · grind
theorem SD_recall (hA : WF K A) (h : SD K A) (hs : s < 4) : SD K (dRecall s A) := by
  unfold dRecall
  refine SD_home ?_ hs (dWay_1 hA)
  split
  · exact SD_cg h (fun k hk => dRestOn_n (by unfold rel rel0 at hk; omega))
  · exact h
theorem WS_take (h : WS K A) (hs : s < 4) (hp : nI s < A 5) (hu : 0 ≤ u ∧ u ≤ A 2 ∧ u ≤ A (59 + 8 * s) - A (59 + 8 * s + 4)) : WS K (dTake s u A) := ⟨WF_take h.1 hs hp hu, SD_take h.2 hs⟩
theorem WF_7 (hA : WF K A) : 0 ≤ A 7 ∧ A 7 ≤ 9 := by
  have q4 := hA.2.2.1.2.2.2.1
  have q7 := hA.2.2.1.2.2.2.2.2.1
  grind
theorem WS_send (h : WS K A) (hs : s < 4) (hp : nI s < A 5) (hw : A (59 + 8 * s + 5) = 0) : WS K (dSend s A) := ⟨WF_send h.1 hs hp hw, SD_send h.2 hs (WF_7 h.1)⟩
theorem WS_buy (h : WS K A) (hu : 0 ≤ A 2 + u ∧ A 2 + u ≤ 9999) : WS K (dBuy u A) := ⟨WF_buy h.1 hu, SD_buy h.2⟩
theorem WS_ext {z : Nat} (h : WS K A) (hz : z < 9) (hz4 : nI z < A 4) (hu : 0 ≤ d ∧ d ≤ 99) (h3 : A (23 + 4 * z + 2) + d ≤ 999) : WS K (dExt z d A) := by
  obtain ⟨-, -, w2, -⟩ := h.1.2.2.2.2.2.2.1 z hz hz4
  exact ⟨WF_ext h.1 hz ⟨by grind, h3⟩, SD_ext h.2 hz hu.1 w2 h3 hu.2⟩
theorem WS_wv {i : Nat} (h : WS K A) : WS K (pU A (91 + i) v) := ⟨WF_wv h.1, SD_wv h.2⟩
theorem WS_recall (h : WS K A) (hs : s < 4) (hw : A (59 + 8 * s + 5) = 2 ∨ A (59 + 8 * s + 5) = 3) : WS K (dRecall s A) := ⟨WF_recall h.1 hs hw, SD_recall h.1 h.2 hs⟩
end
