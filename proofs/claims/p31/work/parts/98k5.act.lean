section
variable {F x a K : Nat} {M N : zMi} {A : Pg} {R : Rs} {s z : Nat} {p u : Int32}
theorem sIn (hA : WF K A) (hs : s < 4) (hp : nI s < A 5) : 0 ≤ nI s ∧ nI s ≤ A 5 - 1 := by
  have q5 : 1 ≤ A 5 ∧ A 5 ≤ 4 := by rcases hA.1.1 with q | q | q | q <;> rw [q] <;> decide
  exact ⟨nI_pos' (by omega), by grind⟩
theorem zIn (hA : WF K A) (hz : z < 9) (hp : nI z < A 4) : 0 ≤ nI z ∧ nI z ≤ A 4 - 1 := by
  have q4 := hA.2.2.1.2.2.2.1
  exact ⟨nI_pos' (by omega), by grind⟩
-- ---- take
theorem t_takeY (h : Ob K M x A R) (hF : 101 ≤ F) (hK : K < 1000000) (hs : s < 4) (hp : nI s < A 5) (hu : 1 ≤ u ∧ u ≤ 999) (c : canT s u A) : Go (f_L_tryTake F x (nI s) u M) M x K (dTake s u A) (rPush A R) (A (59 + 8 * s + 4) + u) := by
  have hA := h.2.2.1.1
  have hR := h.2.1
  obtain ⟨M1, a1, a2, a3⟩ := Ob_act (F := F) (by omega) h
  obtain ⟨M2, b1, b2, b3⟩ := c_take (F := F) (u := u) a2 hs
  obtain ⟨f2, g2⟩ := a3 M2 b2
  have v2 : M2 (x + 3 + 17 + s) 4 = A (59 + 8 * s + 4) + u := by rw [RC_s b3 hs (by decide)]; unfold dTake; exact pU_s
  rcases c_canTake (F := F) hR hs hu.1 with ⟨c3, e3⟩ | ⟨c3, e3⟩
  · unfold f_L_tryTake f_X10_take f_X10_require
    rw [c_exS hR hA, if_pos (sIn hA hs hp), calp_r, ixN (by omega), c_rr, if_pos hu, calp_r, e3, cal_s, if_neg (show ¬ (1 : Int32) = 0 by decide), calp_r, a1, cal_s, b1, cal_s, calw_r, v2]
    exact ⟨M2, rfl, g2 _ K (Nat.le_refl _) (by omega) b3 (WS_take h.2.2.1 hs hp ⟨by grind, by have := c.2.1; grind, by have := c.2.2; grind⟩), f2⟩
  · exact absurd c c3
theorem t_takeN (h : Ob K M x A R) (hs : s < 4) (hp : nI s < A 5) (hu : 1 ≤ u ∧ u ≤ 999) (c : ¬ canT s u A) : Go (f_L_tryTake F x (nI s) u M) M x K A R (-1003) := by
  have hA := h.2.2.1.1
  have hR := h.2.1
  rcases c_canTake (F := F) hR hs hu.1 with ⟨c3, e3⟩ | ⟨c3, e3⟩
  · exact absurd c3 c
  · unfold f_L_tryTake f_X10_take f_X10_require
    rw [c_exS hR hA, if_pos (sIn hA hs hp), calp_r, ixN (by omega), c_rr, if_pos hu, calp_r, e3, cal_s, if_pos rfl, calp_l, calw_l, if_neg (show ¬ (2 : Nat) = 3 by decide), if_neg (show ¬ (2 : Nat) = 1 by decide), if_pos rfl]
    exact Go_id h
theorem t_takeA (h : Ob K M x A R) (hs : s < 4) (hp : nI s < A 5) (hu : ¬ (1 ≤ u ∧ u ≤ 999)) : Go (f_L_tryTake F x (nI s) u M) M x K A R (-1002) := by
  have hA := h.2.2.1.1
  unfold f_L_tryTake f_X10_take
  rw [c_exS h.2.1 hA, if_pos (sIn hA hs hp), calp_r, ixN (by omega), c_rr, if_neg hu, calp_l, calw_l, if_neg (show ¬ (1 : Nat) = 3 by decide), if_pos rfl]
  exact Go_id h
theorem t_takeI (h : Ob K M x A R) (hp : ¬ (0 ≤ p ∧ p ≤ A 5 - 1)) : Go (f_L_tryTake F x p u M) M x K A R (-1001) := by
  unfold f_L_tryTake f_X10_take
  rw [c_exS h.2.1 h.2.2.1.1, if_neg hp, calp_l, calw_l, if_pos rfl]
  exact Go_id h
-- ---- send
theorem t_sendY (h : Ob K M x A R) (hF : 101 ≤ F) (hK : K < 1000000) (hs : s < 4) (hp : nI s < A 5) (c : A (59 + 8 * s + 5) = 0 ∧ A 7 ≠ A 4) : Go (f_L_trySend F x (nI s) M) M x K (dSend s A) (rPush A R) (A 7 + 1) := by
  have hA := h.2.2.1.1
  have hR := h.2.1
  obtain ⟨M1, a1, a2, a3⟩ := Ob_act (F := F) (by omega) h
  obtain ⟨M2, b1, b2, b3⟩ := c_send (F := F) a2 hs
  obtain ⟨f2, g2⟩ := a3 M2 b2
  have v2 : M2 (x + 3 + 17 + s) 6 = A 7 + 1 := by rw [RC_s b3 hs (by decide)]; unfold dSend; exact pU_s
  unfold f_L_trySend f_X10_send f_X10_require
  rw [c_exS hR hA, if_pos (sIn hA hs hp), calp_r, ixN (by omega), c_canSend hR hs hA.2.2.1.2.2.2.2.2.1.2, cal_s, if_pos c, if_neg (show ¬ (1 : Int32) = 0 by decide), calp_r, a1, cal_s, b1, cal_s, calw_r, v2]
  exact ⟨M2, rfl, g2 _ K (Nat.le_refl _) (by omega) b3 (WS_send h.2.2.1 hs hp c.1), f2⟩
theorem t_sendN (h : Ob K M x A R) (hs : s < 4) (hp : nI s < A 5) (c : ¬ (A (59 + 8 * s + 5) = 0 ∧ A 7 ≠ A 4)) : Go (f_L_trySend F x (nI s) M) M x K A R (-1003) := by
  have hA := h.2.2.1.1
  unfold f_L_trySend f_X10_send f_X10_require
  rw [c_exS h.2.1 hA, if_pos (sIn hA hs hp), calp_r, ixN (by omega), c_canSend h.2.1 hs hA.2.2.1.2.2.2.2.2.1.2, cal_s, if_neg c, if_pos rfl, calp_l, calw_l, if_neg (show ¬ (2 : Nat) = 3 by decide), if_pos rfl]
  exact Go_id h
theorem t_sendI (h : Ob K M x A R) (hp : ¬ (0 ≤ p ∧ p ≤ A 5 - 1)) : Go (f_L_trySend F x p M) M x K A R (-1001) := by
  unfold f_L_trySend f_X10_send
  rw [c_exS h.2.1 h.2.2.1.1, if_neg hp, calp_l, calw_l, if_pos rfl]
  exact Go_id h
-- ---- recall
theorem t_recallY (h : Ob K M x A R) (hF : 101 ≤ F) (hK : K < 1000000) (hs : s < 4) (hp : nI s < A 5) (c : A (59 + 8 * s + 5) = 2 ∨ A (59 + 8 * s + 5) = 3) : Go (f_L_tryRecall F x (nI s) M) M x K (dRecall s A) (rPush A R) (dWay A) := by
  have hA := h.2.2.1.1
  have hR := h.2.1
  obtain ⟨M1, a1, a2, a3⟩ := Ob_act (F := F) (by omega) h
  obtain ⟨M2, b1, b2, b3⟩ := c_recall (F := F) a2 hA hs c
  obtain ⟨f2, g2⟩ := a3 M2 b2
  have v2 : M2 (x + 3 + 17 + s) 6 = dWay A := by rw [RC_s b3 hs (by decide)]; unfold dRecall; exact dHome_6
  unfold f_L_tryRecall f_X10_recall f_X10_require
  rw [c_exS hR hA, if_pos (sIn hA hs hp), calp_r, ixN (by omega), c_canRecall hR hs, cal_s, if_pos c, if_neg (show ¬ (1 : Int32) = 0 by decide), calp_r, a1, cal_s, b1, cal_s, calw_r, v2]
  exact ⟨M2, rfl, g2 _ K (Nat.le_refl _) (by omega) b3 (WS_recall h.2.2.1 hs c), f2⟩
theorem t_recallN (h : Ob K M x A R) (hs : s < 4) (hp : nI s < A 5) (c : ¬ (A (59 + 8 * s + 5) = 2 ∨ A (59 + 8 * s + 5) = 3)) : Go (f_L_tryRecall F x (nI s) M) M x K A R (-1003) := by
  have hA := h.2.2.1.1
  unfold f_L_tryRecall f_X10_recall f_X10_require
  rw [c_exS h.2.1 hA, if_pos (sIn hA hs hp), calp_r, ixN (by omega), c_canRecall h.2.1 hs, cal_s, if_neg c, if_pos rfl, calp_l, calw_l, if_neg (show ¬ (2 : Nat) = 3 by decide), if_pos rfl]
  exact Go_id h
theorem t_recallI (h : Ob K M x A R) (hp : ¬ (0 ≤ p ∧ p ≤ A 5 - 1)) : Go (f_L_tryRecall F x p M) M x K A R (-1001) := by
  unfold f_L_tryRecall f_X10_recall
  rw [c_exS h.2.1 h.2.2.1.1, if_neg hp, calp_l, calw_l, if_pos rfl]
  exact Go_id h
-- ---- extend
theorem t_extY (h : Ob K M x A R) (hF : 101 ≤ F) (hK : K < 1000000) (hz : z < 9) (hp : nI z < A 4) (hu : 1 ≤ u ∧ u ≤ 99) (c : ¬ 999 < A (23 + 4 * z + 2) + u) : Go (f_L_tryExtend F x (nI z) u M) M x K (dExt z u A) (rPush A R) (A (23 + 4 * z + 2) + u) := by
  have hA := h.2.2.1.1
  have hR := h.2.1
  obtain ⟨M1, a1, a2, a3⟩ := Ob_act (F := F) (by omega) h
  obtain ⟨M2, b1, b2, b3⟩ := c_ext (F := F) (d := u) a2 hz hp
  obtain ⟨f2, g2⟩ := a3 M2 b2
  obtain ⟨w0, w1, w2, w3⟩ := hA.2.2.2.2.2.2.1 z hz hp
  have v2 : M2 (x + 3 + 8 + z) 2 = A (23 + 4 * z + 2) + u := by
    rw [RC_z b3 hz (by unfold dExt; rw [pU_n (by omega), pU_n (by omega)]; exact hp) (by decide)]
    unfold dExt; rw [pU_n (by omega), pU_s]
  unfold f_L_tryExtend f_X10_extend f_X10_require
  rw [c_exZ hR hA, if_pos (zIn hA hz hp), calp_r, ixN (by omega), c_rr, if_pos hu, calp_r, c_canExt hR hz hp hu.1, cal_s, if_neg c, if_neg (show ¬ (1 : Int32) = 0 by decide), calp_r, a1, cal_s, b1, cal_s, calw_r, v2]
  exact ⟨M2, rfl, g2 _ K (Nat.le_refl _) (by omega) b3 (WS_ext h.2.2.1 hz hp ⟨by grind, hu.2⟩ (by grind)), f2⟩
theorem t_extN (h : Ob K M x A R) (hz : z < 9) (hp : nI z < A 4) (hu : 1 ≤ u ∧ u ≤ 99) (c : 999 < A (23 + 4 * z + 2) + u) : Go (f_L_tryExtend F x (nI z) u M) M x K A R (-1003) := by
  have hA := h.2.2.1.1
  unfold f_L_tryExtend f_X10_extend f_X10_require
  rw [c_exZ h.2.1 hA, if_pos (zIn hA hz hp), calp_r, ixN (by omega), c_rr, if_pos hu, calp_r, c_canExt h.2.1 hz hp hu.1, cal_s, if_pos c, if_pos rfl, calp_l, calw_l, if_neg (show ¬ (2 : Nat) = 3 by decide), if_neg (show ¬ (2 : Nat) = 1 by decide), if_pos rfl]
  exact Go_id h
theorem t_extA (h : Ob K M x A R) (hz : z < 9) (hp : nI z < A 4) (hu : ¬ (1 ≤ u ∧ u ≤ 99)) : Go (f_L_tryExtend F x (nI z) u M) M x K A R (-1002) := by
  have hA := h.2.2.1.1
  unfold f_L_tryExtend f_X10_extend
  rw [c_exZ h.2.1 hA, if_pos (zIn hA hz hp), calp_r, ixN (by omega), c_rr, if_neg hu, calp_l, calw_l, if_neg (show ¬ (1 : Nat) = 3 by decide), if_pos rfl]
  exact Go_id h
theorem t_extI (h : Ob K M x A R) (hp : ¬ (0 ≤ p ∧ p ≤ A 4 - 1)) : Go (f_L_tryExtend F x p u M) M x K A R (-1001) := by
  unfold f_L_tryExtend f_X10_extend
  rw [c_exZ h.2.1 h.2.2.1.1, if_neg hp, calp_l, calw_l, if_pos rfl]
  exact Go_id h
-- ---- buy
theorem t_buyE (h : Ob K M x A R) : f_X5_canPurchase F (x + 3) u M = some (if 1 ≤ u then (if 9999 < A 2 + u then 0 else 1) else 0) := by
  unfold f_X5_canPurchase
  rw [h.2.1.1.2.2.1]
  by_cases c : 1 ≤ u
  · rw [if_neg (show ¬ u < 1 by grind), if_pos c]; split <;> rfl
  · rw [if_pos (show u < 1 by grind), if_neg c]
theorem t_buyY (h : Ob K M x A R) (hF : 101 ≤ F) (hK : K < 1000000) (hu : 1 ≤ u ∧ u ≤ 999) (c : ¬ 9999 < A 2 + u) : Go (f_L_tryBuy F x u M) M x K (dBuy u A) (rPush A R) (A 2 + u) := by
  have hA := h.2.2.1.1
  have q2 := hA.2.2.1.2.1
  obtain ⟨M1, a1, a2, a3⟩ := Ob_act (F := F) (by omega) h
  obtain ⟨M2, b1, b2, b3⟩ := c_buy (F := F) (u := u) a2
  obtain ⟨f2, g2⟩ := a3 M2 b2
  have v2 : M2 (x + 3) 7 = A 2 + u := by
    have : M2 (x + 3) 7 = dBuy u A 2 := b3.1.2.2.1
    rw [this]; unfold dBuy; rw [pU_n (by decide), pU_n (by decide), pU_s]
  unfold f_L_tryBuy f_X10_buy f_X10_require
  rw [c_rr, if_pos hu, calp_r, t_buyE h, cal_s, if_pos hu.1, if_neg c, if_neg (show ¬ (1 : Int32) = 0 by decide), calp_r, a1, cal_s, b1, cal_s, calw_r, v2]
  exact ⟨M2, rfl, g2 _ K (Nat.le_refl _) (by omega) b3 (WS_buy h.2.2.1 ⟨by grind, by grind⟩), f2⟩
theorem t_buyN (h : Ob K M x A R) (hu : 1 ≤ u ∧ u ≤ 999) (c : 9999 < A 2 + u) : Go (f_L_tryBuy F x u M) M x K A R (-1003) := by
  unfold f_L_tryBuy f_X10_buy f_X10_require
  rw [c_rr, if_pos hu, calp_r, t_buyE h, cal_s, if_pos hu.1, if_pos c, if_pos rfl, calp_l, calw_l, if_neg (show ¬ (2 : Nat) = 1 by decide), if_pos rfl]
  exact Go_id h
theorem t_buyA (h : Ob K M x A R) (hu : ¬ (1 ≤ u ∧ u ≤ 999)) : Go (f_L_tryBuy F x u M) M x K A R (-1002) := by
  unfold f_L_tryBuy f_X10_buy
  rw [c_rr, if_neg hu, calp_l, calw_l, if_pos rfl]
  exact Go_id h
-- ---- setWaves
theorem t_swY {i w : Nat} (h : Ob K M x A R) (hF : 101 ≤ F) (hK : K < 1000000) (hw1 : w ≤ 30) (hw : A 6 = nI w) (hi : i < w) (hu : 0 ≤ u ∧ u ≤ 9) : Go (f_L_trySetWaves F x (nI i) u M) M x K (pU A (91 + i) u) (rPush A R) (A (91 + i)) := by
  have hR := h.2.1
  obtain ⟨M1, a1, a2, a3⟩ := Ob_act (F := F) (by omega) h
  obtain ⟨M2, b1, b2, b3⟩ := c_change (F := F) (i := i) (w := w) (v := u) a2 hi hw1 hw
  obtain ⟨f2, g2⟩ := a3 M2 b2
  have hc : 0 ≤ nI i ∧ nI i ≤ A 6 - 1 := by
    rw [hw]
    have y1 := nI_lt (a := i) (b := w) hi (by omega)
    have y2 := nI_le (a := w) (b := 30) hw1 (by decide)
    have y3 : 0 ≤ nI i := nI_pos' (by omega)
    have y4 : (nI 30 : Int32) = 30 := rfl
    exact ⟨y3, by grind⟩
  unfold f_L_trySetWaves f_X10_setWaves
  rw [show M (x + 3 + 3) 0 = A 6 from hR.2.2.1.1, c_rr, if_pos hc, calp_r, c_rr, if_pos hu, calp_r, a1, cal_s, b1, cal_s, calw_r]
  exact ⟨M2, rfl, g2 _ K (Nat.le_refl _) (by omega) b3 (WS_wv h.2.2.1), f2⟩
theorem t_swA (h : Ob K M x A R) (c : ¬ (0 ≤ p ∧ p ≤ A 6 - 1) ∨ ¬ (0 ≤ u ∧ u ≤ 9)) : Go (f_L_trySetWaves F x p u M) M x K A R (-1002) := by
  have hR := h.2.1
  unfold f_L_trySetWaves f_X10_setWaves
  rw [show M (x + 3 + 3) 0 = A 6 from hR.2.2.1.1, c_rr]
  by_cases c1 : 0 ≤ p ∧ p ≤ A 6 - 1
  · rw [if_pos c1, calp_r, c_rr, if_neg (c.resolve_left (fun y => y c1)), calp_l, calw_l, if_pos rfl]
    exact Go_id h
  · rw [if_neg c1, calp_l, calw_l, if_pos rfl]
    exact Go_id h
-- ---- pass
theorem t_passY {d : Nat} (h : Ob K M x A R) (hF : 101 ≤ F) (hK : K + 99 < 1000000) (hd : 1 ≤ d ∧ d ≤ 99) : Go (f_L_tryPass F x (nI d) M) M x (K + d) (dDays d A) (rPush A R) (dDays d A 17 - A 17) := by
  have hA := h.2.2.1.1
  obtain ⟨M1, a1, a2, a3⟩ := Ob_act (F := F) (by omega) h
  obtain ⟨M2, b1, b2, b3⟩ := c_days (F := F) (n := d) (by omega) a2 hA (by omega) (by omega) (by omega)
  obtain ⟨f2, g2⟩ := a3 M2 b2
  have e1 : M1 (x + 3 + 7) 1 = A 17 := a2.2.1.2.1
  have e2 : M2 (x + 3 + 7) 1 = dDays d A 17 := b3.2.1.2.1
  have hc : 1 ≤ nI d ∧ nI d ≤ 99 := ⟨nI_le (a := 1) hd.1 (by omega), nI_le (b := 99) hd.2 (by decide)⟩
  unfold f_L_tryPass f_X10_pass
  rw [c_rr, if_pos hc, calp_r, a1, cal_s, bnd_e, b1, cal_s, e1, e2, calw_r]
  exact ⟨M2, rfl, g2 _ (K + d) (by omega) (by omega) b3 (WS_days h.2.2.1 (by omega)), f2⟩
theorem t_passA (h : Ob K M x A R) (hu : ¬ (1 ≤ u ∧ u ≤ 99)) : Go (f_L_tryPass F x u M) M x K A R (-1002) := by
  unfold f_L_tryPass f_X10_pass
  rw [c_rr, if_neg hu, calp_l, calw_l, if_pos rfl]
  exact Go_id h
-- ---- undo
theorem t_undoN (h : Ob K M x A R) (c : R.2.1.1 = 0) : Go (f_L_tryUndo F x M) M x K A R (-1003) := by
  obtain ⟨g1, o, g2, g3, g4, g5⟩ := h.2.2.2.1
  rw [c] at g4
  unfold f_L_tryUndo f_X10_undo f_X10_require
  rw [g4, if_neg (show ¬ (0 : Int32) < nI 0 by decide), if_pos rfl, calp_l, calw_l, if_pos rfl]
  exact Go_id h
theorem t_undoY (h : Ob K M x A R) (hF : 101 ≤ F) (c : 0 < R.2.1.1) : Go (f_L_tryUndo F x M) M x K (R.2.1.2 (R.2.1.1 - 1)) (rPop R) (nI (R.2.1.1 - 1)) := by
  have h' := h
  obtain ⟨t, r1, w1, ⟨g1, o, g2, g3, g4, g5⟩, sl⟩ := h'
  obtain ⟨d, hd⟩ : ∃ d, R.2.1.1 = d + 1 := ⟨R.2.1.1 - 1, by omega⟩
  rw [hd] at g1 g4 g5 ⊢
  obtain ⟨q1, q2⟩ := g5 d (by omega)
  obtain ⟨M2, a1, a2, a3, a4, a5⟩ := c_takeBack (F := F) (h := x + 45) (p := x + 3) (by omega) g2 (by omega) g1 g3 g4 (by omega) q1
  rw [Nat.add_sub_cancel] at a1 a5 ⊢
  unfold f_L_tryUndo f_X10_undo f_X10_require
  rw [g4, if_pos (show (0 : Int32) < nI (d + 1) from nI_lt (a := 0) (by omega) (by omega)), if_neg (show ¬ (1 : Int32) = 0 by decide), calp_r, a1, cal_s, calw_r]
  refine ⟨M2, rfl, ⟨⟨t.1, by rw [a2 _ (by omega) (by omega)]; exact t.2.1, fun j hj => by rw [a2 _ (by omega) (by omega)]; exact t.2.2 j hj⟩, a3, q2, ?_, fun s hs => ?_⟩, fun q hq => a2 q (by omega) (by omega)⟩
  · show HL K M2 (x + 45) (R.2.1.1 - 1) R.2.1.2
    rw [hd, Nat.add_sub_cancel]
    refine ⟨by omega, o, g2, a4, a5, fun k hk => ?_⟩
    obtain ⟨y1, y2⟩ := g5 k (by omega)
    have hm : (o + k) % 14 < 14 := Nat.mod_lt _ (by decide)
    exact ⟨RC_fr y1 (fun q z1 z2 => a2 q (by omega) (by omega)), y2⟩
  · rcases sl s hs with ⟨y1, y2⟩ | ⟨B, y1, y2, y3, y4⟩
    · exact Or.inl ⟨y1, by rw [a2 _ (by omega) (by omega)]; exact y2⟩
    · exact Or.inr ⟨B, y1, by rw [a2 _ (by omega) (by omega)]; exact y2, RC_fr y3 (fun q z1 z2 => a2 q (by omega) (by omega)), y4⟩
-- ---- save slots
theorem t_saveI (h : Ob K M x A R) (hp : ¬ (0 ≤ p ∧ p ≤ 1)) : Go (f_L_trySave F x p M) M x K A R (-1001) := by
  unfold f_L_trySave f_X10_save
  rw [c_slot, if_neg hp, calp_l, calw_l, if_pos rfl]
  exact Go_id h
theorem slIn (hs : s < 2) : 0 ≤ nI s ∧ nI s ≤ 1 := ⟨nI_pos' (by omega), nI_le (b := 1) (by omega) (by decide)⟩
theorem t_saveY (h : Ob K M x A R) (hF : 101 ≤ F) (hs : s < 2) : Go (f_L_trySave F x (nI s) M) M x K A (rSet s A R) (A 3) := by
  have h' := h
  obtain ⟨t, r1, w1, ⟨g1, o, g2, g3, g4, g5⟩, sl⟩ := h'
  obtain ⟨M1, a1, a2, a3⟩ := c_copy (F := F) (a := x + 343 + 22 * s) (b := x + 3) (by omega) (by omega) r1
  generalize hM2 : wI M1 (x + 342 + 22 * s) 1 1 = M2
  have e2 : ∀ q, q ≠ x + 342 + 22 * s → (q < x + 343 + 22 * s ∨ x + 343 + 22 * s + 20 < q) → M2 q = M q := fun q q1 q2 => by rw [← hM2, wI_ne q1]; exact a2 q q2
  have e3 : ∀ q, x + 343 + 22 * s ≤ q → q ≤ x + 343 + 22 * s + 20 → M2 q = M1 q := fun q q1 q2 => by rw [← hM2, wI_ne (by omega)]
  have v2 : M2 (x + 3) 8 = A 3 := by rw [e2 _ (by omega) (by omega)]; exact r1.1.2.2.2.1
  unfold f_L_trySave f_X10_save
  rw [c_slot, if_pos (slIn hs), calp_r, ixN (by omega), show x + 342 + 22 * s + 1 = x + 343 + 22 * s from by omega, a1, cal_s, hM2, bnd_e, calw_r, v2]
  refine ⟨M2, rfl, ⟨⟨t.1, by rw [e2 _ (by omega) (by omega)]; exact t.2.1, fun j hj => by rw [e2 _ (by omega) (by omega)]; exact t.2.2 j hj⟩, RC_fr r1 (fun q q1 q2 => e2 q (by omega) (by omega)), w1, ⟨g1, o, g2, by rw [e2 _ (by omega) (by omega)]; exact g3, by rw [e2 _ (by omega) (by omega)]; exact g4, fun k hk => ?_⟩, fun s' hs' => ?_⟩, fun q hq => e2 q (by omega) (by omega)⟩
  · obtain ⟨y1, y2⟩ := g5 k hk
    have hm : (o + k) % 14 < 14 := Nat.mod_lt _ (by decide)
    exact ⟨RC_fr y1 (fun q z1 z2 => e2 q (by omega) (by omega)), y2⟩
  · show ((if s' = s then some A else R.2.2 s') = none ∧ _) ∨ ∃ B, (if s' = s then some A else R.2.2 s') = some B ∧ _
    by_cases es : s' = s
    · subst es
      rw [if_pos rfl]
      exact Or.inr ⟨A, rfl, by rw [← hM2]; simp [wI], RC_fr a3 (fun q z1 z2 => e3 q z1 z2), w1⟩
    · rw [if_neg es]
      rcases sl s' hs' with ⟨y1, y2⟩ | ⟨B, y1, y2, y3, y4⟩
      · exact Or.inl ⟨y1, by rw [e2 _ (by omega) (by omega)]; exact y2⟩
      · exact Or.inr ⟨B, y1, by rw [e2 _ (by omega) (by omega)]; exact y2, RC_fr y3 (fun q z1 z2 => e2 q (by omega) (by omega)), y4⟩
theorem t_resI (h : Ob K M x A R) (hp : ¬ (0 ≤ p ∧ p ≤ 1)) : Go (f_L_tryRestore F x p M) M x K A R (-1001) := by
  unfold f_L_tryRestore f_X10_restore
  rw [c_slot, if_neg hp, calp_l, calw_l, if_pos rfl]
  exact Go_id h
theorem t_resN (h : Ob K M x A R) (hs : s < 2) (c : R.2.2 s = none) : Go (f_L_tryRestore F x (nI s) M) M x K A R (-1003) := by
  have y : M (x + 342 + 22 * s) 1 = 0 := by
    rcases h.2.2.2.2 s hs with ⟨y1, y2⟩ | ⟨B, y1, y2, y3, y4⟩
    · exact y2
    · rw [c] at y1; cases y1
  unfold f_L_tryRestore f_X10_restore f_X10_require
  rw [c_slot, if_pos (slIn hs), calp_r, ixN (by omega), y, if_pos rfl, calp_l, calw_l, if_neg (show ¬ (2 : Nat) = 3 by decide), if_pos rfl]
  exact Go_id h
theorem t_resY {B : Pg} (h : Ob K M x A R) (hF : 101 ≤ F) (hs : s < 2) (c : R.2.2 s = some B) : Go (f_L_tryRestore F x (nI s) M) M x K B (rClr R) (B 3) := by
  have h' := h
  obtain ⟨t, r1, w1, ⟨g1, o, g2, g3, g4, g5⟩, sl⟩ := h'
  obtain ⟨s2, s3, s4⟩ : M (x + 342 + 22 * s) 1 = 1 ∧ RC M (x + 343 + 22 * s) B ∧ WS K B := by
    rcases sl s hs with ⟨y1, y2⟩ | ⟨B', y1, y2, y3, y4⟩
    · rw [c] at y1; cases y1
    · rw [c] at y1; cases y1; exact ⟨y2, y3, y4⟩
  obtain ⟨M1, a1, a2, a3⟩ := c_copy (F := F) (a := x + 3) (b := x + 343 + 22 * s) (by omega) (by omega) s3
  generalize hM2 : wI (wI M1 (x + 45) 1 0) (x + 45) 2 0 = M2
  have e2 : ∀ q, q ≠ x + 45 → (q < x + 3 ∨ x + 23 < q) → M2 q = M q := fun q q1 q2 => by rw [← hM2, wI_ne q1, wI_ne q1]; exact a2 q (by omega)
  have e3 : ∀ q, x + 3 ≤ q → q ≤ x + 23 → M2 q = M1 q := fun q q1 q2 => by rw [← hM2, wI_ne (by omega), wI_ne (by omega)]
  have v2 : M2 (x + 3) 8 = B 3 := by rw [e3 _ (by omega) (by omega)]; exact a3.1.2.2.2.1
  unfold f_L_tryRestore f_X10_restore f_X10_require
  rw [c_slot, if_pos (slIn hs), calp_r, ixN (by omega), s2, if_neg (show ¬ (1 : Int32) = 0 by decide), calp_r, show x + 342 + 22 * s + 1 = x + 343 + 22 * s from by omega, a1, cal_s]
  unfold f_X0_clear
  rw [bnd_e, bnd_e, hM2, cal_s, calw_r, v2]
  refine ⟨M2, rfl, ⟨⟨t.1, by rw [e2 _ (by omega) (by omega)]; exact t.2.1, fun j hj => by rw [e2 _ (by omega) (by omega)]; exact t.2.2 j hj⟩, RC_fr a3 (fun q q1 q2 => e3 q (by omega) (by omega)), s4, ⟨Nat.zero_le _, 0, by decide, by rw [← hM2]; simp [wI]; rfl, by rw [← hM2]; simp [wI]; rfl, fun k hk => absurd hk (Nat.not_lt_zero _)⟩, fun s' hs' => ?_⟩, fun q hq => e2 q (by omega) (by omega)⟩
  rcases sl s' hs' with ⟨y1, y2⟩ | ⟨B', y1, y2, y3, y4⟩
  · exact Or.inl ⟨y1, by rw [e2 _ (by omega) (by omega)]; exact y2⟩
  · exact Or.inr ⟨B', y1, by rw [e2 _ (by omega) (by omega)]; exact y2, RC_fr y3 (fun q z1 z2 => e2 q (by omega) (by omega)), y4⟩
end
