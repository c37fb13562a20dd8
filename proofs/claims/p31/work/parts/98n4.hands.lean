section
variable {F x K : Nat} {M : zMi} {A B : Pg} {R R' : Rs} {s z f m a : Nat} {d v4 v7 w v v10 : Int32}
theorem l_h550 {b p : Int32} (h : Ob K M x B R') (hS : R'.2.2 0 = some A) (hc : Hc A d v4 v7 w f s z) (hF : 1573 < F) (hK : K + 99 < 1000000) (hv : v = A (23 + 4 * z + 2)) (m1 : 1 ≤ m) (m9 : m ≤ 99) : Go (f_L_hands_550 F x p d v4 (nI s) (nI z) v7 w (nI m) v b b M) M x K A (rClr R') 1 := by
  unfold f_L_hands_550
  refine Go_if rfl (Go_rd (l_sound h (by omega)) (Go_ifn (by decide) ?_))
  refine Go_bind (t_resY (s := 0) (B := A) h (by omega) (by decide) hS) (fun _ h' => Go_if hc.1.symm ?_)
  exact l_h574 (R := rClr R') ⟨h', hS⟩ hc hF hK hv m1 m9
theorem l_h518 {b c p : Int32} (h : Ob K M x B R') (hS : R'.2.2 0 = some A) (hc : Hc A d v4 v7 w f s z) (hF : 1573 < F) (hK : K + 99 < 1000000) (hv : v = A (23 + 4 * z + 2)) (m1 : 1 ≤ m) (m9 : m ≤ 99) (h2 : B 2 = v10) : Go (f_L_hands_518 F x p d v4 (nI s) (nI z) v7 w v10 (nI m) v b c (c + b) M) M x K A (rClr R') 1 := by
  have hu : 1 ≤ nI m ∧ nI m ≤ 999 := ⟨nI_le (a := 1) m1 (by omega), nI_le (b := 999) (by omega) (by decide)⟩
  unfold f_L_hands_518
  refine Go_if rfl ?_
  by_cases k : 9999 < B 2 + nI m
  · refine Go_bind (t_buyN h hu k) (fun _ h' => Go_if (by rw [← h2]; exact k) ?_)
    exact l_h550 h' hS hc hF hK hv m1 m9
  · refine Go_bind (t_buyY h (by omega) (by omega) hu k) (fun _ h' => Go_ifn (by rw [← h2]; exact k) ?_)
    rw [← h2]
    exact l_h550 (R' := rPush B R') h' hS hc hF hK hv m1 m9
theorem l_h422 (h : Oh K M x A R) (hc : Hc A d v4 v7 w f s z) (hF : 1573 < F) (hK : K + 99 < 1000000) (ha : a < 2147483648) : Go (f_L_hands_422 F x (nI a) d v4 (nI s) (nI z) v7 w (A 2) 1 M) M x K A (rClr R) 1 := by
  obtain ⟨c1, c2, c3, c4, c5, c6, c7, c8, c9⟩ := id hc
  obtain ⟨⟨-, -, z2, -⟩, -⟩ := t_z5 (F := F) h.1 c8 c9
  have a6 := (t_a (F := F) h.1 (by omega)).2.2.2.1
  have hm : a / 16 % 99 < 99 := Nat.mod_lt _ (by decide)
  unfold f_L_hands_422
  rw [show nI a / (16 : Int32) = nI (a / 16) from div_N ha (by decide) (by decide) rfl, show nI (a / 16) - nI (a / 16) / (99 : Int32) * (99 : Int32) = nI (a / 16 % 99) from rem_N (dlt ha) (by decide) (by decide) rfl, one_N]
  generalize hm' : 1 + a / 16 % 99 = m
  have m1 : 1 ≤ m := by omega
  have m9 : m ≤ 99 := by omega
  have hu : 1 ≤ nI m ∧ nI m ≤ 99 := ⟨nI_le (a := 1) m1 (by omega), nI_le (b := 99) (by omega) (by decide)⟩
  refine Go_bnd (Go_rd z2 (Go_rd a6 (Go_ifn (by decide) ?_)))
  by_cases k : 999 < A (23 + 4 * z + 2) + nI m
  · refine Go_bind (t_extN h.1 c8 c9 hu k) (fun _ h' => Go_if k ?_)
    unfold f_L_hands_487
    have a6' := (t_a (F := F) h' (by omega)).2.2.2.1
    refine Go_if rfl (Go_rd a6' (Go_if k ?_))
    have := l_h518 (F := F) (b := 0) (c := A 21) (p := nI a) (v10 := A 2) h' h.2 hc hF hK rfl m1 m9 rfl
    rw [show A 21 + 0 = A 21 by grind] at this
    exact this
  · refine Go_bind (t_extY h.1 (by omega) (by omega) c8 c9 hu k) (fun _ h' => Go_ifn k ?_)
    unfold f_L_hands_487
    have a6' := (t_a (F := F) h' (by omega)).2.2.2.1
    rw [show dExt z (nI m) A 21 = A 21 + 50 * nI m by unfold dExt; exact pU_s] at a6'
    refine Go_if rfl (Go_rd a6' (Go_ifn k ?_))
    exact l_h518 (R' := rPush A R) h' h.2 hc hF hK rfl m1 m9 (by unfold dExt; rw [pU_n (by decide), pU_n (by omega)])
theorem l_h396 {q : Int32} (h : Ob K M x B R') (hS : R'.2.2 0 = some A) (hc : Hc A d v4 v7 w f s z) (hF : 1573 < F) (hK : K + 99 < 1000000) (ha : a < 2147483648) (hq : 0 ≤ q) : Go (f_L_hands_396 F x (nI a) d v4 (nI s) (nI z) v7 w (A 2) q M) M x K A (rClr R') 1 := by
  unfold f_L_hands_396
  refine Go_rd (l_sound h (by omega)) (Go_ifn (by decide) (Go_ifn (by grind) ?_))
  refine Go_bind (t_resY (s := 0) (B := A) h (by omega) (by decide) hS) (fun _ h' => Go_if hc.1.symm ?_)
  exact l_h422 (R := rClr R') ⟨h', hS⟩ hc hF hK ha
-- ---- a ship called home
theorem dRestOn_hi {k : Nat} (h : k ≠ 13 ∧ k ≠ 14 ∧ k ≠ 15) : dRestOn A k = A k := by
  unfold dRestOn
  split
  · exact pU_n h.1
  · split
    · exact pU_n h.2.1
    · split
      · exact pU_n h.2.2
      · rfl
theorem dRecall_5 : dRecall s A (59 + 8 * s + 5) = 4 := by
  unfold dRecall dHome
  rw [pU_n (by omega), pU_s]
theorem dRecall_o {t : Nat} (hn : t ≠ s) (ht : t < 4) (hs : s < 4) : dRecall s A (59 + 8 * t + 5) = A (59 + 8 * t + 5) := by
  unfold dRecall dHome
  rw [pU_n (by omega), pU_n (by omega), pU_n (by omega), pU_n (by omega)]
  split
  · exact dRestOn_hi ⟨by omega, by omega, by omega⟩
  · rfl
theorem dRecall_10 (h3 : A (59 + 8 * s + 5) = 3) : dRecall s A 10 = 0 := by
  unfold dRecall dHome
  rw [pU_n (by omega), pU_n (by omega), pU_n (by omega), pU_s, if_pos]
  split
  · rw [dRestOn_hi ⟨by omega, by omega, by omega⟩]; exact h3
  · exact h3
theorem dFi_9 (h0 : B 64 ≠ 3) (h1 : B 72 ≠ 3) (h2 : B 80 ≠ 3) (h3 : B 88 ≠ 3) : dFi B = -9 := by
  unfold dFi dF
  rw [if_neg h0, if_neg h1, if_neg h2, if_neg h3, if_pos rfl]
theorem dRecall_f (hA : WF K A) (hs : s < 4) (h3 : A (59 + 8 * s + 5) = 3) : dFi (dRecall s A) = -9 := by
  obtain ⟨o1, o2, o3⟩ := hA.2.2.2.2.2.1.2.2
  have e5 : ∀ t, t = s → dRecall s A (59 + 8 * t + 5) ≠ 3 := fun t ht => by rw [ht, dRecall_5]; decide
  have eo : ∀ t, t ≠ s → t < 4 → A (59 + 8 * t + 5) ≠ 3 → dRecall s A (59 + 8 * t + 5) ≠ 3 := fun t ht h4 k => by rw [dRecall_o ht h4 hs]; exact k
  have c : s = 0 ∨ s = 1 ∨ s = 2 ∨ s = 3 := by omega
  rcases c with rfl | rfl | rfl | rfl
  · exact dFi_9 (e5 0 rfl) (eo 1 (by decide) (by decide) (o1 h3).1) (eo 2 (by decide) (by decide) (o1 h3).2.1) (eo 3 (by decide) (by decide) (o1 h3).2.2)
  · exact dFi_9 (eo 0 (by decide) (by decide) (fun y => (o1 y).1 h3)) (e5 1 rfl) (eo 2 (by decide) (by decide) (o2 h3).1) (eo 3 (by decide) (by decide) (o2 h3).2)
  · exact dFi_9 (eo 0 (by decide) (by decide) (fun y => (o1 y).2.1 h3)) (eo 1 (by decide) (by decide) (fun y => (o2 y).1 h3)) (e5 2 rfl) (eo 3 (by decide) (by decide) (o3 h3))
  · exact dFi_9 (eo 0 (by decide) (by decide) (fun y => (o1 y).2.2 h3)) (eo 1 (by decide) (by decide) (fun y => (o2 y).2 h3)) (eo 2 (by decide) (by decide) (fun y => o3 y h3)) (e5 3 rfl)
/-- a team freed by a ship called home must rest -/
theorem rest_free (hA : WF K A) (h2 : A 10 = 2) (e0 : B 0 = A 0) (e10 : B 10 ≠ 2) (e : ∀ k, k = 13 ∨ k = 14 ∨ k = 15 → B k = dRestOn A k) : dFree B = dFree A := by
  have r := fun t (ht : t < 3) => hA.2.1.2 t ht
  have r0 := r 0 (by decide)
  have r1 := r 1 (by decide)
  have r2 := r 2 (by decide)
  have hr := (hA.2.2.2.2.1 h2).2.2.2
  have h0 := hA.2.1.1
  simp only [Nat.add_zero, Nat.reduceAdd] at r0 r1 r2
  unfold rs at hr
  unfold dFree
  rw [e0, if_neg e10, if_pos h2, e 13 (Or.inl rfl), e 14 (Or.inr (Or.inl rfl)), e 15 (Or.inr (Or.inr rfl))]
  unfold dRestOn
  by_cases c0 : A 13 = 0
  · rw [if_pos c0, pU_s, pU_n (by decide), pU_n (by decide), if_pos (show (0 : Int32) < 2 by decide), c0, if_neg (show ¬ (0 : Int32) < 0 by decide)]
    grind
  · rw [if_neg c0]
    have p0 : 0 < A 13 := by grind
    rw [if_pos p0] at hr ⊢
    by_cases c1 : 1 < A 0 ∧ A 14 = 0
    · rw [if_pos c1, pU_s, pU_n (by decide), pU_n (by decide), if_pos (show (0 : Int32) < 2 by decide), c1.2, if_neg (show ¬ (0 : Int32) < 0 by decide), if_pos p0]
      grind
    · rw [if_neg c1]
      by_cases c2 : 2 < A 0 ∧ A 15 = 0
      · rw [if_pos c2, pU_s, pU_n (by decide), pU_n (by decide), if_pos (show (0 : Int32) < 2 by decide), c2.2, if_neg (show ¬ (0 : Int32) < 0 by decide), if_pos p0]
        grind
      · exfalso
        rcases h0 with h0 | h0 | h0 <;> rw [h0] at hr c1 c2 r1 r2
        · have : (if 0 < A 14 then 1 else 0 : Int32) = 0 ∨ (if 0 < A 14 then 1 else 0 : Int32) = 1 := by split; exact Or.inr rfl; exact Or.inl rfl
          have : (if 0 < A 15 then 1 else 0 : Int32) = 0 ∨ (if 0 < A 15 then 1 else 0 : Int32) = 1 := by split; exact Or.inr rfl; exact Or.inl rfl
          grind
        · have k1 : A 14 ≠ 0 := fun y => c1 ⟨by decide, y⟩
          have k2 : 0 < A 14 := by have := r1.1; grind
          rw [if_pos k2] at hr
          have : (if 0 < A 15 then 1 else 0 : Int32) = 0 ∨ (if 0 < A 15 then 1 else 0 : Int32) = 1 := by split; exact Or.inr rfl; exact Or.inl rfl
          grind
        · have k1 : A 14 ≠ 0 := fun y => c1 ⟨by decide, y⟩
          have k2 : 0 < A 14 := by have := r1.1; grind
          have k3 : A 15 ≠ 0 := fun y => c2 ⟨by decide, y⟩
          have k4 : 0 < A 15 := by have := r2.1; grind
          rw [if_pos k2, if_pos k4] at hr
          exact absurd hr (by decide)
theorem dRecall_free (hA : WF K A) (hs : s < 4) (hw : A (59 + 8 * s + 5) = 2 ∨ A (59 + 8 * s + 5) = 3) : dFree (dRecall s A) = dFree A := by
  have hi : ∀ P : Pg, ∀ k, k < 10 ∨ (11 < k ∧ k < 59) → dHome P s (dWay A) k = P k := fun P k hk => by
    unfold dHome
    rw [pU_n (by omega), pU_n (by omega), pU_n (by omega), pU_n (by omega)]
  have h10 : ∀ P : Pg, dHome P s (dWay A) 10 = if P (59 + 8 * s + 5) = 3 then 0 else P 10 := fun P => by
    unfold dHome
    rw [pU_n (by omega), pU_n (by omega), pU_n (by omega), pU_s]
  by_cases c : A (59 + 8 * s + 5) = 3 ∧ A 10 = 2
  · have e : dRecall s A = dHome (dRestOn A) s (dWay A) := by unfold dRecall; rw [if_pos c]
    refine rest_free hA c.2 ?_ ?_ (fun k hk => ?_)
    · rw [e, hi _ _ (by omega), dRestOn_hi ⟨by decide, by decide, by decide⟩]
    · rw [dRecall_10 c.1]; decide
    · rw [e, hi _ _ (by omega)]
  · have e : dRecall s A = dHome A s (dWay A) := by unfold dRecall; rw [if_neg c]
    unfold dFree
    rw [e, hi _ 0 (by omega), hi _ 13 (by omega), hi _ 14 (by omega), hi _ 15 (by omega), h10]
    by_cases c3 : A (59 + 8 * s + 5) = 3
    · have k : A 10 ≠ 2 := fun y => c ⟨c3, y⟩
      rw [if_pos c3, if_neg k, if_neg (by decide)]
    · rw [if_neg c3]
end
