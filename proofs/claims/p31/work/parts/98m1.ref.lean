section
variable {F x K K' : Nat} {M M' : zMi} {A A' : Pg} {R R' : Rs} {v w : Int32}
theorem Go_bind {f : Option (Int32 × zMi)} {k : Int32 × zMi → Option (Int32 × zMi)} (g : Go f M x K A R v) (h : ∀ M', Ob K M' x A R → Go (k (v, M')) M' x K' A' R' w) : Go (cal f k) M x K' A' R' w := by
  obtain ⟨M1, e1, o1, f1⟩ := g
  obtain ⟨M2, e2, o2, f2⟩ := h M1 o1
  exact ⟨M2, by rw [e1]; exact e2, o2, fO_t f1 f2⟩
theorem Go_rd {f : Option Int32} {k : Int32 → Option (Int32 × zMi)} (e : f = some v) (h : Go (k v) M x K' A' R' w) : Go (cal f k) M x K' A' R' w := by
  rw [e]; exact h
theorem Go_if {p : Prop} {inst : Decidable p} {f g : Option (Int32 × zMi)} (c : p) (h : Go f M x K A R v) : Go (if p then f else g) M x K A R v := by rw [if_pos c]; exact h
theorem Go_ifn {p : Prop} {inst : Decidable p} {f g : Option (Int32 × zMi)} (c : ¬ p) (h : Go g M x K A R v) : Go (if p then f else g) M x K A R v := by rw [if_neg c]; exact h
theorem Go_bnd {α : Type} {y : α} {k : α → Option (Int32 × zMi)} (h : Go (k y) M x K A R v) : Go (bnd y k) M x K A R v := h
theorem z_no (hA : WF K A) : ¬ (0 ≤ A 4 ∧ A 4 ≤ A 4 - 1) := by
  have q4 := hA.2.2.1.2.2.2.1
  grind
theorem s_no (hA : WF K A) : ¬ (0 ≤ A 5 ∧ A 5 ≤ A 5 - 1) := by
  have q5 : 1 ≤ A 5 ∧ A 5 ≤ 4 := by rcases hA.1.1 with q | q | q | q <;> rw [q] <;> decide
  grind
theorem s_0 (hA : WF K A) : nI 0 < A 5 := by rcases hA.1.1 with q | q | q | q <;> rw [q] <;> decide
theorem z_0 (hA : WF K A) : nI 0 < A 4 := by
  have q4 := hA.2.2.1.2.2.2.1
  show (0 : Int32) < A 4
  grind
theorem l_ref387 (h : Ob K M x A R) (hF : 1573 < F) : Go (f_L_refuses_387 F x (A 4) (A 5) 1 M) M x K A R 1 := by
  have hA := h.2.2.1.1
  have zn := z_no hA
  have sn := s_no hA
  have z0 : 0 ≤ (0 : Int32) ∧ 0 ≤ A 4 - 1 := zIn hA (z := 0) (by decide) (z_0 hA)
  have s0 : 0 ≤ (0 : Int32) ∧ 0 ≤ A 5 - 1 := sIn hA (s := 0) (by decide) (s_0 hA)
  unfold f_L_refuses_387
  refine Go_ifn (by decide) ?_
  refine Go_rd (v := -1001) (by rw [t_nd h]; unfold aNd; rw [if_neg zn]) (Go_if rfl ?_)
  refine Go_rd (v := -1002) (by rw [t_nd h]; unfold aNd; rw [if_pos z0, if_neg (by decide)]) (Go_if rfl ?_)
  refine Go_rd (v := -1001) (by rw [t_rc h]; unfold aRc; rw [if_neg sn]) (Go_if rfl ?_)
  refine Go_rd (v := -1001) (by rw [t_rc h]; unfold aRc; rw [if_pos s0, if_neg zn]) (Go_if rfl ?_)
  refine Go_rd (v := -1001) (t_cdN h (Or.inr zn)) (Go_if rfl ?_)
  refine Go_bind (t_ahA h (Or.inl (by decide))) (fun _ h => Go_if rfl ?_)
  refine Go_bind (t_ahA h (Or.inr (by decide))) (fun _ h => Go_if rfl ?_)
  refine Go_bind (t_daI h zn) (fun _ h => Go_if rfl ?_)
  refine Go_bind (t_exI h (by omega) (by have := zn; intro y; exact absurd y.1 (by decide))) (fun _ h => Go_if rfl ?_)
  refine Go_bind (t_scA h (by decide)) (fun _ h => Go_if rfl ?_)
  refine Go_bind (t_scA1 (g := 100000) h (by omega) (by decide) (by decide)) (fun _ h => Go_if rfl ?_)
  refine Go_bind (t_siA h (by decide)) (fun _ h => Go_if rfl ?_)
  refine Go_bind (t_saveI h (by decide)) (fun _ h => Go_if rfl ?_)
  refine Go_bind (t_resI h (by decide)) (fun _ h => Go_if rfl ?_)
  refine Go_bind (t_apA h (by decide)) (fun _ h => Go_if rfl ?_)
  exact Go_id h
theorem l_ref272 (h : Ob K M x A R) (hF : 1573 < F) : Go (f_L_refuses_272 F x (A 4) (A 5) M) M x K A R 1 := by
  have hA := h.2.2.1.1
  have zn := z_no hA
  obtain ⟨w, w0, w1, hw⟩ := WF_6 hA
  have sw : ¬ (0 ≤ (30 : Int32) ∧ 30 ≤ A 6 - 1) := by
    have y2 : A 6 ≤ 30 := by rw [hw]; exact nI_le (b := 30) w1 (by decide)
    have y3 : 0 ≤ A 6 := by rw [hw]; exact nI_pos' (by omega)
    grind
  unfold f_L_refuses_272
  refine Go_bind (t_extI h zn) (fun _ h => Go_if rfl ?_)
  refine Go_bind (t_extA (z := 0) h (by decide) (z_0 hA) (by decide)) (fun _ h => Go_if rfl ?_)
  refine Go_bind (t_extA (z := 0) h (by decide) (z_0 hA) (by decide)) (fun _ h => Go_if rfl ?_)
  refine Go_bind (t_buyA h (by decide)) (fun _ h => Go_if rfl ?_)
  refine Go_bind (t_buyA h (by decide)) (fun _ h => Go_if rfl ?_)
  refine Go_bind (t_swA h (Or.inl sw)) (fun _ h => Go_if rfl ?_)
  refine Go_bind (t_swA h (Or.inr (by decide))) (fun _ h => Go_if rfl ?_)
  refine Go_bind (t_passA h (by decide)) (fun _ h => Go_if rfl ?_)
  refine Go_bind (t_passA h (by decide)) (fun _ h => Go_if rfl ?_)
  exact l_ref387 h hF
theorem l_ref240 (h : Ob K M x A R) (hF : 1573 < F) : Go (f_L_refuses_240 F x (A 4) (A 5) (A 64) M) M x K A R 1 := by
  have hA := h.2.2.1.1
  unfold f_L_refuses_240
  refine Go_bind (t_recallI h (by intro y; exact absurd y.1 (by decide))) (fun _ h => Go_if rfl ?_)
  by_cases c2 : A 64 = 2
  · exact Go_if c2 (l_ref272 h hF)
  · refine Go_ifn c2 ?_
    by_cases c3 : A 64 = 3
    · exact Go_if c3 (l_ref272 h hF)
    · refine Go_ifn c3 ?_
      refine Go_bind (t_recallN (s := 0) h (by decide) (s_0 hA) (by rintro (y | y); exact c2 y; exact c3 y)) (fun _ h => Go_if rfl ?_)
      exact l_ref272 h hF
theorem l_ref199 {y : Int32} (h : Ob K M x A R) (hF : 1573 < F) (hy : y ≠ 0 → A 7 = A 4) : Go (f_L_refuses_199 F x (A 4) (A 5) (A 64) y M) M x K A R 1 := by
  have hA := h.2.2.1.1
  have cap := (h.2.2.1.2.2.1 0 (by decide) (s_0 hA)).1
  have ab := (hA.2.2.2.2.2.2.2 0 (by decide)).2.2.1
  unfold f_L_refuses_199
  refine Go_bind (t_takeN (s := 0) h (by decide) (s_0 hA) (by decide) (fun y => y.2.2 (by grind))) (fun _ h => Go_if rfl ?_)
  refine Go_bind (t_sendI h (s_no hA)) (fun _ h => Go_if rfl ?_)
  by_cases c : y = 0
  · exact Go_if c (l_ref240 h hF)
  · refine Go_ifn c ?_
    refine Go_bind (t_sendN (s := 0) h (by decide) (s_0 hA) (fun q => q.2 (hy c))) (fun _ h => Go_if rfl ?_)
    exact l_ref240 h hF
theorem l_ref34 {y : Int32} (h : Ob K M x A R) (hF : 1573 < F) (hy : y ≠ 0 → A 7 = A 4) : Go (f_L_refuses_34 F x (A 4) (A 5) (A 64) y M) M x K A R 1 := by
  have hA := h.2.2.1.1
  have zn := z_no hA
  have sn := s_no hA
  have z0 : 0 ≤ (0 : Int32) ∧ 0 ≤ A 4 - 1 := zIn hA (z := 0) (by decide) (z_0 hA)
  have s0 : 0 ≤ (0 : Int32) ∧ 0 ≤ A 5 - 1 := sIn hA (s := 0) (by decide) (s_0 hA)
  unfold f_L_refuses_34
  refine Go_rd (v := -1002) (by rw [t_ab h (by omega)]; simp (decide := true) only [aAb, ↓reduceIte]) (Go_if rfl ?_)
  refine Go_rd (v := -1001) (by rw [t_zn h]; unfold aZn; rw [if_neg zn]) (Go_if rfl ?_)
  refine Go_rd (v := -1002) (by rw [t_zn h]; unfold aZn; rw [if_pos z0]; simp (decide := true) only [↓reduceIte]) (Go_if rfl ?_)
  refine Go_rd (v := -1001) (by rw [t_sh h]; unfold aSh; rw [if_neg sn]) (Go_if rfl ?_)
  refine Go_rd (v := -1002) (by rw [t_sh h]; unfold aSh; rw [if_pos s0]; simp (decide := true) only [↓reduceIte]) (Go_if rfl ?_)
  refine Go_rd (v := -1002) (by rw [t_wv h]; unfold aWv; rw [if_neg (by decide)]) (Go_if rfl ?_)
  refine Go_rd (v := -1002) (by rw [t_wv h]; unfold aWv; rw [if_neg (by decide)]) (Go_if rfl ?_)
  refine Go_rd (v := -1002) (by rw [t_ac h (by omega)]; simp (decide := true) only [aAc, ↓reduceIte]) (Go_if rfl ?_)
  refine Go_bind (t_takeI h sn) (fun _ h => Go_if rfl ?_)
  refine Go_bind (t_takeA (s := 0) h (by decide) (s_0 hA) (by decide)) (fun _ h => Go_if rfl ?_)
  refine Go_bind (t_takeA (s := 0) h (by decide) (s_0 hA) (by decide)) (fun _ h => Go_if rfl ?_)
  by_cases c : A 64 = 0
  · exact Go_if c (l_ref199 h hF hy)
  · refine Go_ifn c ?_
    refine Go_bind (t_takeN (s := 0) h (by decide) (s_0 hA) (by decide) (fun q => c q.1)) (fun _ h => Go_if rfl ?_)
    refine Go_bind (t_sendN (s := 0) h (by decide) (s_0 hA) (fun q => c q.1)) (fun _ h => Go_if rfl ?_)
    exact l_ref199 h hF hy
theorem t_b (h : Ob K M x A R) (hF : 101 ≤ F) : (f_L_tryAbout F x 0 M = some (A 4) ∧ f_L_tryAbout F x 1 M = some (A 5) ∧ f_L_tryAbout F x 2 M = some (A 0) ∧ f_L_tryAbout F x 3 M = some (A 1)) ∧ (f_L_tryAbout F x 4 M = some (A 2) ∧ f_L_tryAbout F x 5 M = some (A 3) ∧ f_L_tryAbout F x 6 M = some (A 7) ∧ f_L_tryAbout F x 7 M = some (A 8)) ∧ (f_L_tryAbout F x 8 M = some (dFi A) ∧ f_L_tryAbout F x 9 M = some (A 9) ∧ f_L_tryAbout F x 10 M = some (A 10) ∧ f_L_tryAbout F x 11 M = some (A 11)) ∧ f_L_tryAbout F x 12 M = some (A 12) ∧ f_L_tryAbout F x 13 M = some (dFree A) := by
  simp only [t_ab h hF, aAb]
  simp (decide := true) only [↓reduceIte, and_self]
theorem t_s5 {s : Nat} (h : Ob K M x A R) (hs : s < 4) (hp : nI s < A 5) : (f_L_tryShip F x (nI s) 0 M = some (A (59 + 8 * s)) ∧ f_L_tryShip F x (nI s) 1 M = some (A (59 + 8 * s + 1)) ∧ f_L_tryShip F x (nI s) 2 M = some (A (59 + 8 * s + 2)) ∧ f_L_tryShip F x (nI s) 3 M = some (A (59 + 8 * s + 3))) ∧ f_L_tryShip F x (nI s) 4 M = some (A (59 + 8 * s + 4)) ∧ f_L_tryShip F x (nI s) 5 M = some (A (59 + 8 * s + 5)) ∧ f_L_tryShip F x (nI s) 6 M = some (A (59 + 8 * s + 6)) ∧ f_L_tryShip F x (nI s) 7 M = some (A (59 + 8 * s + 7)) := by
  have c := sIn h.2.2.1.1 hs hp
  have e : ix (nI s) = s := ixN (by omega)
  simp only [t_sh h, aSh, if_pos c, e]
  simp (decide := true) only [↓reduceIte, and_self]
theorem t_z5 {z : Nat} (h : Ob K M x A R) (hz : z < 9) (hp : nI z < A 4) : (f_L_tryZone F x (nI z) 0 M = some (A (23 + 4 * z)) ∧ f_L_tryZone F x (nI z) 1 M = some (A (23 + 4 * z + 1)) ∧ f_L_tryZone F x (nI z) 2 M = some (A (23 + 4 * z + 2)) ∧ f_L_tryZone F x (nI z) 3 M = some (A (23 + 4 * z + 3))) ∧ f_L_tryZone F x (nI z) 4 M = some (dLeft A (nI z)) := by
  have c := zIn h.2.2.1.1 hz hp
  have e : ix (nI z) = z := ixN (by omega)
  simp only [t_zn h, aZn, if_pos c, e]
  simp (decide := true) only [↓reduceIte, and_self]
theorem t_a (h : Ob K M x A R) (hF : 101 ≤ F) : (f_L_tryAccount F x 0 M = some (A 16) ∧ f_L_tryAccount F x 1 M = some (A 17) ∧ f_L_tryAccount F x 2 M = some (A 18) ∧ f_L_tryAccount F x 3 M = some (dAb A)) ∧ f_L_tryAccount F x 4 M = some (A 19) ∧ f_L_tryAccount F x 5 M = some (A 20) ∧ f_L_tryAccount F x 6 M = some (A 21) ∧ f_L_tryAccount F x 7 M = some (A 22) := by
  simp only [t_ac h (show 5 ≤ F by omega), aAc]
  simp (decide := true) only [↓reduceIte, and_self]
/-- calls that throw change nothing -/
theorem l_refuses (h : Ob K M x A R) (hF : 1573 < F) : Go (f_L_refuses F x M) M x K A R 1 := by
  have hA := h.2.2.1.1
  obtain ⟨⟨b0, b1, -, -⟩, ⟨-, -, b6, -⟩, -, -⟩ := t_b h (show 101 ≤ F by omega)
  have e5 : f_L_tryShip F x 0 5 M = some (A 64) := (t_s5 (s := 0) h (by decide) (s_0 hA)).2.2.1
  unfold f_L_refuses
  refine Go_rd b0 (Go_rd b1 (Go_rd e5 (Go_rd b6 ?_)))
  by_cases c : A 7 = A 4
  · exact Go_if c (l_ref34 h hF (fun _ => c))
  · exact Go_ifn c (l_ref34 h hF (fun y => absurd rfl y))
end
