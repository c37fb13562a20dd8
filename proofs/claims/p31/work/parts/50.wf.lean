section
variable {A B : Pg} {K : Nat}
def rs (A : Pg) : Int32 := (if 0 < A 13 then 1 else 0) + (if 0 < A 14 then 1 else 0) + (if 0 < A 15 then 1 else 0)
def wZn (A : Pg) (z : Nat) : Prop := (1 ≤ A (23 + 4 * z) ∧ A (23 + 4 * z) ≤ 99) ∧ (0 ≤ A (23 + 4 * z + 1) ∧ A (23 + 4 * z + 1) ≤ 99) ∧ (0 ≤ A (23 + 4 * z + 2) ∧ A (23 + 4 * z + 2) ≤ 999) ∧ (0 ≤ A (23 + 4 * z + 3) ∧ A (23 + 4 * z + 3) ≤ 9)
def wSh (A : Pg) (s : Nat) : Prop := (0 ≤ A (59 + 8 * s) ∧ A (59 + 8 * s) ≤ 999) ∧ (0 ≤ A (59 + 8 * s + 1) ∧ A (59 + 8 * s + 1) ≤ 20) ∧ (0 ≤ A (59 + 8 * s + 4) ∧ A (59 + 8 * s + 4) ≤ A (59 + 8 * s)) ∧ (0 ≤ A (59 + 8 * s + 5) ∧ A (59 + 8 * s + 5) ≤ 4)
def wGen (K : Nat) (A : Pg) : Prop := (1 ≤ A 1 ∧ A 1 ≤ 3) ∧ (0 ≤ A 2 ∧ A 2 ≤ 9999) ∧ (0 ≤ A 3 ∧ A 3 ≤ nI K) ∧ (1 ≤ A 4 ∧ A 4 ≤ 9) ∧ (1 ≤ A 6 ∧ A 6 ≤ 30) ∧ (0 ≤ A 7 ∧ A 7 ≤ A 4) ∧ (0 ≤ A 8 ∧ A 8 ≤ 99 ∧ (A 7 = A 4 → A 8 = 0)) ∧ (0 ≤ A 10 ∧ A 10 ≤ 2) ∧ (A 10 ≠ 2 → A 11 = 0) ∧ (0 ≤ A 17 ∧ A 17 ≤ 99 * A 7 + A 8)
def wCur (A : Pg) : Prop := ∀ z, z < 9 → A 7 = nI z → nI z < A 4 → A 8 < A (23 + 4 * z)
def wSpl (b : Prop) (A : Pg) : Prop := A 10 = 2 → (b → A 11 = 0) ∧ (¬ b → 1 ≤ A 11) ∧ A 11 ≤ 3 ∧ rs A < A 0
def wOne (A : Pg) : Prop := (A 64 = 3 → A 72 ≠ 3 ∧ A 80 ≠ 3 ∧ A 88 ≠ 3) ∧ (A 72 = 3 → A 80 ≠ 3 ∧ A 88 ≠ 3) ∧ (A 80 = 3 → A 88 ≠ 3)
def wFr (A : Pg) : Prop := (A 7 = A 4 → dF A = 4) ∧ (dF A = 4 → A 10 = 0) ∧ wOne A
/-- what holds of a page; b: a splice is just done, and not yet written -/
def WG (b : Prop) (K : Nat) (A : Pg) : Prop := wFl A ∧ wTm A ∧ wGen K A ∧ wCur A ∧ wSpl b A ∧ wFr A ∧ (∀ z, z < 9 → nI z < A 4 → wZn A z) ∧ ∀ s, s < 4 → wSh A s
abbrev WF (K : Nat) (A : Pg) : Prop := WG False K A
theorem dF_cg (h0 : B 64 = 3 ↔ A 64 = 3) (h1 : B 72 = 3 ↔ A 72 = 3) (h2 : B 80 = 3 ↔ A 80 = 3) (h3 : B 88 = 3 ↔ A 88 = 3) : dF B = dF A := by
  unfold dF; simp only [h0, h1, h2, h3]
theorem wZn_c {z : Nat} (h : ∀ k, k < 4 → B (23 + 4 * z + k) = A (23 + 4 * z + k)) (hz : wZn A z) : wZn B z := by
  have h0 := h 0 (by decide)
  have h1 := h 1 (by decide)
  have h2 := h 2 (by decide)
  have h3 := h 3 (by decide)
  rw [Nat.add_zero] at h0
  unfold wZn; rw [h0, h1, h2, h3]; exact hz
/-- pages that differ at the ships' places alone -/
theorem WG_ships {b : Prop} (hA : WG b K A) (h : ∀ k, k < 59 → B k = A k) (hl : wFl B) (hw : ∀ s, s < 4 → (B (59 + 8 * s + 5) = 3 ↔ A (59 + 8 * s + 5) = 3)) (hs : ∀ s, s < 4 → wSh B s) : WG b K B := by
  obtain ⟨-, g2, g3, g4, g5, g6, g7, -⟩ := hA
  have e0 : B 64 = 3 ↔ A 64 = 3 := hw 0 (by decide)
  have e1 : B 72 = 3 ↔ A 72 = 3 := hw 1 (by decide)
  have e2 : B 80 = 3 ↔ A 80 = 3 := hw 2 (by decide)
  have e3 : B 88 = 3 ↔ A 88 = 3 := hw 3 (by decide)
  refine ⟨hl, ⟨by rw [h 0 (by decide)]; exact g2.1, fun t ht => by rw [h (13 + t) (by omega), h 0 (by decide)]; exact g2.2 t ht⟩, ?_, ?_, ?_, ?_, ?_, hs⟩
  · unfold wGen; rw [h 1 (by decide), h 2 (by decide), h 3 (by decide), h 4 (by decide), h 6 (by decide), h 7 (by decide), h 8 (by decide), h 10 (by decide), h 11 (by decide), h 17 (by decide)]; exact g3
  · intro z hz; rw [h 7 (by decide), h 4 (by decide), h 8 (by decide), h (23 + 4 * z) (by omega)]; exact g4 z hz
  · unfold wSpl rs; rw [h 10 (by decide), h 11 (by decide), h 0 (by decide), h 13 (by decide), h 14 (by decide), h 15 (by decide)]; exact g5
  · unfold wFr wOne; rw [dF_cg e0 e1 e2 e3, h 7 (by decide), h 4 (by decide), h 10 (by decide)]
    simp only [ne_eq, e0, e1, e2, e3]; exact g6
  · intro z hz hm; rw [h 4 (by decide)] at hm; exact wZn_c (fun k hk => h _ (by omega)) (g7 z hz hm)
theorem wFl_pres (h : wFl A) {s : Nat} (hs : s < 4) (hw : A (59 + 8 * s + 5) ≠ 0) : nI s < A 5 := by
  by_cases hq : nI s < A 5
  · exact hq
  · exact absurd (h.2 s hs hq 5 (by decide)) hw
theorem wSh_c {s : Nat} (h0 : B (59 + 8 * s) = A (59 + 8 * s)) (h1 : B (59 + 8 * s + 1) = A (59 + 8 * s + 1)) (h4 : B (59 + 8 * s + 4) = A (59 + 8 * s + 4)) (h5 : 0 ≤ B (59 + 8 * s + 5) ∧ B (59 + 8 * s + 5) ≤ 4) (h : wSh A s) : wSh B s := by
  unfold wSh; rw [h0, h1, h4]; exact ⟨h.1, h.2.1, h.2.2.1, h5⟩
theorem dSail1_w {s : Nat} (hs : 0 ≤ A (59 + 8 * s + 5) ∧ A (59 + 8 * s + 5) ≤ 4) : (dSail1 s A (59 + 8 * s + 5) = 3 ↔ A (59 + 8 * s + 5) = 3) ∧ 0 ≤ dSail1 s A (59 + 8 * s + 5) ∧ dSail1 s A (59 + 8 * s + 5) ≤ 4 := by
  unfold dSail1
  simp (disch := omega) only [apply_ite (fun f : Pg => f (59 + 8 * s + 5)), pU_s, pU_n]
  grind
theorem wFl_sail1 (h : wFl A) {s : Nat} (hs : s < 4) : wFl (dSail1 s A) := by
  by_cases hw : A (59 + 8 * s + 5) = 0
  · rw [dSail1_z hw]; exact h
  · have hp := wFl_pres h hs hw
    have w6 : ∀ v, wFl (pU A (59 + 8 * s + 6) v) := fun v => wFl_sh h hs hp (by decide)
    have w5 : ∀ v x, wFl (pU (pU A (59 + 8 * s + 6) v) (59 + 8 * s + 5) x) := fun v x => wFl_sh (w6 v) hs (by rw [pU_n (by omega)]; exact hp) (by decide)
    unfold dSail1
    repeat' split
    all_goals first | exact w5 _ _ | exact w6 _ | exact h
theorem WF_sail1 {b : Prop} (hA : WG b K A) {s : Nat} (hs : s < 4) : WG b K (dSail1 s A) := by
  have hsh := hA.2.2.2.2.2.2.2
  refine WG_ships hA (fun k hk => dSail1_n (by omega) (by omega)) (wFl_sail1 hA.1 hs) (fun t ht => ?_) (fun t ht => ?_)
  · by_cases e : t = s
    · subst e; exact (dSail1_w (hsh t ht).2.2.2).1
    · rw [dSail1_n (by omega) (by omega)]
  · refine wSh_c (dSail1_n (by omega) (by omega)) (dSail1_n (by omega) (by omega)) (dSail1_n (by omega) (by omega)) ?_ (hsh t ht)
    by_cases e : t = s
    · subst e; exact (dSail1_w (hsh t ht).2.2.2).2
    · rw [dSail1_n (by omega) (by omega)]; exact (hsh t ht).2.2.2
theorem WF_sail {b : Prop} (hA : WG b K A) : WG b K (dSail A) := WF_sail1 (WF_sail1 (WF_sail1 (WF_sail1 hA (by decide)) (by decide)) (by decide)) (by decide)
theorem dSail_n {k : Nat} (hk : k < 59) : dSail A k = A k := by
  unfold dSail
  rw [dSail1_n (by omega) (by omega), dSail1_n (by omega) (by omega), dSail1_n (by omega) (by omega), dSail1_n (by omega) (by omega)]
end
