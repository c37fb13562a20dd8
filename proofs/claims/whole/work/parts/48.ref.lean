section
variable {F r : Nat} {M : zMi} {A : Pg}
theorem m_in13 {x : Int32} : f_X11_in F x.toInt64 1 3 M = some (if 1 ≤ x ∧ x ≤ 3 then 1 else 0) := m_in3 (y := 1) (z := 3)
theorem dWts_i {x : Int32} : dWts x = true ↔ (1 ≤ x ∧ x ≤ 3) ∨ x = 5 := by
  unfold dWts
  simp only [Bool.or_eq_true, decide_eq_true_eq]
  grind
noncomputable def bk (v3 v4 : Int32) (f : Nat) (w : Bool) (A : Pg) : Pg :=
  let C2 := pU A 19 (A 19 + v3)
  pU C2 20 (C2 20 + (v4 + (if w = true then C2 (59 + 8 * f + 3) else 0)))
theorem bk_n {v3 v4 : Int32} {f k : Nat} {w : Bool} (h : k ≠ 19) (h2 : k ≠ 20) : bk v3 v4 f w A k = A k := by
  unfold bk; simp only [pU_n h, pU_n h2]
theorem m_182 {f : Nat} {v2 v3 v4 v6 s0 : Int32} {w : Bool} (hF : 4 ≤ F) (ht : wTm A) (hs : (w = false ∧ s0 = 0) ∨ (w = true ∧ s0 = 1 ∧ v2 = nI f ∧ f < 4)) :
    f_X11_dayOn_182 F r v2 v3 v4 v6 s0 (pR M r A) = some (pR M r (mEnd v6 (dRest (bk v3 v4 f w A)))) := by
  have wt : wTm (bk v3 v4 f w A) := by unfold bk; exact wTm_up (wTm_up ht (by decide)) (by decide)
  rw [← m_rst hF wt]
  unfold f_X11_dayOn_182 bk
  rcases hs with ⟨rfl, rfl⟩ | ⟨rfl, rfl, rfl, hf⟩
  · simp only [bnd_e, pR_s, pR_w, ↓reduceIte, Bool.false_eq_true]
  · simp (disch := omega) only [bnd_e, pR_s, pR_w, m_shipAt, cal_s, ad3, inbN, ixN, grd_t, ↓reduceIte, show (1 : Int32) ≠ 0 from by decide]
theorem m_153 {f : Nat} {v2 v3 v4 v6 s0 : Int32} (hF : 4 ≤ F) (ht : wTm A) (hs : dWts s0 = true → v2 = nI f ∧ f < 4) :
    f_X11_dayOn_153 F r v2 v3 v4 v6 s0 (pR M r A) = some (pR M r (mEnd v6 (dRest (bk v3 v4 f (dWts s0) (pU A 9 s0))))) := by
  have wt : wTm (pU A 9 s0) := wTm_up ht (by decide)
  unfold f_X11_dayOn_153
  simp only [bnd_e, pR_w, pR_s, pU_s, m_in13, cal_s]
  have hd := dWts_i (x := s0)
  by_cases h1 : 1 ≤ s0 ∧ s0 ≤ 3
  · have e := hd.mpr (Or.inl h1)
    simp only [h1, and_self, ↓reduceIte, show (1 : Int32) ≠ 0 from by decide]
    exact m_182 hF wt (Or.inr ⟨e, rfl, hs e⟩)
  · simp only [h1, ↓reduceIte]
    by_cases h5 : s0 = 5
    · have e := hd.mpr (Or.inr h5)
      simp only [h5, ↓reduceIte] at *
      exact m_182 hF wt (Or.inr ⟨e, rfl, hs e⟩)
    · have e : dWts s0 = false := by
        cases hq : dWts s0 with
        | false => rfl
        | true => rcases hd.mp hq with x | x
                  · exact absurd x h1
                  · exact absurd x h5
      simp only [h5, ↓reduceIte]
      exact m_182 hF wt (Or.inl ⟨e, rfl⟩)
theorem m_123 {f : Nat} {v2 v3 v4 s0 : Int32} (hF : 4 ≤ F) (ht : wTm A) (hs : dWts s0 = true → v2 = nI f ∧ f < 4) :
    f_X11_dayOn_123 F r v2 v3 v4 s0 (pR M r A) = some (pR M r (mEnd (if s0 = 10 then 1 else 0) (dRest (bk v3 v4 f (dWts (if s0 = 10 then 0 else s0)) (pU A 9 (if s0 = 10 then 0 else s0)))))) := by
  unfold f_X11_dayOn_123 f_X11_dayOn_137
  by_cases h : s0 = 10
  · simp only [h, ↓reduceIte, show (1 : Int32) ≠ 0 from by decide]
    exact m_153 hF ht (fun x => absurd x (by decide))
  · simp only [h, ↓reduceIte]
    exact m_153 hF ht hs
theorem dEnd_m {rc : Int32} {C : Pg} : dEnd rc C = mEnd (if rc = 10 then 1 else 0) (dRest C) := by
  unfold dEnd mEnd
  by_cases h : rc = 10 <;> simp only [h, ↓reduceIte, show (1 : Int32) ≠ 0 from by decide]
theorem dBook_b {B : Pg} {f : Nat} {rc : Int32 × Pg} : dBook B f rc = bk (dSea B) (dWait B) f (dWts (if rc.1 = 10 then 0 else rc.1)) (pU rc.2 9 (if rc.1 = 10 then 0 else rc.1)) := by
  unfold dBook bk
  simp only [pU_s, pU_n (show 9 ≠ 19 from by decide)]
/-- what a day needs of the page behind the sailing and the coming -/
def wDay (B : Pg) : Prop := wFl B ∧ wTm B ∧ (dF B ≠ 4 → (∃ z l c v e, wLay B (dF B) z l c v e) ∧ (∃ d, d < 2147483648 ∧ B 3 = nI d) ∧ ∃ w, 0 < w ∧ w ≤ 30 ∧ B 6 = nI w)
theorem dWork_t {s : Nat} (ht : wTm A) : wTm (dWork A s).2 := by
  have e1 : ∀ {k : Nat} {v : Int32} {B : Pg}, wTm B → k ≠ 0 ∧ (k < 13 ∨ 15 < k) → wTm (pU B k v) := fun h h2 => wTm_up h h2
  have hm : ∀ {B : Pg} {d : Int32}, wTm B → wTm (dHome B s d) := fun h => by
    unfold dHome; exact e1 (e1 (e1 (e1 h (by omega)) (by omega)) (by omega)) (by omega)
  have hl : ∀ {u : Int32}, wTm (dLaid A s u) := by
    intro u; unfold dLaid; exact e1 (e1 (e1 (e1 (e1 ht (by omega)) (by omega)) (by omega)) (by omega)) (by omega)
  have hn : ∀ (B : Pg), wTm B → wTm (dNext B s) := fun B h => by
    unfold dNext
    have k : wTm (pU (pU B 7 (B 7 + 1)) 8 0) := e1 (k := 8) (v := 0) (e1 (k := 7) (v := B 7 + 1) h (by omega)) (by omega)
    dsimp only
    split
    · exact hm k
    · exact k
  unfold dWork dLay
  repeat' split
  all_goals first | exact ht | exact e1 ht (by omega) | exact e1 (e1 ht (by omega)) (by omega) | exact hm ht | exact hn _ hl | exact hl
theorem dWork_r {s : Nat} : (dWork A s).1 = 0 ∨ (dWork A s).1 = 1 ∨ (dWork A s).1 = 2 ∨ (dWork A s).1 = 3 ∨ (dWork A s).1 = 4 ∨ (dWork A s).1 = 5 ∨ (dWork A s).1 = 10 := by
  unfold dWork dLay
  repeat' split
  all_goals simp
theorem m_day (hF : 101 ≤ F) (hA : wFl A) (hS : wFl (dSail A)) (hB : wDay (dCome (dSail A))) (h74 : dSail A 7 = A 7 ∧ dSail A 4 = A 4 ∧ dCome (dSail A) 7 = A 7 ∧ dCome (dSail A) 4 = A 4) : f_X11_dayOn F r (pR M r A) = some (pR M r (dDay A)) := by
  unfold f_X11_dayOn
  rw [m_isFin, cal_s, m_sail (by omega) hA, cal_s, m_come (by omega) hS, cal_s, m_front (by omega) hB.1, cal_s, m_sums (by omega) hB.1]
  unfold dDay
  obtain ⟨i1, i2, i3, i4⟩ := h74
  generalize dCome (dSail A) = B at *
  unfold mTail
  dsimp only
  rw [dEnd_m, dBook_b]
  have hd := dFi_eq B
  by_cases hx : dF B = 4
  · rw [if_pos (hd.mpr hx)]
    unfold dWk
    simp only [hx, ↓reduceIte]
    rw [i3, i4]
    by_cases h7 : A 7 = A 4
    · simp only [h7, ↓reduceIte, show (1 : Int32) ≠ 0 from by decide]
      exact m_123 (by omega) hB.2.1 (fun x => absurd x (by decide))
    · simp only [h7, ↓reduceIte]
      exact m_123 (by omega) hB.2.1 (fun x => absurd x (by decide))
  · rw [if_neg (fun h => hx (hd.mp h))]
    obtain ⟨⟨z, l, c, v, e, hw⟩, ⟨d, hd1, hd2⟩, w, hw0, hw2, hw6⟩ := hB.2.2 hx
    have hle := dF_le B
    have ef : dFi B = nI (dF B) := by unfold dFi; rw [if_neg hx]
    rw [ef, m_work (by omega) hw hd1 hd2 hw0 hw2 hw6 hB.2.1 hF, cal_s]
    unfold dWk
    simp only [hx, ↓reduceIte]
    exact m_123 (by omega) (dWork_t hB.2.1) (fun _ => ⟨rfl, by omega⟩)
end
