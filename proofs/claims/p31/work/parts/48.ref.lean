section
variable {F r : Nat} {M : zMi} {A : Pg}
theorem dWts_i {x : Int32} : dWts x = true ↔ (1 ≤ x ∧ x ≤ 3) ∨ x = 5 := by
  unfold dWts
  simp only [Bool.or_eq_true, decide_eq_true_eq]
  grind
noncomputable def bk (v3 v4 : Int32) (f : Nat) (w : Bool) (A : Pg) : Pg :=
  let C2 := pU A 19 (A 19 + v3)
  pU C2 20 (C2 20 + (v4 + (if w = true then C2 (59 + 8 * f + 3) else 0)))
theorem bk_n {v3 v4 : Int32} {f k : Nat} {w : Bool} (h : k ≠ 19) (h2 : k ≠ 20) : bk v3 v4 f w A k = A k := by
  unfold bk; simp only [pU_n h, pU_n h2]
theorem dEnd_m {rc : Int32} {C : Pg} : dEnd rc C = mEnd (if rc = 10 then 1 else 0) (dRest C) := by
  unfold dEnd mEnd
  by_cases h : rc = 10 <;> simp only [h, ↓reduceIte, show (1 : Int32) ≠ 0 from by decide]
theorem dBook_b {B : Pg} {f : Nat} {rc : Int32 × Pg} : dBook B f rc = bk (dSea B) (dWait B) f (dWts (if rc.1 = 10 then 0 else rc.1)) (pU rc.2 9 (if rc.1 = 10 then 0 else rc.1)) := by
  unfold dBook bk
  simp only [pU_s, pU_n (show 9 ≠ 19 from by decide)]
/-- what a day needs of the page behind the sailing and the coming -/
def wDay (B : Pg) : Prop := wFl B ∧ wTm B ∧ (dF B ≠ 4 → (∃ z l c v e, wLay B (dF B) z l c v e) ∧ (∃ d, d < 2147483648 ∧ B 3 = nI d) ∧ ∃ w, 0 < w ∧ w ≤ 30 ∧ B 6 = nI w)
theorem dWork_t {s : Nat} (ht : wTm A) : wTm (dWork A s).2 := by
  have e1 : ∀ {k : Nat} {v : Int32} {B : Pg}, wTm B → k ≠ 0 ∧ (k < 13 ∨ 15 < k) → wTm (pU B k v) := fun h h2 => wTm_up h h2
  have hm : ∀ {B : Pg} {d : Int32}, wTm B → wTm (dHome B s d) := fun h => by
    unfold dHome; exact e1 (e1 (e1 (e1 h (by omega)) (by omega)) (by omega)) (by omega)
  have hl : ∀ {u : Int32}, wTm (dLaid A s u) := by
    intro u; unfold dLaid; exact e1 (e1 (e1 (e1 (e1 ht (by omega)) (by omega)) (by omega)) (by omega)) (by omega)
  have hn : ∀ (B : Pg), wTm B → wTm (dNext B s) := fun B h => by
    unfold dNext
    have k : wTm (pU (pU B 7 (B 7 + 1)) 8 0) := e1 (k := 8) (v := 0) (e1 (k := 7) (v := B 7 + 1) h (by omega)) (by omega)
    dsimp only
    split
    · exact hm k
    · exact k
  unfold dWork dLay
  repeat' split
  all_goals first | exact ht | exact e1 ht (by omega) | exact e1 (e1 ht (by omega)) (by omega) | exact hm ht | exact hn _ hl | exact hl
theorem dWork_r {s : Nat} : (dWork A s).1 = 0 ∨ (dWork A s).1 = 1 ∨ (dWork A s).1 = 2 ∨ (dWork A s).1 = 3 ∨ (dWork A s).1 = 4 ∨ (dWork A s).1 = 5 ∨ (dWork A s).1 = 10 := by
  unfold dWork dLay
  repeat' split
  all_goals simp
end
