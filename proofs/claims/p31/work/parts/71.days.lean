section
variable {F a r K : Nat} {M : zMi} {A : Pg}
theorem WF_days {n : Nat} : ∀ {K : Nat} {A : Pg}, WF K A → K + n ≤ 1000000000 → WF (K + n) (dDays n A) := by
  induction n with
  | zero => intro K A h _; exact h
  | succ n ih =>
    intro K A h hK
    have := ih (WF_dday h (by omega)) (by omega)
    rw [show K + (n + 1) = K + 1 + n from by omega]
    exact this
theorem c_daysL {n : Nat} (hF : 101 ≤ F) : ∀ {K i fu : Nat} {M : zMi} {A : Pg}, RC M a A → WF K A → K + n ≤ 1000000000 → n < fu → i + n < 1000000 → ∃ M', f_X5_passDays_2 F a (nI (i + n)) fu (nI i) M = some M' ∧ fr a M M' ∧ RC M' a (dDays n A) := by
  induction n with
  | zero =>
    intro K i fu M A h hA hK hf hi
    obtain ⟨m, rfl⟩ : ∃ m, fu = m + 1 := ⟨fu - 1, by omega⟩
    rw [f_X5_passDays_2, if_neg (nI_nlt (by omega) (by omega))]
    exact ⟨M, rfl, fr_r, h⟩
  | succ n ih =>
    intro K i fu M A h hA hK hf hi
    obtain ⟨m, rfl⟩ : ∃ m, fu = m + 1 := ⟨fu - 1, by omega⟩
    obtain ⟨M1, a1, b1, c1⟩ := c_day (F := F) h hA (by omega) hF
    obtain ⟨M2, a2, b2, c2⟩ := ih (i := i + 1) (fu := m) c1 (WF_dday hA (by omega)) (by omega) (by omega) (by omega)
    rw [f_X5_passDays_2, if_pos (nI_lt (by omega) (by omega)), a1, cal_s, ad1, show i + (n + 1) = (i + 1) + n from by omega]
    exact ⟨M2, a2, fr_t b1 b2, c2⟩
theorem c_days {n : Nat} (hF : 101 ≤ F) (h : RC M a A) (hA : WF K A) (hK : K + n ≤ 1000000000) (hn : n < F) (hn2 : n < 1000000) : ∃ M', f_X5_passDays F a (nI n) M = some M' ∧ fr a M M' ∧ RC M' a (dDays n A) := by
  unfold f_X5_passDays
  have := c_daysL (F := F) (n := n) (i := 0) (fu := F) hF h hA hK hn (by omega)
  rw [Nat.zero_add] at this
  exact this
/-- a page copied to another array -/
def cpg (M : zMi) (p o q u : Nat) : zMi := pR M q (fun k => if u ≤ k ∧ k < u + 121 then M p (o + (k - u)) else M q k)
theorem cpg_o {M : zMi} {p o q u x : Nat} (h : x ≠ q) : cpg M p o q u x = M x := by unfold cpg; exact pR_n h
theorem cpg_i {M : zMi} {p o q u k : Nat} (h : k < 121) : cpg M p o q u q (u + k) = M p (o + k) := by
  unfold cpg
  rw [pR_s, if_pos (by omega)]
  congr 1
  omega
theorem cpg_n {M : zMi} {p o q u k : Nat} (h : k < u ∨ u + 121 ≤ k) : cpg M p o q u q k = M q k := by
  unfold cpg
  rw [pR_s, if_neg (by omega)]
end
