section
variable {F x b K : Nat} {M N : zMi} {A : Pg}
def rqN (y : Int64) : Nat := ix (((y).toUInt64 >>> (((33 : Int32)).toInt64.toUInt64 &&& Int64.toUInt64 63)).toInt64).toInt32
theorem rqN_e (y : Int64) : rqN y < 2147483648 ∧ (((y).toUInt64 >>> (((33 : Int32)).toInt64.toUInt64 &&& Int64.toUInt64 63)).toInt64).toInt32 = nI (rqN y) := by
  obtain ⟨q, hq, e⟩ := rq_ex y
  unfold rqN
  rw [e, ixN hq]
  exact ⟨hq, rfl⟩
noncomputable def dSim : Nat → Int64 → Pg → Pg
  | 0, _, A => A
  | j + 1, s, A => dSim j (s * (6364136223846793005 : Int64) + (1442695040888963407 : Int64)) (dDay (dPre (rqN (s * (6364136223846793005 : Int64) + (1442695040888963407 : Int64))) A))
theorem c_simL {p1 : Int64} (hF : 101 ≤ F) {j : Nat} : ∀ {K i fu : Nat} {s : Int64} {M : zMi} {A : Pg}, RC M (x + 24) A → WF K A → K + j ≤ 800000000 → j < fu → i + j < 1000000 → ∃ M', f_X10_simulate_24 F x p1 (nI (i + j)) fu s (nI i) M = some (.inr ((1000 : Int32) * ((dSim j s A) 17 - M (x + 3 + 7) 1) + (dSim j s A) 3), M') ∧ fr (x + 24) M M' := by
  induction j with
  | zero =>
    intro K i fu s M A h hA hK hf hi
    obtain ⟨m, rfl⟩ : ∃ m, fu = m + 1 := ⟨fu - 1, by omega⟩
    rw [f_X10_simulate_24, if_neg (nI_nlt (by omega) (by omega)), h.2.1.2.1, h.1.2.2.2.1]
    exact ⟨M, rfl, fr_r⟩
  | succ j ih =>
    intro K i fu s M A h hA hK hf hi
    obtain ⟨m, rfl⟩ : ∃ m, fu = m + 1 := ⟨fu - 1, by omega⟩
    obtain ⟨r1, r2⟩ := rqN_e (s * (6364136223846793005 : Int64) + (1442695040888963407 : Int64))
    obtain ⟨M1, a1, b1, c1⟩ := c_round (F := F) r1 h hA (by omega) hF
    obtain ⟨M2, a2, b2⟩ := ih (i := i + 1) (fu := m) (s := s * (6364136223846793005 : Int64) + (1442695040888963407 : Int64)) c1 (WF_dday (WF_pre hA) (by omega)) (by omega) (by omega) (by omega)
    have e : M1 (x + 3 + 7) = M (x + 3 + 7) := b1 _ (by omega)
    rw [f_X10_simulate_24, if_pos (nI_lt (by omega) (by omega)), bnd_e, r2, a1, cal_s, ad1, show i + (j + 1) = (i + 1) + j from by omega, a2, e]
    exact ⟨M2, rfl, fr_t b1 b2⟩
end
