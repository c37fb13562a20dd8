section
variable {F a b p n i K : Nat} {M N M' : zMi} {P : Pg} {tx : Nat → Nat} {v : Int32}
def gW (p : Nat) (r1 : zMi) : Option (Int32 × zMi) := if (r1 p 3) = (0 : Int32) then some ((r1 p 2), r1) else some ((-9 : Int32), r1)
theorem rI92 : f_X7_readInto_92 F p a M = cal (f_X7_readWeather F p a M) (gW p) := rfl
theorem fl_W {fu : Nat} : cal (f_X7_readWeather_8 F p a (fu + 1) v (tS p i 0 M)) (gW p) = some (nI i, tS p i 0 M) := by
  rw [f_X7_readWeather_8, tS_3, if_pos rfl]
  unfold f_X7_readWeather_57 gW
  rw [tS_3, if_pos rfl, tS_w3, bnd_e, cal_s, tS_3, if_pos rfl, tS_2]
theorem fl_92 (hF : 101 ≤ F) : f_X7_readInto_92 F p a (tS p i 0 M) = some (nI i, tS p i 0 M) := by
  obtain ⟨m, hm⟩ : ∃ m, F = m + 1 := ⟨F - 1, by omega⟩
  have hh : ∀ F', F' = F → cal (f_X7_readWeather_8 F p a F' 0 (tS p i 0 M)) (gW p) = some (nI i, tS p i 0 M) := fun F' h => by
    rw [h, hm]; exact fl_W
  rw [rI92]
  unfold f_X7_readWeather
  rw [c_let0, cal_s]
  exact hh F rfl
theorem fl_56 {fu : Nat} (hF : 101 ≤ F) : f_X7_readInto_56 F p a (fu + 1) v (tS p i 0 M) = some (nI i, tS p i 0 M) := by
  rw [f_X7_readInto_56, tS_3, if_pos rfl, fl_92 hF]
theorem fl_17 {fu : Nat} (hF : 101 ≤ F) : f_X7_readInto_17 F p a (fu + 1) v (tS p i 0 M) = some (nI i, tS p i 0 M) := by
  obtain ⟨m, hm⟩ : ∃ m, F = m + 1 := ⟨F - 1, by omega⟩
  have hh : ∀ F', F' = F → f_X7_readInto_56 F p a F' 0 (tS p i 0 M) = some (nI i, tS p i 0 M) := fun F' h => by
    rw [h]
    have := fl_56 (F := F) (p := p) (a := a) (i := i) (M := M) (v := 0) (fu := m) hF
    rw [← hm] at this
    exact this
  rw [f_X7_readInto_17, tS_3, if_pos rfl]
  exact hh F rfl
/-- what the reading comes to, in both -/
def OUT (p a b n : Nat) (tx : Nat → Nat) (M : zMi) (cls : Option (Int32 × zMi)) (ref : zMi → Option (Int32 × zMi)) : Prop :=
  (∃ i' M', i' ≤ n ∧ cls = some (nI i', M') ∧ frT p a M M' ∧ ∀ N, TR N b n tx → ∃ P', ref N = some (0, sP b i' P' N)) ∨
  (∃ M' P', cls = some (-9, M') ∧ frT p a M M' ∧ RC M' a P' ∧ WF 0 P' ∧ ∀ N, TR N b n tx → ∃ i', ref N = some (1, sP b i' P' N))
theorem OUT_t {cls : Option (Int32 × zMi)} {ref : zMi → Option (Int32 × zMi)} (hf : frT p a M M') (h : OUT p a b n tx M' cls ref) : OUT p a b n tx M cls ref := by
  rcases h with ⟨i', M2, h1, h2, h3, h4⟩ | ⟨M2, P', h1, h2, h3, h4, h5⟩
  · exact Or.inl ⟨i', M2, h1, h2, frT_t hf h3, h4⟩
  · exact Or.inr ⟨M2, P', h1, frT_t hf h2, h3, h4, h5⟩
theorem OUT_c {cls : Option (Int32 × zMi)} {ref ref' : zMi → Option (Int32 × zMi)} (hr : ∀ N, TR N b n tx → ref N = ref' N) (h : OUT p a b n tx M cls ref') : OUT p a b n tx M cls ref := by
  rcases h with ⟨i', M2, h1, h2, h3, h4⟩ | ⟨M2, P', h1, h2, h3, h4, h5⟩
  · exact Or.inl ⟨i', M2, h1, h2, h3, fun N hN => by rw [hr N hN]; exact h4 N hN⟩
  · exact Or.inr ⟨M2, P', h1, h2, h3, h4, fun N hN => by rw [hr N hN]; exact h5 N hN⟩
theorem rd_lt {lo hi d w : Nat} {r : Nat × Nat} (h : rdN n tx lo hi (d + 1) w i = (true, r)) : i < n := by
  rw [rdN] at h
  by_cases c : i < n
  · exact c
  · rw [if_neg (fun y => c y.1)] at h; cases h
theorem rd_0 {lo hi w u q : Nat} (h : rdN n tx lo hi 1 w i = (false, u, q)) : q = i := by
  rw [show (1 : Nat) = 0 + 1 from rfl, rdN] at h
  split at h
  · cases h
  · cases h; rfl
end
