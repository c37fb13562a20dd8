section
variable {F h p K : Nat} {M N : zMi} {A : Pg}
theorem c_place {o k : Nat} (ho : o < 14) (hk : k < 1000) (h1 : M h 1 = nI o) : f_X0_placeOf F h (nI k) M = some (some (h + 2 + 21 * ((o + k) % 14))) := by
  have hm : (o + k) % 14 < 14 := Nat.mod_lt _ (by decide)
  unfold f_X0_placeOf
  rw [h1, nI_add, show nI (o + k) - nI (o + k) / 14 * 14 = nI ((o + k) % 14) from pk_rem (d := 14) (by omega) (by decide) (by decide), bnd_e, if_neg (nI_pos (by omega)), if_pos (show nI ((o + k) % 14) < 14 from nI_lt (b := 14) hm (by decide)), inbN hm (by decide), grd_t, bnd_e, ixN (by omega)]
/-- a state is remembered: its place in the ring, and what else changes -/
theorem c_remember {o c : Nat} (hF : 31 ≤ F) (ho : o < 14) (hc : c ≤ 14) (h1 : M h 1 = nI o) (h2 : M h 2 = nI c) (hp : p + 20 < h) (hA : RC M p A) :
    ∃ M', f_X0_remember F h p M = some M' ∧ (∀ q, q ≠ h → (q < h + 2 + 21 * ((o + c) % 14) ∨ h + 2 + 21 * ((o + c) % 14) + 20 < q) → M' q = M q) ∧ RC M' (h + 2 + 21 * ((o + c) % 14)) A ∧
      ∃ o' c', ((c < 14 ∧ o' = o ∧ c' = c + 1) ∨ (c = 14 ∧ o' = (o + 1) % 14 ∧ c' = 14)) ∧ M' h 1 = nI o' ∧ M' h 2 = nI c' ∧ ∀ j, j ≠ 1 → j ≠ 2 → M' h j = M h j := by
  have hm : (o + c) % 14 < 14 := Nat.mod_lt _ (by decide)
  obtain ⟨M1, a1, b1, c1⟩ := c_copy (F := F) (a := h + 2 + 21 * ((o + c) % 14)) (b := p) hF (by omega) hA
  have eh : M1 h = M h := b1 h (by omega)
  unfold f_X0_remember
  rw [h2, c_place ho (by omega) h1, cal_s, zo_s, a1, cal_s]
  unfold f_X0_remember_18
  rw [eh, h1, h2]
  by_cases k : c < 14
  · rw [if_pos (show nI c < (14 : Int32) from nI_lt (b := 14) k (by decide)), bnd_e, ad1]
    refine ⟨_, rfl, fun q q1 q2 => by rw [wI_ne q1]; exact b1 q q2, RC_fr c1 (fun q q1 q2 => wI_ne (by omega)), o, c + 1, Or.inl ⟨k, rfl, rfl⟩, ?_, by simp [wI], fun j j1 j2 => by simp [wI, j2, eh]⟩
    rw [← h1, ← eh]; simp [wI]
  · have hc14 : c = 14 := by omega
    subst hc14
    rw [if_neg (show ¬ nI 14 < (14 : Int32) by decide), ad1, show nI (o + 1) - nI (o + 1) / 14 * 14 = nI ((o + 1) % 14) from pk_rem (d := 14) (by omega) (by decide) (by decide), bnd_e]
    refine ⟨_, rfl, fun q q1 q2 => by rw [wI_ne q1]; exact b1 q q2, RC_fr c1 (fun q q1 q2 => wI_ne (by omega)), (o + 1) % 14, 14, Or.inr ⟨rfl, rfl, rfl⟩, by simp [wI], ?_, fun j j1 j2 => by simp [wI, j1, eh]⟩
    rw [← h2, ← eh]; simp [wI]
/-- the latest is taken back -/
theorem c_takeBack {o c : Nat} (hF : 31 ≤ F) (ho : o < 14) (hc0 : 0 < c) (hc : c ≤ 14) (h1 : M h 1 = nI o) (h2 : M h 2 = nI c) (hp : p + 20 < h) (hA : RC M (h + 2 + 21 * ((o + (c - 1)) % 14)) A) :
    ∃ M', f_X0_takeBack F h p M = some (nI (c - 1), M') ∧ (∀ q, q ≠ h → (q < p ∨ p + 20 < q) → M' q = M q) ∧ RC M' p A ∧ M' h 1 = nI o ∧ M' h 2 = nI (c - 1) := by
  obtain ⟨d, rfl⟩ : ∃ d, c = d + 1 := ⟨c - 1, by omega⟩
  rw [Nat.add_sub_cancel] at hA ⊢
  have hA' : RC (wI M h 2 (nI d)) (h + 2 + 21 * ((o + d) % 14)) A := RC_fr hA (fun q q1 q2 => wI_ne (by omega))
  obtain ⟨M1, a1, b1, c1⟩ := c_copy (F := F) (a := p) (b := h + 2 + 21 * ((o + d) % 14)) hF (by omega) hA'
  have eh : M1 h = wI M h 2 (nI d) h := b1 h (by omega)
  have e2 : M1 h 2 = nI d := by rw [eh]; simp [wI]
  unfold f_X0_takeBack
  rw [h2, nI_pred, c_place ho (by omega) h1, cal_s, zo_s, if_pos (show (0 : Int32) < nI (d + 1) from nI_lt (a := 0) (by omega) (by omega)), bnd_e, a1, cal_s, e2]
  refine ⟨M1, rfl, fun q q1 q2 => by rw [b1 q q2, wI_ne q1], c1, ?_, e2⟩
  rw [eh, ← h1]; simp [wI]
end
