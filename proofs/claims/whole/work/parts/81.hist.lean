section
variable {F b K : Nat} {M N : zMi} {A : Pg}
theorem m_note49 {c : Nat} (hF : 121 < F) (hc : c < 14) (h8 : M b 8 = nI c) : ∃ M', f_X11_note_49 F b M = some M' ∧ (∀ q, q ≠ b → q ≠ b + 5 → M' q = M q) ∧ (∀ j, j ≠ 8 → M' b j = M b j) ∧ M' b 8 = nI (c + 1) ∧ (∀ i, i < 121 → M' (b + 5) (121 * c + i) = M (b + 3) i) ∧ ∀ k, k < 121 * c → M' (b + 5) k = M (b + 5) k := by
  unfold f_X11_note_49
  rw [h8, show (121 : Int32) * nI c = nI (121 * c) from nI_mul 121 c, show (0 : Int32) = nI 0 from rfl, m_copy (p := b + 3) (np := 121) (o := 0) (q := b + 5) (nq := 1694) (u := 121 * c) (by omega) (by omega) (by omega) (by omega) (by omega) hF, cal_s, bnd_e, cpg_o (by omega : b ≠ b + 5), h8, ad1]
  refine ⟨_, rfl, fun q q1 q2 => by rw [wI_ne q1, cpg_o q2], fun j hj => ?_, by simp [wI], fun i hi => ?_, fun k hk => ?_⟩
  · rw [show M b j = cpg M (b + 3) 0 (b + 5) (121 * c) b j from by rw [cpg_o (by omega)]]; simp [wI, hj]
  · rw [wI_ne (by omega), cpg_i hi, Nat.zero_add]
  · rw [wI_ne (by omega), cpg_n (by omega)]
theorem m_shiftL {j : Nat} : ∀ {i fu : Nat}, i + j = 1573 → j < fu → f_X11_note_11 F b fu (nI i) (pR M (b + 5) (fun k => if k < i then M (b + 5) (k + 121) else M (b + 5) k)) = bnd (wI (pR M (b + 5) (fun k => if k < 1573 then M (b + 5) (k + 121) else M (b + 5) k)) b 8 (M b 8 - 1)) (fun M1 => f_X11_note_49 F b M1) := by
  induction j with
  | zero =>
    intro i fu hi hf
    obtain ⟨m, rfl⟩ : ∃ m, fu = m + 1 := ⟨fu - 1, by omega⟩
    have : i = 1573 := by omega
    subst this
    rw [f_X11_note_11, if_neg (show ¬ nI 1573 < (1573 : Int32) by decide), pR_n (by omega : b ≠ b + 5)]
  | succ j ih =>
    intro i fu hi hf
    obtain ⟨m, rfl⟩ : ∃ m, fu = m + 1 := ⟨fu - 1, by omega⟩
    rw [f_X11_note_11, if_pos (show nI i < (1573 : Int32) from nI_lt (b := 1573) (by omega) (by decide)), show nI i + (121 : Int32) = nI (i + 121) from nI_add i 121, inbN (by omega) (by decide), inbN (by omega) (by decide), grd_t, grd_t, ixN (by omega), ixN (by omega), bnd_e, pR_w, pR_s, ad1]
    rw [← ih (i := i + 1) (fu := m) (by omega) (by omega)]
    congr 2
    funext k
    unfold pU
    dsimp only
    rw [if_neg (show ¬ i + 121 < i by omega)]
    by_cases e : k = i
    · subst e
      rw [if_pos rfl, if_pos (by omega)]
    · rw [if_neg e]
      by_cases e2 : k < i
      · rw [if_pos e2, if_pos (by omega)]
      · rw [if_neg e2, if_neg (by omega)]
theorem m_note {c : Nat} (hF : 1573 < F) (hc : c ≤ 14) (h8 : M b 8 = nI c) : ∃ M', f_X11_note F b M = some M' ∧ (∀ q, q ≠ b → q ≠ b + 5 → M' q = M q) ∧ (∀ j, j ≠ 8 → M' b j = M b j) ∧
    ((c < 14 ∧ M' b 8 = nI (c + 1) ∧ (∀ i, i < 121 → M' (b + 5) (121 * c + i) = M (b + 3) i) ∧ ∀ k, k < 121 * c → M' (b + 5) k = M (b + 5) k) ∨ (c = 14 ∧ M' b 8 = nI 14 ∧ (∀ i, i < 121 → M' (b + 5) (121 * 13 + i) = M (b + 3) i) ∧ ∀ k, k < 121 * 13 → M' (b + 5) k = M (b + 5) (k + 121))) := by
  unfold f_X11_note
  rw [h8]
  by_cases k : c < 14
  · rw [if_neg (show ¬ nI c = (14 : Int32) from fun x => by have := (nI_eq (a := c) (b := 14) (by omega) (by omega)).mp x; omega)]
    obtain ⟨M', a1, a2, a3, a4, a5, a6⟩ := m_note49 (F := F) (by omega) k h8
    exact ⟨M', a1, a2, a3, Or.inl ⟨k, a4, a5, a6⟩⟩
  · have hc14 : c = 14 := by omega
    subst hc14
    rw [if_pos (show nI 14 = (14 : Int32) from rfl)]
    have e := m_shiftL (F := F) (b := b) (M := M) (j := 1573) (i := 0) (fu := F) (by omega) hF
    have e0 : pR M (b + 5) (fun k => if k < 0 then M (b + 5) (k + 121) else M (b + 5) k) = M := by
      have : (fun k => if k < 0 then M (b + 5) (k + 121) else M (b + 5) k) = M (b + 5) := by
        funext k; rw [if_neg (by omega)]
      rw [this, pR_i]
    rw [e0] at e
    rw [show (0 : Int32) = nI 0 from rfl, e, bnd_e, h8]
    have s1 : wI (pR M (b + 5) (fun k => if k < 1573 then M (b + 5) (k + 121) else M (b + 5) k)) b 8 (nI 14 - 1) b 8 = nI 13 := by simp [wI]; decide
    obtain ⟨M', a1, a2, a3, a4, a5, a6⟩ := m_note49 (F := F) (c := 13) (by omega) (by decide) s1
    refine ⟨M', a1, fun q q1 q2 => by rw [a2 q q1 q2, wI_ne q1, pR_n q2], fun j hj => ?_, Or.inr ⟨rfl, a4, fun i hi => ?_, fun k hk => ?_⟩⟩
    · rw [a3 j hj, show M b j = pR M (b + 5) (fun k => if k < 1573 then M (b + 5) (k + 121) else M (b + 5) k) b j from by rw [pR_n (by omega)]]
      simp [wI, hj]
    · rw [a5 i hi, wI_ne (by omega), pR_n (by omega)]
    · rw [a6 k hk, wI_ne (by omega), pR_s, if_pos (by omega)]
end
