section
variable {F a b r K : Nat} {M N : zMi} {A B : Pg}
theorem RC_fr (h : RC M a A) (e : ∀ q, a ≤ q → q ≤ a + 20 → N q = M q) : RC N a A :=
  RC_eq h (fun j _ _ => by rw [e a (by omega) (by omega)]) (fun j _ => by rw [e _ (by omega) (by omega)]) (by rw [e _ (by omega) (by omega)]) (fun j _ => by rw [e _ (by omega) (by omega)]) (fun j _ _ => by rw [e _ (by omega) (by omega)]) (fun j _ => by rw [e _ (by omega) (by omega)]) (fun z _ k _ => by rw [e _ (by omega) (by omega)]) (fun s _ k _ => by rw [e _ (by omega) (by omega)])
/-- pages that agree where a page has cells -/
def ag (A B : Pg) : Prop := ∀ k, k < 121 → B k = A k
theorem WF_ag (h : ag A B) (hA : WF K A) : WF K B := by
  obtain ⟨g1, g2, g3, g4, g5, g6, g7, g8⟩ := hA
  have e : ∀ k, k < 121 → B k = A k := h
  refine ⟨⟨by rw [e 5 (by decide)]; exact g1.1, fun s hs h6 j hj => by rw [e _ (by omega)]; rw [e 5 (by decide)] at h6; exact g1.2 s hs h6 j hj⟩, ⟨by rw [e 0 (by decide)]; exact g2.1, fun t ht => by rw [e (13 + t) (by omega), e 0 (by decide)]; exact g2.2 t ht⟩, ?_, ?_, ?_, ?_, ?_, ?_⟩
  · unfold wGen; rw [e 1 (by decide), e 2 (by decide), e 3 (by decide), e 4 (by decide), e 6 (by decide), e 7 (by decide), e 8 (by decide), e 10 (by decide), e 11 (by decide), e 17 (by decide)]; exact g3
  · intro z hz; rw [e 7 (by decide), e 4 (by decide), e 8 (by decide), e (23 + 4 * z) (by omega)]; exact g4 z hz
  · unfold wSpl rs; rw [e 10 (by decide), e 11 (by decide), e 0 (by decide), e 13 (by decide), e 14 (by decide), e 15 (by decide)]; exact g5
  · have e0 := e 64 (by decide)
    have e1 := e 72 (by decide)
    have e2 := e 80 (by decide)
    have e3 := e 88 (by decide)
    unfold wFr wOne
    rw [dF_cg (A := A) (B := B) (by rw [e0]) (by rw [e1]) (by rw [e2]) (by rw [e3]), e 7 (by decide), e 4 (by decide), e 10 (by decide), e0, e1, e2, e3]
    exact g6
  · intro z hz hm; rw [e 4 (by decide)] at hm; exact wZn_c (fun k hk => e _ (by omega)) (g7 z hz hm)
  · intro s hs; exact wSh_c (e _ (by omega)) (e _ (by omega)) (e _ (by omega)) (by rw [e _ (by omega)]; exact (g8 s hs).2.2.2) (g8 s hs)
theorem RC_ag (h : ag A B) (hA : RC M a A) : RC M a B := by
  obtain ⟨h1, h2, h3, h4, h5, h6⟩ := hA
  have e : ∀ k, k < 121 → B k = A k := h
  refine ⟨?_, ?_, ?_, ?_, ?_, ?_⟩
  · unfold rH; rw [e 4 (by decide), e 5 (by decide), e 2 (by decide), e 3 (by decide), e 7 (by decide), e 8 (by decide), e 9 (by decide)]; exact h1
  · unfold rL; rw [e 16 (by decide), e 17 (by decide), e 18 (by decide), e 19 (by decide), e 20 (by decide), e 21 (by decide), e 22 (by decide)]; exact h2
  · exact ⟨by rw [e 6 (by decide)]; exact h3.1, fun j hj hq => by rw [e 6 (by decide)] at hq; rw [e _ (by omega)]; exact h3.2 j hj hq⟩
  · unfold rT rRs; rw [e 0 (by decide), e 1 (by decide), e 11 (by decide), e 12 (by decide), e 10 (by decide), e 13 (by decide), e 14 (by decide), e 15 (by decide)]; exact h4
  · intro z hz hq k hk; rw [e 4 (by decide)] at hq; rw [e _ (by omega)]; exact h5 z hz hq k hk
  · intro s hs k hk; rw [e _ (by omega)]; exact h6 s hs k hk
noncomputable def dTake (s : Nat) (u : Int32) (A : Pg) : Pg := pU (pU A 2 (A 2 - u)) (59 + 8 * s + 4) (A (59 + 8 * s + 4) + u)
noncomputable def dSend (s : Nat) (A : Pg) : Pg := pU (pU A (59 + 8 * s + 5) 1) (59 + 8 * s + 6) (A 7 + 1)
noncomputable def dRecall (s : Nat) (A : Pg) : Pg := dHome (if A (59 + 8 * s + 5) = 3 ∧ A 10 = 2 then dRestOn A else A) s (dWay A)
noncomputable def dExt (z : Nat) (d : Int32) (A : Pg) : Pg := pU (pU A (23 + 4 * z + 2) (A (23 + 4 * z + 2) + d)) 21 (A 21 + 50 * d)
noncomputable def dBuy (u : Int32) (A : Pg) : Pg := pU (pU (pU A 2 (A 2 + u)) 16 (A 16 + u)) 22 (A 22 + 3 * u)
theorem c_take {s : Nat} {u : Int32} (h : RC M a A) (hs : s < 4) : ∃ M', f_X5_loadOnto F a (a + 17 + s) u M = some M' ∧ fr a M M' ∧ RC M' a (dTake s u A) := by
  have h1 := RC_h Tu_T (j := 7) (i := 2) (v := A 2 - u) (by decide) h
  unfold f_X5_loadOnto dTake
  rw [h.1.2.2.1, bnd_e, RC_s h1 hs (by decide), pU_n (by omega), bnd_e]
  exact ⟨_, rfl, fr_t (fr_w (by omega)) (fr_w (by omega)), RC_sh Tu_T hs (by decide) h1⟩
theorem c_send {s : Nat} (h : RC M a A) (hs : s < 4) : ∃ M', f_X5_sendOut F a (a + 17 + s) M = some M' ∧ fr a M M' ∧ RC M' a (dSend s A) := by
  unfold f_X5_sendOut f_X3_sail dSend
  rw [h.1.2.2.2.2.1]
  exact ⟨_, rfl, fr_t (fr_w (by omega)) (fr_w (by omega)), RC_sh Tu_T hs (by decide) (RC_sh Tu_T hs (by decide) h)⟩
theorem c_ext {z : Nat} {d : Int32} (h : RC M a A) (hz : z < 9) (hq : nI z < A 4) : ∃ M', f_X5_prolong F a (a + 8 + z) d M = some M' ∧ fr a M M' ∧ RC M' a (dExt z d A) := by
  have h1 := RC_zn Tu_T hz (k := 2) (v := A (23 + 4 * z + 2) + d) (by decide) h
  unfold f_X5_prolong dExt
  rw [RC_z h hz hq (by decide), bnd_e, h1.2.1.2.2.2.2.2.1, pU_n (by omega), bnd_e]
  exact ⟨_, rfl, fr_t (fr_w (by omega)) (fr_w (by omega)), RC_l Tu_T (j := 5) (by decide) h1⟩
theorem c_buy {u : Int32} (h : RC M a A) : ∃ M', f_X5_purchase F a u M = some M' ∧ fr a M M' ∧ RC M' a (dBuy u A) := by
  have h1 := RC_h Tu_T (j := 7) (i := 2) (v := A 2 + u) (by decide) h
  have h2 := RC_l Tu_T (j := 0) (v := A 16 + u) (by decide) h1
  unfold f_X5_purchase dBuy
  rw [h.1.2.2.1, bnd_e, h1.2.1.1, pU_n (by decide), bnd_e, h2.2.1.2.2.2.2.2.2, pU_n (by decide), pU_n (by decide), bnd_e]
  exact ⟨_, rfl, fr_t (fr_t (fr_w (by omega)) (fr_w (by omega))) (fr_w (by omega)), RC_l Tu_T (j := 6) (by decide) h2⟩
end
