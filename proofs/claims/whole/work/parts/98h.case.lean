section
variable {F x a b o K len : Nat} {M N M' : zMi} {X : zMl} {xs : Nat → Int32} {A : Pg}
theorem rd_both (h : INV K M x b) (hb : b = x + 386) (hF : 1573 < F) :
    (∃ i' M', i' ≤ 160 ∧ f_X7_readInto F (x + 1) (x + 24) M = some (nI i', M') ∧ frT (x + 1) (x + 24) M M' ∧ ∀ N, N b 2 = M b 2 → N (b + 1) = M (b + 1) → N (b + 2) = M (b + 2) → ∃ P', f_X11_readAll F b N = some (0, sP b i' P' N)) ∨
    (∃ M' P', f_X7_readInto F (x + 1) (x + 24) M = some (-9, M') ∧ frT (x + 1) (x + 24) M M' ∧ RC M' (x + 24) P' ∧ WF 0 P' ∧ ∀ N, N b 2 = M b 2 → N (b + 1) = M (b + 1) → N (b + 2) = M (b + 2) → ∃ i', f_X11_readAll F b N = some (1, sP b i' P' N)) := by
  obtain ⟨n, t1, t2, t3, t4⟩ := h.1
  obtain ⟨tx, htx⟩ : ∃ tx : Nat → Nat, ∀ j, j < n → M (b + 1) j = nI (tx j) ∧ tx j < 256 := by
    refine ⟨fun j => ix (M (b + 1) j), fun j hj => ?_⟩
    obtain ⟨-, v, v1, v2⟩ := t4 j hj
    show M (b + 1) j = nI (ix (M (b + 1) j)) ∧ ix (M (b + 1) j) < 256
    rw [v2, ixN (by omega)]
    exact ⟨rfl, v1⟩
  have hT : TX M (x + 1) n tx := ⟨t1, t2, fun j hj => ⟨(t4 j hj).1.trans (htx j hj).1, (htx j hj).2⟩⟩
  have hO := head_j (F := F) (b := b) (a := x + 24) (Z := fun k => if 0 ≤ k ∧ k < 121 then 0 else M (b + 2) k) hT (by omega) (fun k hk => if_pos ⟨by omega, hk⟩) (by omega)
  rw [← c_readInto] at hO
  have back : ∀ N, N b 2 = M b 2 → N (b + 1) = M (b + 1) → N (b + 2) = M (b + 2) → TR N b n tx ∧ f_X11_readAll F b N = hdB F b (sP b 0 (fun k => if 0 ≤ k ∧ k < 121 then 0 else M (b + 2) k) N) := fun N h1 h2 h3 =>
    ⟨⟨t1, h1.trans t3, fun j hj => by rw [h2]; exact htx j hj⟩, by rw [m_readAll hF, h3]⟩
  rcases hO with ⟨i', M', h1, h2, h3, h4⟩ | ⟨M', P', h1, h2, h3, h4, h5⟩
  · refine Or.inl ⟨i', M', by omega, h2, h3, fun N g1 g2 g3 => ?_⟩
    obtain ⟨g4, g5⟩ := back N g1 g2 g3
    obtain ⟨P', e⟩ := h4 N g4
    exact ⟨P', g5.trans e⟩
  · refine Or.inr ⟨M', P', h1, h2, h3, h4, fun N g1 g2 g3 => ?_⟩
    obtain ⟨g4, g5⟩ := back N g1 g2 g3
    obtain ⟨i', e⟩ := h5 N g4
    exact ⟨i', g5.trans e⟩
theorem INV_rd (h : INV K M x b) (hb : b = x + 386) (hf : frT (x + 1) (x + 24) M M') (e1 : ∀ q, q ≠ b → q ≠ b + 2 → N q = M' q) (e2 : ∀ j, j ≠ 0 → j ≠ 3 → N b j = M' b j) : INV K N x b := by
  refine INV_fr h hb (fun q q1 q2 q3 q4 q5 => ?_) (fun j j0 j3 => ?_) ?_
  · rw [e1 q q1 q2, hf.1 q q4 (by omega)]
  · rw [e2 j j0 j3, hf.1 b (by omega) (by omega)]
  · rw [e1 _ (by omega) (by omega)]; exact hf.2
theorem case_err {k : Int32 → zMi → zMl → Option Int32} {v4 : Int32} (h : INV K M x b) (hb : b = x + 386) (hK : K < 700000000) (hF : 1573 < F) : goes K x b k v4 (f_L_law_233 F len xs x b o k v4 M X) := by
  unfold f_L_law_233 f_X10_errorPosition f_X11_errorPosition
  rcases rd_both (F := F) h hb hF with ⟨i', M', h1, h2, h3, h4⟩ | ⟨M', P', h2, h3, h5, h6, h4⟩
  · have mb : M' b = M b := h3.1 b (by omega) (by omega)
    obtain ⟨P', e⟩ := h4 (wI M' b 0 0) (by rw [← mb]; simp [wI]) (by rw [wI_ne (by omega), h3.1 _ (by omega) (by omega)]) (by rw [wI_ne (by omega), h3.1 _ (by omega) (by omega)])
    rw [h2, cal_s, cal_s, bnd_e]
    (try dsimp only)
    rw [e, cal_s, if_pos rfl, cal_s]
    (try dsimp only)
    rw [if_pos (show nI i' = sP b i' P' (wI M' b 0 0) b 3 from sP_3.symm)]
    exact ⟨sP b i' P' (wI M' b 0 0), X, rfl, INV_mono (INV_rd h hb h3 (fun q q1 q2 => by rw [sP_q q1 q2, wI_ne q1]) (fun j j0 j3 => by rw [sP_k j3]; simp [wI, j0])) (by omega) (by omega)⟩
  · have mb : M' b = M b := h3.1 b (by omega) (by omega)
    obtain ⟨i', e⟩ := h4 (wI M' b 0 0) (by rw [← mb]; simp [wI]) (by rw [wI_ne (by omega), h3.1 _ (by omega) (by omega)]) (by rw [wI_ne (by omega), h3.1 _ (by omega) (by omega)])
    rw [h2, cal_s, cal_s, bnd_e]
    (try dsimp only)
    rw [e, cal_s, if_neg (show ¬ (1 : Int32) = 0 by decide), cal_s, if_pos rfl]
    exact ⟨sP b i' P' (wI M' b 0 0), X, rfl, INV_mono (INV_rd h hb h3 (fun q q1 q2 => by rw [sP_q q1 q2, wI_ne q1]) (fun j j0 j3 => by rw [sP_k j3]; simp [wI, j0])) (by omega) (by omega)⟩
theorem c_load52 (hF : 101 ≤ F) : f_X10_load_52 F x F 0 M = some (.inr (M (x + 3) 5), wI (wI M (x + 342) 1 0) (x + 364) 1 0) := by
  obtain ⟨m, hm⟩ : ∃ m, F = m + 3 := ⟨F - 3, by omega⟩
  have hh : ∀ F', F' = F → f_X10_load_52 F x F' (nI 0) M = some (.inr (M (x + 3) 5), wI (wI M (x + 342) 1 0) (x + 364) 1 0) := by
    intro F' hF'
    rw [hF', show f_X10_load_52 F x F = f_X10_load_52 F x (m + 3) from by rw [← hm]]
    rw [f_X10_load_52, if_pos (show nI 0 < 2 by decide), inbN (by decide) (by decide), grd_t, bnd_e, bnd_e, ad1, f_X10_load_52, if_pos (show nI (0 + 1) < 2 by decide), inbN (by decide) (by decide), grd_t, bnd_e, bnd_e, ad1, f_X10_load_52, if_neg (show ¬ nI (0 + 1 + 1) < 2 by decide), ixN (by decide), ixN (by decide), wI_ne (by omega), wI_ne (by omega)]
  exact hh F rfl
theorem case_load {k : Int32 → zMi → zMl → Option Int32} {v4 : Int32} (h : INV K M x b) (hb : b = x + 386) (hK : K < 700000000) (hF : 1573 < F) : goes K x b k v4 (f_L_law_246 F len xs x b o k v4 M X) := by
  unfold f_L_law_246 f_L_load f_X10_load f_X11_load
  rcases rd_both (F := F) h hb hF with ⟨i', M', h1, h2, h3, h4⟩ | ⟨M', P', h2, h3, h5, h6, h4⟩
  · have mb : M' b = M b := h3.1 b (by omega) (by omega)
    obtain ⟨P', e⟩ := h4 M' (by rw [mb]) (h3.1 _ (by omega) (by omega)) (h3.1 _ (by omega) (by omega))
    have i9 : ¬ nI i' = -9 := n9 (by omega)
    rw [h2, cal_s, if_neg i9]
    unfold f_X10_load_21 f_X10_require
    rw [if_pos rfl, calp_l, calw_l, if_pos rfl, cal_s]
    (try dsimp only)
    rw [e, cal_s, if_pos rfl]
    (try dsimp only)
    unfold f_X11_load_13
    rw [m_r1 (by decide), cal_s, if_neg (show ¬ (1 : Int32) = 0 by decide)]
    refine ac_ok (v := 0) (by simp [wI]) (INV_mono (INV_rd h hb h3 (fun q q1 q2 => by (try dsimp only); rw [wI_ne q1, sP_q q1 q2]) (fun j j0 j3 => ?_)) (by omega) (by omega)) (fun q => absurd q (by decide))
    rw [← sP_k (i := i') (P := P') (N := M') j3]
    simp [wI, j0]
  · obtain ⟨M2, a1, a2, a3⟩ := c_copy (F := F) (a := x + 3) (b := x + 24) (by omega) (by omega) h5
    generalize hM5 : wI (wI (wI (wI M2 (x + 45) 1 0) (x + 45) 2 0) (x + 342) 1 0) (x + 364) 1 0 = M5
    have g2 : ∀ q, q ≠ x + 45 → q ≠ x + 342 → q ≠ x + 364 → M5 q = M2 q := fun q q1 q2 q3 => by rw [← hM5, wI_ne q3, wI_ne q2, wI_ne q1, wI_ne q1]
    have g1 : ∀ q, q ≠ x + 45 → q ≠ x + 342 → q ≠ x + 364 → (q < x + 3 ∨ x + 23 < q) → M5 q = M' q := fun q q1 q2 q3 q4 => by rw [g2 q q1 q2 q3, a2 q (by omega)]
    have g0 : ∀ q, q ≠ x + 45 → q ≠ x + 342 → q ≠ x + 364 → (q < x + 3 ∨ x + 44 < q) → q ≠ x + 1 → M5 q = M q := fun q q1 q2 q3 q4 q5 => by rw [g1 q q1 q2 q3 (by omega), h3.1 q q5 (by omega)]
    have h45 : M5 (x + 45) 1 = nI 0 ∧ M5 (x + 45) 2 = nI 0 := by rw [← hM5]; constructor <;> (simp [wI]; rfl)
    have sl : ∀ s, s < 2 → M5 (x + 342 + 22 * s) 1 = 0 := fun s hs => by
      have : s = 0 ∨ s = 1 := by omega
      rcases this with rfl | rfl <;> (rw [← hM5]; simp [wI])
    obtain ⟨i', e⟩ := h4 M5 (by rw [g0 b (by omega) (by omega) (by omega) (by omega) (by omega)]) (g0 _ (by omega) (by omega) (by omega) (by omega) (by omega)) (g0 _ (by omega) (by omega) (by omega) (by omega) (by omega))
    generalize hN0 : sP b i' P' M5 = N0 at e
    have s2 : N0 (b + 2) = P' := by rw [← hN0]; exact sP_p
    have mc := m_copy (F := F) (M := wI N0 b 0 0) (p := b + 2) (np := 121) (o := 0) (q := b + 3) (nq := 121) (u := 0) (by omega) (by omega) (by omega) (by omega) (by omega) (by omega)
    generalize hN1 : wI (wI (wI (cpg (wI N0 b 0 0) (b + 2) 0 (b + 3) 0) b 8 0) (b + 7) 0 0) (b + 7) 1 0 = N1
    have nq : ∀ q, q ≠ b → q ≠ b + 2 → q ≠ b + 3 → q ≠ b + 7 → N1 q = M5 q := fun q q1 q2 q3 q4 => by rw [← hN1, wI_ne q4, wI_ne q4, wI_ne q1, cpg_o q3, wI_ne q1, ← hN0, sP_q q1 q2]
    have nb0 : ∀ j, cpg (wI N0 b 0 0) (b + 2) 0 (b + 3) 0 b j = wI N0 b 0 0 b j := fun j => by rw [cpg_o (by omega)]
    have nb : ∀ j, j ≠ 0 → j ≠ 3 → j ≠ 8 → N1 b j = M b j := fun j j0 j3 j8 => by
      have e5 : N0 b j = M b j := by rw [← hN0, sP_k j3, g0 b (by omega) (by omega) (by omega) (by omega) (by omega)]
      have e6 : cpg (wI N0 b 0 0) (b + 2) 0 (b + 3) 0 b j = M b j := by rw [nb0, ← e5]; simp [wI, j0]
      rw [← hN1, wI_ne (by omega), wI_ne (by omega), ← e6]
      simp [wI, j8]
    have n0 : N1 b 0 = 0 := by
      have e6 : cpg (wI N0 b 0 0) (b + 2) 0 (b + 3) 0 b 0 = 0 := by rw [nb0]; simp [wI]
      rw [← hN1, wI_ne (by omega), wI_ne (by omega)]
      unfold wI at e6 ⊢
      simp [e6]
    have n8 : N1 b 8 = nI 0 := by rw [← hN1, wI_ne (by omega), wI_ne (by omega)]; simp [wI]; rfl
    have hag : ag P' (N1 (b + 3)) := by
      have := cpg_ag (p := b + 2) (o0 := 0) (q := b + 3) (M := wI N0 b 0 0)
      rw [wI_ne (by omega : b + 2 ≠ b), s2] at this
      rw [← hN1, wI_ne (by omega), wI_ne (by omega), wI_ne (by omega)]
      intro i hi
      exact (this i hi).trans (by show P' (0 + i) = P' i; rw [Nat.zero_add])
    have n7 : ∀ s, s < 2 → N1 (b + 7) s = 0 := fun s hs => by
      have : s = 0 ∨ s = 1 := by omega
      rcases this with rfl | rfl <;> (rw [← hN1]; simp [wI])
    have hR : RC N1 (x + 3) (N1 (b + 3)) := RC_ag hag (RC_fr a3 (fun q q1 q2 => by rw [nq q (by omega) (by omega) (by omega) (by omega), g2 q (by omega) (by omega) (by omega)]))
    have v5 : wI (wI M2 (x + 45) 1 0) (x + 45) 2 0 (x + 3) 5 = N1 (b + 3) 4 := by
      rw [wI_ne (by omega), wI_ne (by omega), hag 4 (by decide)]; exact a3.1.1
    rw [h2, cal_s, if_pos rfl]
    unfold f_X10_load_21 f_X10_require f_X0_clear
    rw [if_neg (show ¬ (1 : Int32) = 0 by decide), calp_r]
    (try dsimp only)
    rw [a1, cal_s, bnd_e, bnd_e, cal_s, c_load52 (by omega), v5, hM5, calw_r, bnd_e, cal_s]
    (try dsimp only)
    rw [e, cal_s, if_neg (show ¬ (1 : Int32) = 0 by decide)]
    unfold f_X11_load_13
    rw [m_r0, cal_s, if_pos rfl]
    (try dsimp only)
    rw [show f_X11_copyPage F (b + 2) 121 (0 : Int32) (b + 3) 121 (0 : Int32) (wI N0 b 0 0) = f_X11_copyPage F (b + 2) 121 (nI 0) (b + 3) 121 (nI 0) (wI N0 b 0 0) from rfl, mc, cal_s, bnd_e, show znar .boolean (0 : Int32) = 0 from rfl, bnd_e, bnd_e, hN1]
    obtain ⟨⟨n, t1, t2, t3, t4⟩, -, -, -, -⟩ := h
    refine ac_ok n0 ⟨⟨n, t1, ?_, ?_, fun j hj => ?_⟩, hR, WF_mono (WF_ag hag h6) (by omega) (by omega), ⟨0, 0, by decide, by decide, ?_, ?_, n8, fun j hj => by omega⟩, fun s hs => ⟨?_, Or.inl (n7 s hs)⟩⟩ (fun _ => wL_s)
    · rw [nq _ (by omega) (by omega) (by omega) (by omega), g1 _ (by omega) (by omega) (by omega) (by omega)]; exact h3.2.trans t2
    · rw [nb 2 (by decide) (by decide) (by decide)]; exact t3
    · rw [nq (x + 2) (by omega) (by omega) (by omega) (by omega), nq (b + 1) (by omega) (by omega) (by omega) (by omega), g0 _ (by omega) (by omega) (by omega) (by omega) (by omega), g0 _ (by omega) (by omega) (by omega) (by omega) (by omega)]
      exact t4 j hj
    · rw [nq _ (by omega) (by omega) (by omega) (by omega)]; exact h45.1
    · rw [nq _ (by omega) (by omega) (by omega) (by omega)]; exact h45.2
    · rw [nq _ (by omega) (by omega) (by omega) (by omega), sl s hs, n7 s hs]
end
