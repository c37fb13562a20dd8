section
variable {F x a r b o K len : Nat} {M N : zMi} {X : zMl} {xs : Nat → Int32} {A : Pg}
/-- memories whose text is another -/
theorem INV_tx (h : INV K M x b) (hb : b = x + 386) (e1 : ∀ q, q ≠ b → q ≠ b + 1 → q ≠ b + 2 → q ≠ b + 4 → q ≠ x + 1 → q ≠ x + 2 → (q < x + 24 ∨ x + 44 < q) → N q = M q) (e2 : ∀ j, j ≠ 0 → j ≠ 2 → j ≠ 3 → N b j = M b j) (hT : iTx N x b) : INV K N x b := by
  subst hb
  obtain ⟨-, h2, h3, ⟨p, c, h4⟩, h5⟩ := h
  have r3 : N (x + 386 + 3) = M (x + 386 + 3) := e1 _ (by omega) (by omega) (by omega) (by omega) (by omega) (by omega) (by omega)
  have r6 : N (x + 386 + 6) = M (x + 386 + 6) := e1 _ (by omega) (by omega) (by omega) (by omega) (by omega) (by omega) (by omega)
  have r7 : N (x + 386 + 7) = M (x + 386 + 7) := e1 _ (by omega) (by omega) (by omega) (by omega) (by omega) (by omega) (by omega)
  refine ⟨hT, ?_, by rw [r3]; exact h3, ⟨p, c, ?_⟩, fun s hs => ?_⟩
  · rw [r3]; exact RC_fr h2 (fun q q1 q2 => e1 q (by omega) (by omega) (by omega) (by omega) (by omega) (by omega) (by omega))
  · exact HR_fr h4 (fun j _ => by rw [e1 (x + 45) (by omega) (by omega) (by omega) (by omega) (by omega) (by omega) (by omega)]) (e2 8 (by decide) (by decide) (by decide)) (e1 _ (by omega) (by omega) (by omega) (by omega) (by omega) (by omega) (by omega)) (fun q q1 q2 => e1 q (by omega) (by omega) (by omega) (by omega) (by omega) (by omega) (by omega))
  · obtain ⟨s1, s2⟩ := h5 s hs
    rw [r7, r6, e1 (x + 342 + 22 * s) (by omega) (by omega) (by omega) (by omega) (by omega) (by omega) (by omega)]
    refine ⟨s1, ?_⟩
    rcases s2 with s2 | ⟨s2, s3, s4⟩
    · exact Or.inl s2
    · exact Or.inr ⟨s2, RC_fr s3 (fun q q1 q2 => e1 q (by omega) (by omega) (by omega) (by omega) (by omega) (by omega) (by omega)), s4⟩
theorem chr_v : ∀ v, v < 256 → znar .char (zi2c (nI v)) = nI v := by decide +kernel
theorem c_room {p n : Nat} (h : M p 1 = nI n) (hn : n ≤ 160) : f_X7_hasRoom F p M = some (if n < 160 then 1 else 0) := by
  unfold f_X7_hasRoom
  rw [h, if_neg (nI_pos (by omega))]
  by_cases k : n < 160
  · rw [if_pos k, if_pos (show nI n < 160 from nI_lt (b := 160) k (by decide))]
  · rw [if_neg k, if_neg (show ¬ nI n < 160 from nI_nlt (b := 160) (by omega) (by omega))]
theorem c_addC {p n v : Nat} (h : M p 1 = nI n) (hn : n < 160) (hv : v < 256) : f_X7_add F p (zi2c (nI v)) M = some (nI (n + 1), wI (wI M (p + 1) n (nI v)) p 1 (nI (n + 1))) := by
  have e : wI M (p + 1) n (nI v) p 1 = nI n := by rw [wI_ne (by omega)]; exact h
  unfold f_X7_add
  rw [c_room h (by omega), cal_s, if_pos hn, if_neg (show ¬ (1 : Int32) = 0 by decide), h, inbN hn (by decide), grd_t, ixN (by omega), chr_v v hv, bnd_e, e, ad1, bnd_e]
  simp [wI]
theorem m_app0 {n v : Nat} (h : M b 2 = nI n) (hn : n < 160) : f_X11_append_32 F b (nI v) 0 M = some (nI (n + 1), wI (wI (wI M b 0 0) (b + 1) n (nI v)) b 2 (nI (n + 1))) := by
  have e0 : wI M b 0 0 b 2 = nI n := by rw [← h]; simp [wI]
  have e : wI (wI M b 0 0) (b + 1) n (nI v) b 2 = nI n := by rw [wI_ne (by omega)]; exact e0
  unfold f_X11_append_32
  rw [m_r0, cal_s, if_pos rfl]
  dsimp only
  rw [e0, inbN hn (by decide), grd_t, ixN (by omega), bnd_e, e, ad1, bnd_e]
  simp [wI]
theorem m_in0255 {p : Int32} : f_X11_in F p.toInt64 (0 : Int64) (255 : Int64) M = some (if 0 ≤ p ∧ p ≤ 255 then 1 else 0) := m_in3 (y := 0) (z := 255)
theorem m_app1 {p e : Int32} (he : 0 < e) : f_X11_append_32 F b p e M = some (0, wI M b 0 e) := by
  unfold f_X11_append_32
  rw [m_r1 he, cal_s, if_neg (show ¬ (1 : Int32) = 0 by decide)]
theorem case_append {k : Int32 → zMi → zMl → Option Int32} {v4 : Int32} (h : INV K M x b) (hb : b = x + 386) (hK : K < 700000000) (hg : inb (v4 + 1) len = true) : goes K x b k v4 (f_L_law_164 F len xs x b o k v4 M X) := by
  generalize hp : xs (ix (v4 + (1 : Int32))) = p
  obtain ⟨n, t1, t2, t3, t4⟩ := h.1
  unfold f_L_law_164 f_L_append f_X10_append f_X11_append
  rw [hg, grd_t, hp, c_rr]
  by_cases c : 0 ≤ p ∧ p ≤ 255
  · obtain ⟨v, hv, rfl⟩ := exN (n := 255) c.1 c.2 (by decide)
    rw [if_pos c, calp_r, c_room t2 t1, cal_s]
    unfold f_X10_require
    by_cases e : n < 160
    · generalize hM2 : wI (wI M (x + 1 + 1) n (nI v)) (x + 1) 1 (nI (n + 1)) = M2
      have gb : M2 b = M b := by rw [← hM2, wI_ne (by omega), wI_ne (by omega)]
      have ma := m_app0 (F := F) (b := b) (M := M2) (n := n) (v := v) (by rw [gb]; exact t3) e
      rw [if_pos e, if_neg (show ¬ (1 : Int32) = 0 by decide), calp_r, c_addC t2 e (by omega), cal_s, hM2]
      dsimp only
      rw [calw_r, bnd_e, cal_s, grd_t]
      dsimp only
      rw [m_in0255, cal_s, if_pos c, if_neg (show ¬ (1 : Int32) = 0 by decide), if_neg (show ¬ M2 b 2 = 160 from fun y => by rw [gb, t3] at y; have := (nI_eq (a := n) (b := 160) (by omega) (by omega)).mp y; omega), ma]
      generalize hN0 : wI (wI (wI M2 b 0 0) (b + 1) n (nI v)) b 2 (nI (n + 1)) = N0
      have nq : ∀ q, q ≠ b → q ≠ b + 1 → N0 q = M2 q := fun q q1 q2 => by rw [← hN0, wI_ne q1, wI_ne q2, wI_ne q1]
      have mq : ∀ q, q ≠ x + 1 → q ≠ x + 2 → M2 q = M q := fun q q1 q2 => by rw [← hM2, wI_ne q1, wI_ne (by omega)]
      have nb : ∀ j, j ≠ 0 → j ≠ 2 → N0 b j = M b j := fun j j0 j2 => by rw [← hN0, ← gb]; simp [wI, j0, j2]
      have n0 : N0 b 0 = 0 := by rw [← hN0]; simp [wI]
      refine ac_ok n0 (INV_mono (INV_tx h hb (fun q q0 q1 q2 q3 q4 q5 q6 => ?_) (fun j j0 j2 j3 => nb j j0 j2) ⟨n + 1, by omega, ?_, ?_, fun j hj => ?_⟩) (by omega) (by omega)) (fun _ => wL_s)
      · rw [nq q q0 q1, mq q q4 q5]
      · rw [nq _ (by omega) (by omega), ← hM2]; simp [wI]
      · rw [← hN0]; simp [wI]
      · have e1 : N0 (x + 2) j = if j = n then nI v else M (x + 2) j := by
          rw [nq _ (by omega) (by omega), ← hM2, wI_ne (by omega)]
          show wI M (x + 2) n (nI v) (x + 2) j = _
          simp [wI]
        have e2 : N0 (b + 1) j = if j = n then nI v else M (b + 1) j := by
          rw [← hN0, wI_ne (by omega)]
          have : M2 (b + 1) j = M (b + 1) j := by rw [mq _ (by omega) (by omega)]
          unfold wI
          simp [this]
        rw [e1, e2]
        by_cases ej : j = n
        · rw [if_pos ej, if_pos ej]; exact ⟨rfl, v, by omega, rfl⟩
        · rw [if_neg ej, if_neg ej]; exact t4 j (by omega)
    · have en : n = 160 := by omega
      subst en
      rw [if_neg e, if_pos rfl, calp_l, calw_l, if_neg (show ¬ (2 : Nat) = 1 by decide), if_pos rfl, cal_s, grd_t]
      dsimp only
      rw [m_in0255, cal_s, if_pos c, if_neg (show ¬ (1 : Int32) = 0 by decide), if_pos (show M b 2 = 160 from t3), m_app1 (by decide)]
      exact rd_ok (v := 0) h hb hK (fun q => absurd q (by decide))
  · rw [if_neg c, calp_l, calw_l, if_pos rfl, cal_s, grd_t]
    dsimp only
    rw [m_in0255, cal_s, if_neg c, if_pos rfl, m_app1 (by decide)]
    exact rd_ok (v := 0) h hb hK (fun q => absurd q (by decide))
theorem case_clear {k : Int32 → zMi → zMl → Option Int32} {v4 : Int32} (h : INV K M x b) (hb : b = x + 386) (hK : K < 700000000) : goes K x b k v4 (f_L_law_220 F len xs x b o k v4 M X) := by
  obtain ⟨n, t1, t2, t3, t4⟩ := h.1
  unfold f_L_law_220 f_X10_clearText f_X7_clear f_X11_clearText
  rw [bnd_e, bnd_e, cal_s, cal_s, bnd_e, bnd_e, bnd_e, cal_s]
  dsimp only
  have e : wI (wI M (x + 1) 1 0) b 0 0 b 2 = nI n := by
    rw [← t3, ← (wI_ne (by omega) : wI M (x + 1) 1 0 b = M b)]; simp [wI]
  rw [t2, e, if_pos rfl]
  refine ⟨_, _, rfl, INV_mono (INV_tx h hb (fun q q0 q1 q2 q3 q4 q5 q6 => ?_) (fun j j0 j2 j3 => ?_) ⟨0, by omega, ?_, ?_, fun j hj => by omega⟩) (by omega) (by omega)⟩
  · rw [wI_ne q0, wI_ne q0, wI_ne q4]
  · rw [← (wI_ne (by omega) : wI M (x + 1) 1 0 b = M b)]; simp [wI, j0, j2]
  · rw [wI_ne (by omega), wI_ne (by omega)]; simp [wI]; rfl
  · simp [wI]; rfl
end
