section
variable {F x b K : Nat} {M : zMi}
/-- an action: remembered in the class, noted in the reference, done in both -/
theorem INV_act (h : INV K M x b) (hb : b = x + 386) (hK : K < 1000000000) (hF : 1573 < F) : ∃ M1, f_X0_remember F (x + 45) (x + 3) M = some M1 ∧ RC M1 (x + 3) (M (b + 3)) ∧ ∀ M2, fr (x + 3) M1 M2 → ∃ M4, f_X11_note F b (wI M2 b 0 0) = some M4 ∧ M4 (b + 3) = M (b + 3) ∧ M4 b 0 = 0 ∧ M2 (b + 3) = M (b + 3) ∧ ∀ B, RC M2 (x + 3) B → WF (K + 99) B → INV (K + 99) (pR M4 (b + 3) B) x b := by
  subst hb
  have h99 := INV_mono h (show K ≤ K + 99 by omega) (by omega)
  obtain ⟨⟨n, t1, t2, t3, t4⟩, h2, h3, ⟨p, c, h4⟩, h5⟩ := h99
  have h4' := h4
  obtain ⟨p1, p2, p3, p4, p5, p6⟩ := h4'
  have hm : (p + c) % 14 < 14 := Nat.mod_lt _ (by decide)
  obtain ⟨M1, a1, a2, a3, o', c', a4, a5, a6, a7⟩ := c_remember (F := F) (h := x + 45) (p := x + 3) (by omega) p1 p2 p3 p4 (by omega) h2
  have h1now : RC M1 (x + 3) (M (x + 386 + 3)) := RC_fr h2 (fun q q1 q2 => a2 q (by omega) (by omega))
  refine ⟨M1, a1, h1now, fun M2 hfr => ?_⟩
  have g2 : ∀ q, q ≠ x + 45 → (q < x + 3 ∨ x + 23 < q) → (q < x + 45 + 2 + 21 * ((p + c) % 14) ∨ x + 45 + 2 + 21 * ((p + c) % 14) + 20 < q) → M2 q = M q := fun q q1 q2 q3 => by
    rw [hfr q (by omega), a2 q q1 q3]
  have gb : M2 (x + 386) = M (x + 386) := g2 _ (by omega) (by omega) (by omega)
  have e8 : wI M2 (x + 386) 0 0 (x + 386) 8 = nI c := by
    have : wI M2 (x + 386) 0 0 (x + 386) 8 = M2 (x + 386) 8 := by simp [wI]
    rw [this, gb]; exact p5
  obtain ⟨M4, b1, b2, b3, b4⟩ := m_note (F := F) hF p2 e8
  have g4 : ∀ q, q ≠ x + 386 → q ≠ x + 386 + 5 → M4 q = M2 q := fun q q1 q2 => by rw [b2 q q1 q2, wI_ne q1]
  have gbj : ∀ j, j ≠ 8 → j ≠ 0 → M4 (x + 386) j = M (x + 386) j := fun j j1 j2 => by
    rw [b3 j j1]
    have : wI M2 (x + 386) 0 0 (x + 386) j = M2 (x + 386) j := by simp [wI, j2]
    rw [this, gb]
  refine ⟨M4, b1, by rw [g4 _ (by omega) (by omega), g2 _ (by omega) (by omega) (by omega)], by rw [b3 0 (by decide)]; simp [wI], g2 _ (by omega) (by omega) (by omega), fun B hB hBW => ?_⟩
  have gN : ∀ q, q ≠ x + 386 → q ≠ x + 386 + 5 → q ≠ x + 386 + 3 → pR M4 (x + 386 + 3) B q = M2 q := fun q q1 q2 q3 => by rw [pR_n q3, g4 q q1 q2]
  have gM : ∀ q, q ≠ x + 386 → q ≠ x + 386 + 5 → q ≠ x + 386 + 3 → q ≠ x + 45 → (q < x + 3 ∨ x + 23 < q) → (q < x + 45 + 2 + 21 * ((p + c) % 14) ∨ x + 45 + 2 + 21 * ((p + c) % 14) + 20 < q) → pR M4 (x + 386 + 3) B q = M q := fun q q1 q2 q3 q4 q5 q6 => by rw [gN q q1 q2 q3, g2 q q4 q5 q6]
  have gb2 : pR M4 (x + 386 + 3) B (x + 386) = M4 (x + 386) := pR_n (by omega)
  have g5 : pR M4 (x + 386 + 3) B (x + 386 + 5) = M4 (x + 386 + 5) := pR_n (by omega)
  refine ⟨⟨n, t1, ?_, ?_, fun j hj => ?_⟩, ?_, ?_, ⟨o', c', ?_⟩, fun s hs => ?_⟩
  · rw [gM (x + 1) (by omega) (by omega) (by omega) (by omega) (by omega) (by omega)]; exact t2
  · rw [gb2, gbj 2 (by decide) (by decide)]; exact t3
  · rw [gM (x + 2) (by omega) (by omega) (by omega) (by omega) (by omega) (by omega), gM (x + 386 + 1) (by omega) (by omega) (by omega) (by omega) (by omega) (by omega)]; exact t4 j hj
  · rw [pR_s]; exact RC_fr hB (fun q q1 q2 => gN q (by omega) (by omega) (by omega))
  · rw [pR_s]; exact hBW
  · have eh : pR M4 (x + 386 + 3) B (x + 45) = M1 (x + 45) := by rw [gN _ (by omega) (by omega) (by omega), hfr _ (by omega)]
    have n8 : pR M4 (x + 386 + 3) B (x + 386) 8 = nI c' := by
      rw [gb2]
      rcases a4 with ⟨k1, k2, k3⟩ | ⟨k1, k2, k3⟩ <;> rcases b4 with ⟨l1, l2, -, -⟩ | ⟨l1, l2, -, -⟩
      · rw [l2, k3]
      · omega
      · omega
      · rw [l2, k3]
    have w3 : wI M2 (x + 386) 0 0 (x + 386 + 3) = M (x + 386 + 3) := by rw [wI_ne (by omega), g2 _ (by omega) (by omega) (by omega)]
    have w5 : wI M2 (x + 386) 0 0 (x + 386 + 5) = M (x + 386 + 5) := by rw [wI_ne (by omega), g2 _ (by omega) (by omega) (by omega)]
    rw [w3, w5] at b4
    refine HR_push h4 a4 (by rw [eh]; exact a5) (by rw [eh]; exact a6) n8 (RC_fr a3 (fun q q1 q2 => by rw [gN q (by omega) (by omega) (by omega), hfr q (by omega)])) h3 (fun q q1 q2 q3 => gM q (by omega) (by omega) (by omega) (by omega) (by omega) q3) ?_
    rw [g5]
    rcases b4 with ⟨l1, -, l3, l4⟩ | ⟨l1, -, l3, l4⟩
    · exact Or.inl ⟨l1, l3, l4⟩
    · exact Or.inr ⟨l1, l3, l4⟩
  · obtain ⟨s1, s2⟩ := h5 s hs
    rw [gM (x + 386 + 7) (by omega) (by omega) (by omega) (by omega) (by omega) (by omega), gM (x + 386 + 6) (by omega) (by omega) (by omega) (by omega) (by omega) (by omega), gM (x + 342 + 22 * s) (by omega) (by omega) (by omega) (by omega) (by omega) (by omega)]
    refine ⟨s1, ?_⟩
    rcases s2 with s2 | ⟨s2, s3, s4⟩
    · exact Or.inl s2
    · exact Or.inr ⟨s2, RC_fr s3 (fun q q1 q2 => gM q (by omega) (by omega) (by omega) (by omega) (by omega) (by omega)), s4⟩
end
