section
variable {F a b K : Nat} {M : zMi} {A B C : Pg} {R0 R1 : Pg}
theorem rTd_dc (h : rTd R0 R1 A) (ht : wTm A) (h11 : A 11 = 0) : rT R0 (dcR R1) (dRestOn (pU (pU (dRest A) 10 0) 12 (dRest A 12 + 1))) := by
  obtain ⟨t1, t2, t3, t4, t5, t6, i, i1, i2, i3, i4⟩ := h
  obtain ⟨n, hn3, hn⟩ : ∃ n, (n = 1 ∨ n = 2 ∨ n = 3) ∧ A 0 = nI n := by
    rcases ht.1 with q | q | q
    · exact ⟨1, Or.inl rfl, q⟩
    · exact ⟨2, Or.inr (Or.inl rfl), q⟩
    · exact ⟨3, Or.inr (Or.inr rfl), q⟩
  have hin : i < n := by
    rw [hn] at i2
    exact (nI_ltI (by omega) (by omega)).mp i2
  have hr := rRs_dc i4 ht
  have e : dcR (pU R1 i 0) = pU (dcR R1) i 0 := by
    have c : i = 0 ∨ i = 1 ∨ i = 2 := by omega
    have d0 : dc 0 = 0 := by decide
    funext j
    unfold dcR pU
    rcases c with rfl | rfl | rfl <;> simp [d0] <;> grind
  rw [e] at hr
  obtain ⟨r, n0, n1⟩ := hr
  have w1 : wTm (dRest A) := wTm_r (wTm_r (wTm_r ht (by decide)) (by decide)) (by decide)
  have w2 : wTm (pU (pU (dRest A) 10 0) 12 (dRest A 12 + 1)) := wTm_up (wTm_up w1 (by decide)) (by decide)
  have d2 : dcR R1 i = 2 := by rw [dcR_v i1, i3]; decide
  have ha : ∀ j, j < 3 → n ≤ j → dcR R1 j = 0 := fun j hj hnj => by
    have := (r j hj).2 (by rw [dRest_n (by decide), hn]; exact nI_nlt hnj (by omega))
    rw [pU_n (by omega)] at this
    exact this
  obtain ⟨p1, p2, p3⟩ := rO_cls hin hn3 d2 ha
  have k0 : ∀ k, (k = 0 ∨ (13 ≤ k ∧ k ≤ 15)) → pU (pU (dRest A) 10 0) 12 (dRest A 12 + 1) k = dRest A k := fun k hk => by rw [pU_n (by omega), pU_n (by omega)]
  have g := rO_page w2 (n := n) (by rw [k0 0 (by decide), dRest_n (by decide)]; exact hn) hn3 (by rw [k0 13 (by decide), k0 14 (by decide), k0 15 (by decide), ← n0]; exact p1)
  rw [k0 13 (by decide), k0 14 (by decide), k0 15 (by decide), ← n0, ← n1] at g
  have z0 : dRestOn (pU (pU (dRest A) 10 0) 12 (dRest A 12 + 1)) 0 = A 0 := by rw [dRestOn_n (by decide), k0 0 (by decide), dRest_n (by decide)]
  have z10 : dRestOn (pU (pU (dRest A) 10 0) 12 (dRest A 12 + 1)) 10 = 0 := by rw [dRestOn_n (by decide), pU_n (by decide), pU_s]
  have z12 : dRestOn (pU (pU (dRest A) 10 0) 12 (dRest A 12 + 1)) 12 = A 12 + 1 := by rw [dRestOn_n (by decide), pU_s, dRest_n (by decide)]
  have z1 : dRestOn (pU (pU (dRest A) 10 0) 12 (dRest A 12 + 1)) 1 = A 1 := by rw [dRestOn_n (by decide), pU_n (by decide), pU_n (by decide), dRest_n (by decide)]
  have z11 : dRestOn (pU (pU (dRest A) 10 0) 12 (dRest A 12 + 1)) 11 = 0 := by rw [dRestOn_n (by decide), pU_n (by decide), pU_n (by decide), dRest_n (by decide), h11]
  refine ⟨by rw [z0]; exact t1, by rw [z1]; exact t2, by rw [z11]; exact t3, by rw [z12]; exact t4, by rw [z10]; exact t5, fun _ => t6, fun x => ?_, fun j hj => ?_, ?_, ?_⟩
  · rw [z10] at x; exact absurd x (by decide)
  · rw [z0]
    by_cases q : j = i
    · subst q; rw [d2]; exact ⟨Or.inr (Or.inr rfl), fun x => absurd i2 x⟩
    · have := r j hj
      rw [pU_n q, dRest_n (by decide)] at this
      exact this
  · omega
  · omega
/-- where the ships are, behind the work -/
theorem dWk_ship (hs : dF B < 4 → B (59 + 8 * dF B + 5) = 3) : (∀ s, s < 4 → (dWk B).2 (59 + 8 * s + 3) = B (59 + 8 * s + 3)) ∧ (∀ s, s < 4 → s ≠ dF B → (dWk B).2 (59 + 8 * s + 5) = B (59 + 8 * s + 5)) ∧ (dF B < 4 → (dWk B).2 (59 + 8 * dF B + 5) = 3 ∨ ((dWk B).2 (59 + 8 * dF B + 5) = 4 ∧ dWts (if (dWk B).1 = 10 then 0 else (dWk B).1) = false)) := by
  unfold dWk
  by_cases hd : dF B = 4
  · rw [if_pos hd]; exact ⟨fun _ _ => rfl, fun _ _ _ => rfl, fun x => absurd hd (by omega)⟩
  · rw [if_neg hd]
    have hle := dF_le B
    have h3 := hs (by omega)
    generalize dF B = f at *
    have base : ∀ (rc : Int32) (D : Pg), (∀ k, 59 ≤ k → D k = B k) → (∀ s, s < 4 → D (59 + 8 * s + 3) = B (59 + 8 * s + 3)) ∧ (∀ s, s < 4 → s ≠ f → D (59 + 8 * s + 5) = B (59 + 8 * s + 5)) ∧ (f < 4 → D (59 + 8 * f + 5) = 3 ∨ (D (59 + 8 * f + 5) = 4 ∧ dWts (if rc = 10 then 0 else rc) = false)) := fun rc D h =>
      ⟨fun s _ => h _ (by omega), fun s _ _ => h _ (by omega), fun _ => Or.inl (by rw [h _ (by omega)]; exact h3)⟩
    have home : ∀ (D : Pg) (d : Int32) (rc : Int32), dWts (if rc = 10 then 0 else rc) = false → (∀ s, s < 4 → D (59 + 8 * s + 3) = B (59 + 8 * s + 3)) → (∀ s, s < 4 → s ≠ f → D (59 + 8 * s + 5) = B (59 + 8 * s + 5)) → (∀ s, s < 4 → dHome D f d (59 + 8 * s + 3) = B (59 + 8 * s + 3)) ∧ (∀ s, s < 4 → s ≠ f → dHome D f d (59 + 8 * s + 5) = B (59 + 8 * s + 5)) ∧ (f < 4 → dHome D f d (59 + 8 * f + 5) = 3 ∨ (dHome D f d (59 + 8 * f + 5) = 4 ∧ dWts (if rc = 10 then 0 else rc) = false)) := fun D d rc hw h1 h2 =>
      ⟨fun s hs => by rw [dHome_n (by omega) (by omega) (by omega) (by omega)]; exact h1 s hs, fun s hs hn => by rw [dHome_n (by omega) (by omega) (by omega) (by omega)]; exact h2 s hs hn, fun _ => Or.inr ⟨dHome_5, hw⟩⟩
    have laid : ∀ u, (∀ s, s < 4 → dLaid B f u (59 + 8 * s + 3) = B (59 + 8 * s + 3)) ∧ (∀ s, s < 4 → dLaid B f u (59 + 8 * s + 5) = B (59 + 8 * s + 5)) := fun u =>
      ⟨fun s hs => dLaid_n (by omega) (by omega) (by omega) (by omega) (by omega), fun s hs => dLaid_n (by omega) (by omega) (by omega) (by omega) (by omega)⟩
    unfold dWork
    by_cases k1 : B 10 = 2
    · rw [if_pos k1]
      by_cases k2 : B 11 - 1 = 0
      · rw [if_pos k2]; exact base 10 _ (fun k hk => pU_n (by omega))
      · rw [if_neg k2]; exact base 0 _ (fun k hk => pU_n (by omega))
    · rw [if_neg k1]
      by_cases k2 : B 10 = 1
      · rw [if_pos k2]
        by_cases k3 : dFree B = 0 ∨ 3 < dWav B (B 3)
        · rw [if_pos k3]; exact base 5 _ (fun k hk => rfl)
        · rw [if_neg k3]
          by_cases k4 : B 1 - 1 = 0
          · rw [if_pos k4]; exact base 10 _ (fun k hk => (pU_n (A := pU B 10 2) (by omega)).trans (pU_n (by omega)))
          · rw [if_neg k4]; exact base 0 _ (fun k hk => (pU_n (A := pU B 10 2) (by omega)).trans (pU_n (by omega)))
      · rw [if_neg k2]
        by_cases k3 : B 3 < B (23 + 4 * ix (B 7) + 1)
        · rw [if_pos k3]; exact base 1 _ (fun k hk => rfl)
        · rw [if_neg k3]
          by_cases k4 : B (23 + 4 * ix (B 7) + 2) < B 3
          · rw [if_pos k4]; exact base 2 _ (fun k hk => rfl)
          · rw [if_neg k4]
            by_cases k5 : B (59 + 8 * f + 2) < dWav B (B 3)
            · rw [if_pos k5]; exact base 3 _ (fun k hk => rfl)
            · rw [if_neg k5]
              unfold dLay
              by_cases k6 : dLayU B f = 0
              · rw [if_pos k6]; exact home B (dWay B) 4 (by decide) (fun _ _ => rfl) (fun _ _ _ => rfl)
              · rw [if_neg k6]
                obtain ⟨l1, l2⟩ := laid (dLayU B f)
                generalize dLaid B f (dLayU B f) = L at *
                by_cases k7 : L 8 = B (23 + 4 * ix (B 7))
                · rw [if_pos k7]
                  unfold dNext
                  dsimp only
                  have m1 : ∀ s, s < 4 → pU (pU L 7 (L 7 + 1)) 8 0 (59 + 8 * s + 3) = B (59 + 8 * s + 3) := fun s hs => by rw [pU_n (by omega), pU_n (by omega)]; exact l1 s hs
                  have m2 : ∀ s, s < 4 → pU (pU L 7 (L 7 + 1)) 8 0 (59 + 8 * s + 5) = B (59 + 8 * s + 5) := fun s hs => by rw [pU_n (by omega), pU_n (by omega)]; exact l2 s hs
                  generalize pU (pU L 7 (L 7 + 1)) 8 0 = L2 at *
                  by_cases k8 : L2 7 = L2 4
                  · rw [if_pos k8]; exact home L2 (dWay L2) 0 (by decide) m1 (fun s hs _ => m2 s hs)
                  · rw [if_neg k8]; exact ⟨m1, fun s hs _ => m2 s hs, fun q => Or.inl ((m2 f q).trans h3)⟩
                · rw [if_neg k7]; exact ⟨l1, fun s hs _ => l2 s hs, fun q => Or.inl ((l2 f q).trans h3)⟩
end
