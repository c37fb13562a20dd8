section
variable {F x b K : Nat} {M : zMi}
/-- a forecast: the state copied in the class, the page in the reference -/
theorem INV_tr (h : INV K M x b) (hb : b = x + 386) (hK : K < 1000000000) (hF : 121 < F) : ∃ M1 T, f_X5_copyFrom F (x + 24) (x + 3) M = some M1 ∧ fr (x + 24) M M1 ∧ RC M1 (x + 24) T ∧ WF K T ∧ ag (M (b + 3)) T ∧ ∀ M2, fr (x + 24) M1 M2 → f_X11_copyPage F (b + 3) 121 0 (b + 4) 121 0 (wI M2 b 0 0) = some (pR (wI M2 b 0 0) (b + 4) T) ∧ M2 (b + 3) = M (b + 3) ∧ ∀ B, INV (K + 99) (pR (wI M2 b 0 0) (b + 4) B) x b := by
  subst hb
  obtain ⟨M1, a1, b1, c1⟩ := c_copy (F := F) (a := x + 24) (b := x + 3) (by omega) (by omega) h.2.1
  have hag : ag (M (x + 386 + 3)) (fun k => if 0 ≤ k ∧ k < 0 + 121 then M (x + 386 + 3) (0 + (k - 0)) else M (x + 386 + 4) k) := fun k hk => by
    show (if 0 ≤ k ∧ k < 0 + 121 then M (x + 386 + 3) (0 + (k - 0)) else M (x + 386 + 4) k) = M (x + 386 + 3) k
    rw [if_pos (by omega)]
    congr 1
    omega
  refine ⟨M1, _, a1, b1, RC_ag hag c1, WF_ag hag h.2.2.1, hag, fun M2 f2 => ?_⟩
  have g : ∀ q, (q < x + 24 ∨ x + 44 < q) → M2 q = M q := fun q hq => by rw [f2 q (by omega), b1 q (by omega)]
  refine ⟨?_, g _ (by omega), fun B => ?_⟩
  · have := m_copy (F := F) (M := wI M2 (x + 386) 0 0) (p := x + 386 + 3) (np := 121) (o := 0) (q := x + 386 + 4) (nq := 121) (u := 0) (by omega) (by omega) (by omega) (by omega) (by omega) hF
    unfold cpg at this
    rw [wI_ne (by omega : x + 386 + 3 ≠ x + 386), wI_ne (by omega : x + 386 + 4 ≠ x + 386), g _ (by omega), g _ (by omega)] at this
    exact this
  · refine INV_mono (INV_fr h rfl (fun q q1 q2 q3 q4 q5 => ?_) (fun j j0 j3 => ?_) ?_) (by omega) (by omega)
    · rw [pR_n q3, wI_ne q1, g q q5]
    · rw [pR_n (by omega), show M (x + 386) j = M2 (x + 386) j from by rw [g _ (by omega)]]; simp [wI, j0]
    · rw [pR_n (by omega), wI_ne (by omega), g _ (by omega)]
end
