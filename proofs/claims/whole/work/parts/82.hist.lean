section
variable {F h b K : Nat} {M N : zMi} {A : Pg}
/-- the ring of the class against the diary of the reference -/
def HR (K : Nat) (M : zMi) (h b o c : Nat) : Prop := o < 14 ∧ c ≤ 14 ∧ M h 1 = nI o ∧ M h 2 = nI c ∧ M b 8 = nI c ∧ ∀ k, k < c → RC M (h + 2 + 21 * ((o + k) % 14)) (fun i => M (b + 5) (121 * k + i)) ∧ WF K (fun i => M (b + 5) (121 * k + i))
theorem HR_push {o c o' c' : Nat} (hH : HR K M h b o c) (hc : (c < 14 ∧ o' = o ∧ c' = c + 1) ∨ (c = 14 ∧ o' = (o + 1) % 14 ∧ c' = 14)) (n1 : N h 1 = nI o') (n2 : N h 2 = nI c') (n8 : N b 8 = nI c') (hR : RC N (h + 2 + 21 * ((o + c) % 14)) A) (hA : WF K A)
    (hblk : ∀ q, h + 2 ≤ q → q < h + 2 + 21 * 14 → (q < h + 2 + 21 * ((o + c) % 14) ∨ h + 2 + 21 * ((o + c) % 14) + 20 < q) → N q = M q)
    (hD : (c < 14 ∧ (∀ i, i < 121 → N (b + 5) (121 * c + i) = A i) ∧ ∀ k, k < 121 * c → N (b + 5) k = M (b + 5) k) ∨ (c = 14 ∧ (∀ i, i < 121 → N (b + 5) (121 * 13 + i) = A i) ∧ ∀ k, k < 121 * 13 → N (b + 5) k = M (b + 5) (k + 121))) : HR K N h b o' c' := by
  obtain ⟨h1, h2, h3, h4, h5, h6⟩ := hH
  have old : ∀ j, j < 14 → j ≠ (o + c) % 14 → ∀ B : Pg, RC M (h + 2 + 21 * j) B → RC N (h + 2 + 21 * j) B := fun j hj hn B hB =>
    RC_fr hB (fun q q1 q2 => hblk q (by omega) (by omega) (by omega))
  rcases hc with ⟨c1, rfl, rfl⟩ | ⟨rfl, rfl, rfl⟩
  · rcases hD with ⟨-, d1, d2⟩ | ⟨x, -, -⟩
    · refine ⟨h1, by omega, n1, n2, n8, fun k hk => ?_⟩
      by_cases e : k = c
      · subst e
        exact ⟨RC_ag (fun i hi => d1 i hi) hR, WF_ag (fun i hi => d1 i hi) hA⟩
      · obtain ⟨r1, r2⟩ := h6 k (by omega)
        have g : ag (fun i => M (b + 5) (121 * k + i)) (fun i => N (b + 5) (121 * k + i)) := fun i hi => d2 _ (by omega)
        exact ⟨RC_ag g (old _ (Nat.mod_lt _ (by decide)) (by omega) _ r1), WF_ag g r2⟩
    · omega
  · rcases hD with ⟨x, -, -⟩ | ⟨-, d1, d2⟩
    · omega
    · refine ⟨Nat.mod_lt _ (by decide), by omega, n1, n2, n8, fun k hk => ?_⟩
      by_cases e : k = 13
      · subst e
        rw [show ((o + 1) % 14 + 13) % 14 = (o + 14) % 14 from by omega]
        exact ⟨RC_ag (fun i hi => d1 i hi) hR, WF_ag (fun i hi => d1 i hi) hA⟩
      · obtain ⟨r1, r2⟩ := h6 (k + 1) (by omega)
        have g : ag (fun i => M (b + 5) (121 * (k + 1) + i)) (fun i => N (b + 5) (121 * k + i)) := fun i hi => by
          show N (b + 5) (121 * k + i) = M (b + 5) (121 * (k + 1) + i)
          rw [d2 _ (by omega)]
          congr 1
          omega
        have ej : ((o + 1) % 14 + k) % 14 = (o + (k + 1)) % 14 := by omega
        rw [ej]
        exact ⟨RC_ag g (old _ (Nat.mod_lt _ (by decide)) (by omega) _ r1), WF_ag g r2⟩
/-- what the history needs of a memory -/
theorem HR_fr {o c : Nat} (hH : HR K M h b o c) (eh : ∀ j, j = 1 ∨ j = 2 → N h j = M h j) (e8 : N b 8 = M b 8) (e5 : N (b + 5) = M (b + 5)) (e : ∀ q, h + 2 ≤ q → q < h + 2 + 21 * 14 → N q = M q) : HR K N h b o c := by
  obtain ⟨h1, h2, h3, h4, h5, h6⟩ := hH
  refine ⟨h1, h2, by rw [eh 1 (by decide)]; exact h3, by rw [eh 2 (by decide)]; exact h4, by rw [e8]; exact h5, fun k hk => ?_⟩
  have hm : (o + k) % 14 < 14 := Nat.mod_lt _ (by decide)
  rw [e5]
  obtain ⟨r1, r2⟩ := h6 k hk
  exact ⟨RC_fr r1 (fun q q1 q2 => e q (by omega) (by omega)), r2⟩
theorem nI_mono {k k' : Nat} (h : k ≤ k') (hk : k' < 2147483648) : nI k ≤ nI k' := nI_le h hk
theorem WF_mono {K' : Nat} (hA : WF K A) (hK : K ≤ K') (h2 : K' < 2000000000) : WF K' A := by
  obtain ⟨g1, g2, g3, g4, g5, g6, g7, g8⟩ := hA
  refine ⟨g1, g2, ?_, g4, g5, g6, g7, g8⟩
  obtain ⟨q1, q2, q3, q4⟩ := g3
  have := nI_mono hK (by omega)
  exact ⟨q1, q2, ⟨q3.1, by grind⟩, q4⟩
theorem HR_mono {K' o c : Nat} (hH : HR K M h b o c) (hK : K ≤ K') (h2 : K' < 2000000000) : HR K' M h b o c := by
  obtain ⟨h1, h2', h3, h4, h5, h6⟩ := hH
  exact ⟨h1, h2', h3, h4, h5, fun k hk => ⟨(h6 k hk).1, WF_mono (h6 k hk).2 hK h2⟩⟩
end
