section
variable {F a b p n i K : Nat} {M N M' : zMi} {P Z : Pg} {tx : Nat → Nat} {v : Int32}
theorem ship_f (hT : TX M p n tx) (hp : p + 1 < a) (hi : i ≤ n) (hc : ¬ (i < n ∧ tx i = 115)) (hF : 101 ≤ F) : ∃ M', f_X7_readShip F p a (tS p i 1 M) = some (tS p i 0 M') ∧ frT p a M M' := by
  have eL : f_X7_readLetter F p 115 (tS p i 1 M) = some (tS p i 0 M) := by
    have := c_let (F := F) (c := 115) (i := i) hT hi (by decide)
    rw [if_neg hc] at this
    exact this
  have z3 : ∀ q (y1 y2 : Int32), f_X7_readNumber F p (3 : Int32) y1 y2 (tS p q 0 M) = some (0, tS p q 0 M) := fun q y1 y2 => c_num0 (dg := 3) (by decide) hF
  have z2 : ∀ q (y1 y2 : Int32), f_X7_readNumber F p (2 : Int32) y1 y2 (tS p q 0 M) = some (0, tS p q 0 M) := fun q y1 y2 => c_num0 (dg := 2) (by decide) hF
  have z1 : ∀ q (y1 y2 : Int32), f_X7_readNumber F p (1 : Int32) y1 y2 (tS p q 0 M) = some (0, tS p q 0 M) := fun q y1 y2 => c_num0 (dg := 1) (by decide) hF
  obtain ⟨N1, b1, b2⟩ := c_addSt (F := F) (a := a) (M := tS p i 0 M) (v0 := 0) (v1 := 0) (v2 := 0) (v3 := 0)
  refine ⟨N1, ?_, frT_t frT_s (frT_f (by omega) b2)⟩
  unfold f_X7_readShip
  simp only [eL, cal_s, z1, z2, z3, b1]
  rw [tS_f (by omega) b2]
theorem zone_f (hT : TX M p n tx) (hp : p + 1 < a) (hi : i ≤ n) (hc : ¬ (i < n ∧ tx i = 122)) (hF : 101 ≤ F) : ∃ M', f_X7_readZone F p a (tS p i 1 M) = some (tS p i 0 M') ∧ frT p a M M' := by
  have eL : f_X7_readLetter F p 122 (tS p i 1 M) = some (tS p i 0 M) := by
    have := c_let (F := F) (c := 122) (i := i) hT hi (by decide)
    rw [if_neg hc] at this
    exact this
  have z2 : ∀ q (y1 y2 : Int32), f_X7_readNumber F p (2 : Int32) y1 y2 (tS p q 0 M) = some (0, tS p q 0 M) := fun q y1 y2 => c_num0 (dg := 2) (by decide) hF
  have z1 : ∀ q (y1 y2 : Int32), f_X7_readNumber F p (1 : Int32) y1 y2 (tS p q 0 M) = some (0, tS p q 0 M) := fun q y1 y2 => c_num0 (dg := 1) (by decide) hF
  obtain ⟨N1, b1, b2⟩ := c_addZt (F := F) (a := a) (M := tS p i 0 M) (v0 := 0) (v1 := 0) (v2 := 0) (v3 := 0)
  refine ⟨N1, ?_, frT_t frT_s (frT_f (by omega) b2)⟩
  unfold f_X7_readZone
  simp only [eL, cal_s, z1, z2, b1]
  rw [tS_f (by omega) b2]
theorem PW_0 {t d e : Nat} (hZ : ∀ k, k < 121 → Z k = 0) (t1 : 1 ≤ t) (t3 : t ≤ 3) (d1 : 1 ≤ d) (d3 : d ≤ 3) (e9 : e ≤ 9999) : PW 0 0 0 (pU (pU (pU Z 0 (nI t)) 1 (nI d)) 2 (nI e)) := by
  have o : ∀ k, 2 < k → k < 121 → pU (pU (pU Z 0 (nI t)) 1 (nI d)) 2 (nI e) k = 0 := fun k h1 h2 => by
    rw [pU_n (by omega), pU_n (by omega), pU_n (by omega)]; exact hZ k h2
  have x0 : pU (pU (pU Z 0 (nI t)) 1 (nI d)) 2 (nI e) 0 = nI t := by rw [pU_n (by omega), pU_n (by omega), pU_s]
  have x1 : pU (pU (pU Z 0 (nI t)) 1 (nI d)) 2 (nI e) 1 = nI d := by rw [pU_n (by omega), pU_s]
  have x2 : pU (pU (pU Z 0 (nI t)) 1 (nI d)) 2 (nI e) 2 = nI e := pU_s
  refine ⟨?_, ?_, ?_, o 4 (by decide) (by decide), o 5 (by decide) (by decide), o 6 (by decide) (by decide), o 3 (by decide) (by decide), fun k k1 k2 => o k (by omega) (by omega), fun z _ hz => by omega, fun s _ hs => by omega, fun s hs _ k hk => o _ (by omega) (by omega), fun s hs k k4 k8 => o _ (by omega) (by omega)⟩
  · rw [x0]
    have : t = 1 ∨ t = 2 ∨ t = 3 := by omega
    rcases this with rfl | rfl | rfl <;> decide
  · rw [x1]; exact ⟨nI_le (a := 1) d1 (by omega), (nb d3 (by decide)).2⟩
  · rw [x2]; exact nb e9 (by decide)
theorem c_readInto : f_X7_readInto F p a M = cal (f_X7_readHead F p a (tS p 0 1 M)) (fun r3 => f_X7_readInto_17 F p a F 0 r3) := rfl
end
