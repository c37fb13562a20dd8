section
variable {F x b o K len : Nat} {M N : zMi} {X : zMl} {xs : Nat → Int32} {A : Pg}
theorem in5 {q : Int32} (c : 0 ≤ q ∧ q ≤ 4) : q = 0 ∨ q = 1 ∨ q = 2 ∨ q = 3 ∨ q = 4 := by
  obtain ⟨n, hn, rfl⟩ := exN (n := 4) c.1 c.2 (by decide)
  have : n = 0 ∨ n = 1 ∨ n = 2 ∨ n = 3 ∨ n = 4 := by omega
  rcases this with rfl | rfl | rfl | rfl | rfl <;> decide
theorem in8 {q : Int32} (c : 0 ≤ q ∧ q ≤ 7) : q = 0 ∨ q = 1 ∨ q = 2 ∨ q = 3 ∨ q = 4 ∨ q = 5 ∨ q = 6 ∨ q = 7 := by
  obtain ⟨n, hn, rfl⟩ := exN (n := 7) c.1 c.2 (by decide)
  have : n = 0 ∨ n = 1 ∨ n = 2 ∨ n = 3 ∨ n = 4 ∨ n = 5 ∨ n = 6 ∨ n = 7 := by omega
  rcases this with rfl | rfl | rfl | rfl | rfl | rfl | rfl | rfl <;> decide
theorem z_of {p : Int32} (hA : WF K A) (c : 0 ≤ p ∧ p ≤ A 4 - 1) : ∃ z, z < 9 ∧ p = nI z ∧ nI z < A 4 := by
  have q4 := hA.2.2.1.2.2.2.1
  obtain ⟨z, hz, rfl⟩ := exN (n := 8) (x := p) c.1 (by show p ≤ 8; grind) (by decide)
  exact ⟨z, by omega, rfl, by grind⟩
theorem s_of {p : Int32} (hA : WF K A) (c : 0 ≤ p ∧ p ≤ A 5 - 1) : ∃ s, s < 4 ∧ p = nI s ∧ nI s < A 5 := by
  have q5 : 1 ≤ A 5 ∧ A 5 ≤ 4 := by rcases hA.1.1 with q | q | q | q <;> rw [q] <;> decide
  obtain ⟨s, hs, rfl⟩ := exN (n := 3) (x := p) c.1 (by show p ≤ 3; grind) (by decide)
  exact ⟨s, by omega, rfl, by grind⟩
end
section
variable {F x b o K len : Nat} {M N : zMi} {X : zMl} {xs : Nat → Int32} {A : Pg}
def accT (b : Nat) (p v : Int32) (N : zMi) : Option (Int32 × zMi) := (if p = (3 : Int32) then some (v, N) else (if p < (3 : Int32) then grd (inb ((16 : Int32) + p) 121) (some ((N (b + 3) (ix ((16 : Int32) + p))), N)) else grd (inb ((16 : Int32) + (p - (1 : Int32))) 121) (some ((N (b + 3) (ix ((16 : Int32) + (p - (1 : Int32))))), N))))
theorem acc_o {p : Int32} (c : ¬ (0 ≤ p ∧ p ≤ 7)) : f_X10_account F x p M = some (.inl 1) := by
  have hn : ∀ j : Int32, (0 ≤ j ∧ j ≤ 7) → ¬ p = j := fun j hj e => c (by rw [e]; exact hj)
  unfold f_X10_account
  rw [if_neg (hn 0 (by decide)), if_neg (hn 1 (by decide)), if_neg (hn 2 (by decide)), if_neg (hn 3 (by decide)), if_neg (hn 4 (by decide)), if_neg (hn 5 (by decide)), if_neg (hn 6 (by decide)), if_neg (hn 7 (by decide))]
/-- the most units, in the class -/
theorem c_mostU {a s z l : Nat} {lim : Int32} (h : RC M a A) (hs : s < 4) (hz : z < 9) (hz4 : nI z < A 4) (hl : l ≤ 9) (h3 : A (23 + 4 * z + 3) = nI l) : f_X9_mostUnits F (a + 8 + z) lim (M (a + 17 + s) 4) M = some (dMost A s z lim) := by
  have e : (100 : Int32) + nI l = nI (100 + l) := nI_add 100 l
  unfold f_X9_mostUnits dMost
  rw [RC_z h hz hz4 (by decide), RC_s h hs (by decide), h3, bnd_e, e, if_pos (show (0 : Int32) < nI (100 + l) from nI_lt (a := 0) (by omega) (by omega)), show (!decide (nI (100 + l) = 0)) = true from by simp [nI_ne0 (n := 100 + l) (by omega) (by omega)], grd_t]
end
section
variable {F x b o K len : Nat} {M N : zMi} {X : zMl} {xs : Nat → Int32} {A : Pg}
noncomputable def dCalm (s : Nat) (A : Pg) : Nat → Nat → Int32 → Int32
  | 0, _, v => v
  | j + 1, d, v => dCalm s A j (d + 1) (if A (59 + 8 * s + 2) < dWav A (nI d) then v else v + 1)
theorem c_calm {p1 p2 : Int32} {s z e w : Nat} (h : RC M (x + 3) A) (hs : s < 4) (hz : z < 9) (hz4 : nI z < A 4) (hw0 : 0 < w) (hw2 : w ≤ 30) (h6 : A 6 = nI w) (he : A (23 + 4 * z + 2) = nI e) (he2 : e ≤ 999) {j : Nat} : ∀ {d fu : Nat} {v : Int32}, (d + j = e + 1 ∨ (j = 0 ∧ e < d)) → d < 2000000000 → j < fu → f_X10_calmDays_36 F x p1 p2 fu (x + 3 + 17 + s) (x + 3 + 8 + z) v (nI d) M = some (.inr (dCalm s A j d v)) := by
  induction j with
  | zero =>
    intro d fu v hd hd2 hf
    obtain ⟨n, rfl⟩ : ∃ n, fu = n + 1 := ⟨fu - 1, by omega⟩
    rw [f_X10_calmDays_36, RC_z h hz hz4 (by decide), he, if_pos (nI_lt (a := e) (b := d) (by omega) (by omega))]
    rfl
  | succ j ih =>
    intro d fu v hd hd2 hf
    obtain ⟨n, rfl⟩ : ∃ n, fu = n + 1 := ⟨fu - 1, by omega⟩
    rw [f_X10_calmDays_36, RC_z h hz hz4 (by decide), he, if_neg (nI_nlt (b := d) (a := e) (by omega) (by omega)), c_on h (by omega) hw0 hw2 h6, cal_s, RC_s h hs (by decide), ad1]
    unfold dCalm
    by_cases k : A (59 + 8 * s + 2) < dWav A (nI d)
    · rw [if_pos k, if_pos k]; exact ih (by omega) (by omega) (by omega)
    · rw [if_neg k, if_neg k]; exact ih (by omega) (by omega) (by omega)
end
section
variable {F x a r b o K len : Nat} {M N : zMi} {X : zMl} {xs : Nat → Int32} {A : Pg}
def canT (s : Nat) (u : Int32) (A : Pg) : Prop := A (59 + 8 * s + 5) = 0 ∧ ¬ A 2 < u ∧ ¬ A (59 + 8 * s) - A (59 + 8 * s + 4) < u
theorem c_canTake {s : Nat} {u : Int32} (h : RC M a A) (hs : s < 4) (hu : 1 ≤ u) : (canT s u A ∧ f_X5_canLoadOnto F a (a + 17 + s) u M = some 1) ∨ (¬ canT s u A ∧ f_X5_canLoadOnto F a (a + 17 + s) u M = some 0) := by
  have z0 : M (a + 17 + s) 0 = A (59 + 8 * s) := RC_s h hs (k := 0) (by decide)
  unfold f_X5_canLoadOnto canT
  rw [if_neg (show ¬ u < 1 by grind), z0, RC_s h hs (k := 5) (by decide), RC_s h hs (k := 4) (by decide), h.1.2.2.1]
  by_cases k1 : A (59 + 8 * s + 5) = 0
  · rw [if_pos k1]
    by_cases k2 : A 2 < u
    · rw [if_pos k2]; exact Or.inr ⟨fun y => y.2.1 k2, rfl⟩
    · rw [if_neg k2]
      by_cases k3 : A (59 + 8 * s) - A (59 + 8 * s + 4) < u
      · rw [if_pos k3]; exact Or.inr ⟨fun y => y.2.2 k3, rfl⟩
      · rw [if_neg k3]; exact Or.inl ⟨⟨k1, k2, k3⟩, rfl⟩
  · rw [if_neg k1]; exact Or.inr ⟨fun y => k1 y.1, rfl⟩
theorem c_canRecall {s : Nat} (h : RC M a A) (hs : s < 4) : f_X5_canCallHome F a (a + 17 + s) M = some (if A (59 + 8 * s + 5) = 2 ∨ A (59 + 8 * s + 5) = 3 then 1 else 0) := by
  unfold f_X5_canCallHome
  rw [RC_s h hs (by decide)]
  by_cases k1 : A (59 + 8 * s + 5) = 2
  · rw [if_pos k1, if_pos (Or.inl k1)]
  · rw [if_neg k1]
    by_cases k2 : A (59 + 8 * s + 5) = 3
    · rw [if_pos k2, if_pos (Or.inr k2)]
    · rw [if_neg k2, if_neg (by rintro (y | y); exact k1 y; exact k2 y)]
end
section
variable {F x a r b o K len : Nat} {M N : zMi} {X : zMl} {xs : Nat → Int32} {A : Pg}
theorem c_canExt {z : Nat} {d : Int32} (h : RC M a A) (hz : z < 9) (hz4 : nI z < A 4) (hd : 1 ≤ d) : f_X5_canProlong F a (a + 8 + z) d M = some (if 999 < A (23 + 4 * z + 2) + d then 0 else 1) := by
  unfold f_X5_canProlong
  rw [if_neg (show ¬ d < 1 by grind), RC_z h hz hz4 (by decide)]
  split <;> rfl
end
section
variable {F x a r b o K len : Nat} {M N : zMi} {X : zMl} {xs : Nat → Int32} {A : Pg}
theorem cpg_ag {p o0 q : Nat} {M : zMi} : ag (fun i => M p (o0 + i)) (cpg M p o0 q 0 q) := fun i hi => by
  have := cpg_i (M := M) (p := p) (o := o0) (q := q) (u := 0) hi
  rw [Nat.zero_add] at this
  exact this
end
section
variable {F x a r b o K len : Nat} {M N : zMi} {X : zMl} {xs : Nat → Int32} {A : Pg}
theorem in2 {q : Int32} (c : 0 ≤ q ∧ q ≤ 1) : ∃ s, s < 2 ∧ q = nI s := by
  obtain ⟨n, hn, rfl⟩ := exN (n := 1) c.1 c.2 (by decide)
  exact ⟨n, by omega, rfl⟩
theorem c_slot {p : Int32} : f_X10_existingSlot F x p M = some (if 0 ≤ p ∧ p ≤ 1 then .inr (x + 342 + 22 * ix p) else .inl 3) := by
  unfold f_X10_existingSlot
  by_cases c : 0 ≤ p ∧ p ≤ 1
  · obtain ⟨s, hs, rfl⟩ := in2 c
    rw [if_pos c, if_neg (nI_pos (by omega)), if_pos (show nI s < 2 from nI_lt (b := 2) hs (by decide)), inbN hs (by decide), grd_t, bnd_e]
  · rw [if_neg c]
    by_cases c1 : p < 0
    · rw [if_pos c1]
    · rw [if_neg c1, if_neg (fun y => c (by grind))]
end
section
variable {F x a r b o K len : Nat} {M N : zMi} {X : zMl} {xs : Nat → Int32} {A : Pg}
end
