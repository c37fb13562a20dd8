section
variable {F x a r b o K len : Nat} {M N : zMi} {X : zMl} {xs : Nat → Int32} {A : Pg}
theorem WF_17 (hA : WF K A) : 0 ≤ A 17 ∧ A 17 ≤ 990 := by
  obtain ⟨-, -, -, q4, -, q7, q8, -, -, q17⟩ := hA.2.2.1
  constructor <;> grind
noncomputable def bTr (B : Nat → Pg) (s : Nat) : Pg := dDays 60 (dFill s (B s))
noncomputable def dBest (A : Pg) (B : Nat → Pg) : Nat → Nat → Int32 → Int32 → Int32 → Int32
  | 0, _, v1, _, _ => v1
  | j + 1, s, v1, v2, v3 => if A (59 + 8 * s + 5) = 0 ∧ A 7 ≠ A 4 then
      (if v1 = -9 ∨ v2 < bTr B s 17 - A 17 ∨ (bTr B s 17 - A 17 = v2 ∧ bTr B s 19 < v3) then dBest A B j (s + 1) (nI s) (bTr B s 17 - A 17) (bTr B s 19) else dBest A B j (s + 1) v1 v2 v3)
     else dBest A B j (s + 1) v1 v2 v3
theorem dBest_c {B B' : Nat → Pg} {j : Nat} : ∀ {s : Nat} {v1 v2 v3 : Int32}, (∀ t, s ≤ t → B t = B' t) → dBest A B j s v1 v2 v3 = dBest A B' j s v1 v2 v3 := by
  induction j with
  | zero => intro s v1 v2 v3 h; rfl
  | succ j ih =>
    intro s v1 v2 v3 h
    have e : bTr B s = bTr B' s := by unfold bTr; rw [h s (by omega)]
    unfold dBest
    rw [e, ih (fun t ht => h t (by omega)), ih (fun t ht => h t (by omega))]
theorem dFill_17 {s : Nat} (hs : s < 4) : dFill s A 17 = A 17 := by
  unfold dFill dSend dTake
  rw [pU_n (by omega), pU_n (by omega), pU_n (by omega), pU_n (by omega)]
theorem c_bestL {f : Nat} {B : Nat → Pg} (h : RC M (x + 3) A) (hA : WF K A) (hK : K < 700000000) (hF : 101 ≤ F) (h5 : A 5 = nI f) (hf4 : f ≤ 4) (hB : ∀ t, ag A (B t)) {j : Nat} : ∀ {s fu : Nat} {v1 v2 v3 w2 : Int32} {N : zMi}, s + j = f → j < fu → fr (x + 24) M N → (v1 = -9 ∨ (w2 = v2 + A 17 ∧ 0 ≤ w2 ∧ w2 ≤ 990)) → ∃ N', f_X10_bestShip_10 F x fu v1 w2 v3 (nI s) N = some (dBest A B j s v1 v2 v3, N') ∧ fr (x + 24) M N' := by
  induction j with
  | zero =>
    intro s fu v1 v2 v3 w2 N hs hf hN hv
    obtain ⟨n, rfl⟩ : ∃ n, fu = n + 1 := ⟨fu - 1, by omega⟩
    have e6 : N (x + 3) 6 = nI f := by rw [hN _ (by omega), ← h5]; exact h.1.2.1
    rw [f_X10_bestShip_10, e6, if_neg (nI_nlt (a := s) (b := f) (by omega) (by omega))]
    exact ⟨N, rfl, hN⟩
  | succ j ih =>
    intro s fu v1 v2 v3 w2 N hs hf hN hv
    obtain ⟨n, rfl⟩ : ∃ n, fu = n + 1 := ⟨fu - 1, by omega⟩
    have e6 : N (x + 3) 6 = nI f := by rw [hN _ (by omega), ← h5]; exact h.1.2.1
    have hs4 : s < 4 := by omega
    have hRN : RC N (x + 3) A := RC_fr h (fun q q1 q2 => hN q (by omega))
    obtain ⟨M1, a1, b1, c1⟩ := c_copy (F := F) (a := x + 24) (b := x + 3) (by omega) (by omega) hRN
    have c1' := RC_ag (hB s) c1
    have hAB := WF_ag (hB s) hA
    have e5 : B s (59 + 8 * s + 5) = A (59 + 8 * s + 5) := hB s _ (by omega)
    have e7 : B s 7 = A 7 := hB s _ (by omega)
    have e4 : B s 4 = A 4 := hB s _ (by omega)
    have e17 : B s 17 = A 17 := hB s _ (by omega)
    have hp : nI s < B s 5 := by rw [hB s 5 (by omega), h5]; exact nI_lt (by omega) (by omega)
    obtain ⟨M2, a2, b2, c2⟩ := c_fill (F := F) c1' hAB hs4 hp
    rw [e5, e7, e4] at a2 c2
    have f2 : fr (x + 24) M M2 := fr_t hN (fr_t b1 b2)
    rw [f_X10_bestShip_10, e6, if_pos (nI_lt (a := s) (b := f) (by omega) (by omega)), a1, cal_s, a2, cal_s, ad1]
    unfold dBest f_X10_bestShip_102
    by_cases k : A (59 + 8 * s + 5) = 0 ∧ A 7 ≠ A 4
    · rw [if_pos k] at c2
      rw [if_pos k, if_pos k, if_neg (show ¬ (1 : Int32) = 0 by decide)]
      have hW := WF_fill hAB hs4 hp (by rw [e5]; exact k.1)
      obtain ⟨M3, a3, b3, c3⟩ := c_days (F := F) (n := 60) hF c2 hW (by omega) (by omega) (by omega)
      have hWT := WF_17 (WF_days (n := 60) hW (by omega))
      have eT : dDays 60 (dFill s (B s)) = bTr B s := rfl
      rw [eT] at c3 hWT
      have y1 : M3 (x + 24 + 7) 1 = bTr B s 17 := c3.2.1.2.1
      have y3 : M3 (x + 24 + 7) 3 = bTr B s 19 := c3.2.1.2.2.2.1
      have f3 : fr (x + 24) M M3 := fr_t f2 b3
      have hA17 := WF_17 hA
      dsimp only
      rw [show (60 : Int32) = nI 60 from rfl, a3, cal_s, bnd_e, bnd_e, y1, y3]
      have up : ∀ z, z = dBest A B j (s + 1) (nI s) (bTr B s 17 - A 17) (bTr B s 19) → ∃ N', f_X10_bestShip_10 F x n (nI s) (bTr B s 17) (bTr B s 19) (nI s + 1) M3 = some (z, N') ∧ fr (x + 24) M N' := fun z hz => by
        rw [hz, ad1]
        exact ih (by omega) (by omega) f3 (Or.inr ⟨by grind, hWT.1, hWT.2⟩)
      have st : ∀ z, z = dBest A B j (s + 1) v1 v2 v3 → ∃ N', f_X10_bestShip_10 F x n v1 w2 v3 (nI (s + 1)) M3 = some (z, N') ∧ fr (x + 24) M N' := fun z hz => by
        rw [hz]
        exact ih (by omega) (by omega) f3 hv
      generalize bTr B s 17 = L at *
      generalize bTr B s 19 = C at *
      by_cases k1 : v1 = -9
      · rw [if_pos k1, if_pos (Or.inl k1)]; exact up _ rfl
      · have hv' := hv.resolve_left k1
        rw [if_neg k1]
        by_cases k2 : w2 < L
        · rw [if_pos k2, if_pos (Or.inr (Or.inl (by grind)))]; exact up _ rfl
        · rw [if_neg k2]
          by_cases k3 : L = w2
          · rw [if_pos k3]
            by_cases k4 : C < v3
            · rw [if_pos k4, if_pos (Or.inr (Or.inr ⟨by grind, k4⟩))]; exact up _ rfl
            · rw [if_neg k4, if_neg (by rintro (y | y | y); exact k1 y; grind; exact k4 y.2)]; exact st _ rfl
          · rw [if_neg k3, if_neg (by rintro (y | y | y); exact k1 y; grind; exact k3 (by grind))]; exact st _ rfl
    · rw [if_neg k, if_neg k, if_pos rfl]
      exact ih (by omega) (by omega) f2 hv
end
