section
variable {F b n i : Nat} {M N : zMi} {P : Pg} {tx : Nat → Nat}
def sP (b i : Nat) (P : Pg) (N : zMi) : zMi := pR (wI N b 3 (nI i)) (b + 2) P
theorem sP_3 : sP b i P N b 3 = nI i := by unfold sP; rw [pR_n (by omega)]; simp [wI]
theorem sP_k {k : Nat} (h : k ≠ 3) : sP b i P N b k = N b k := by unfold sP; rw [pR_n (by omega)]; simp [wI, h]
theorem sP_p : sP b i P N (b + 2) = P := by unfold sP; exact pR_s
theorem sP_q {q : Nat} (h : q ≠ b) (h2 : q ≠ b + 2) : sP b i P N q = N q := by unfold sP; rw [pR_n h2, wI_ne h]
theorem sP_w3 {j : Nat} : wI (sP b i P N) b 3 (nI j) = sP b j P N := by
  unfold sP
  rw [pR_wn (by omega)]
  congr 1
  funext y k; unfold wI; by_cases h1 : y = b <;> by_cases h2 : k = 3 <;> simp_all
theorem sP_wp {k : Nat} {v : Int32} : wI (sP b i P N) (b + 2) k v = sP b i (pU P k v) N := by
  unfold sP; rw [pR_w]
theorem sP_e (h3 : N b 3 = nI i) (hP : N (b + 2) = P) : sP b i P N = N := by
  funext y k; unfold sP pR wI; by_cases h1 : y = b + 2 <;> by_cases h2 : y = b <;> by_cases h4 : k = 3 <;> simp_all
theorem sP_s {j : Nat} {Q : Pg} : sP b i P (sP b j Q N) = sP b i P N := by
  funext y k; unfold sP pR wI; by_cases h1 : y = b + 2 <;> by_cases h2 : y = b <;> by_cases h4 : k = 3 <;> simp_all
/-- the text in the reference's memory -/
def TR (N : zMi) (b n : Nat) (tx : Nat → Nat) : Prop := n ≤ 160 ∧ N b 2 = nI n ∧ ∀ j, j < n → N (b + 1) j = nI (tx j) ∧ tx j < 256
theorem m_eat {c : Nat} (hT : TR N b n tx) (hi : i ≤ n) (hc : c < 256) : f_X11_eat F b (nI c) (sP b i P N) = some (if i < n ∧ tx i = c then 1 else 0, sP b (if i < n ∧ tx i = c then i + 1 else i) P N) := by
  obtain ⟨n1, n2, n3⟩ := hT
  have e0 : f_X11_eat_29 F b (nI c) 0 (sP b i P N) = some (0, sP b i P N) := by
    unfold f_X11_eat_29
    rw [if_pos rfl, sP_3, Int32.add_zero, sP_w3, bnd_e, show zb (0 : Int32) = true from rfl, grd_t]
  have e1 : f_X11_eat_29 F b (nI c) 1 (sP b i P N) = some (1, sP b (i + 1) P N) := by
    unfold f_X11_eat_29
    rw [if_neg (show ¬ (1 : Int32) = 0 by decide), sP_3, ad1, sP_w3, bnd_e, show zb (1 : Int32) = true from rfl, grd_t]
  unfold f_X11_eat
  rw [sP_3, sP_k (by decide), n2]
  by_cases k : i < n
  · obtain ⟨v1, v2⟩ := n3 i k
    rw [if_pos (nI_lt k (by omega)), inbN (by omega) (by decide), grd_t, ixN (by omega), sP_q (by omega) (by omega), v1]
    by_cases e : tx i = c
    · rw [if_pos (by rw [e]), e1, if_pos ⟨k, e⟩, if_pos ⟨k, e⟩]
    · rw [if_neg (fun y => e ((nI_eq (by omega) (by omega)).mp y)), e0, if_neg (fun y => e y.2), if_neg (fun y => e y.2)]
  · rw [if_neg (nI_nlt (by omega) (by omega)), e0, if_neg (fun y => k y.1), if_neg (fun y => k y.1)]
theorem m_numL {at' lo hi dg : Nat} (hT : TR N b n tx) (hat : at' < 121) (hlo : lo ≤ 9999) (hhi : hi ≤ 9999) {d : Nat} : ∀ {v i fu : Nat}, d ≤ 4 → v ≤ 9999 → i ≤ n → d < fu → f_X11_put_28 F b (nI at') (nI dg) (nI lo) (nI hi) fu (nI (10 ^ d / 10)) (nI (v * 10 ^ d)) (sP b i P N) = some (if (rdN n tx lo hi d v i).1 = true then 1 else 0, sP b (rdN n tx lo hi d v i).2.2 (if (rdN n tx lo hi d v i).1 = true then pU P at' (nI (rdN n tx lo hi d v i).2.1) else P) N) := by
  obtain ⟨n1, n2, n3⟩ := hT
  induction d with
  | zero =>
    intro v i fu hd hv hi' hf
    obtain ⟨m, rfl⟩ : ∃ m, fu = m + 1 := ⟨fu - 1, by omega⟩
    rw [f_X11_put_28, if_neg (show ¬ 0 < nI (10 ^ 0 / 10) by decide), inbN hat (by decide), grd_t, ixN (by omega), sP_wp, bnd_e, Nat.pow_zero, Nat.mul_one]
    rfl
  | succ d ih =>
    intro v i fu hd hv hi' hf
    obtain ⟨m, rfl⟩ : ∃ m, fu = m + 1 := ⟨fu - 1, by omega⟩
    obtain ⟨u1, u2, u3⟩ := pw10 (d := d) (by omega)
    have u3 := u3 (by omega)
    have hu : 10 ^ (d + 1) / 10 = 10 ^ d := by rw [Nat.pow_succ, Nat.mul_div_cancel _ (by decide)]
    have no : ∀ v', rdN n tx lo hi (d + 1) v i = (false, v', i) → (some ((0 : Int32), sP b i P N) : Option (Int32 × zMi)) = some (if (rdN n tx lo hi (d + 1) v i).1 = true then 1 else 0, sP b (rdN n tx lo hi (d + 1) v i).2.2 (if (rdN n tx lo hi (d + 1) v i).1 = true then pU P at' (nI (rdN n tx lo hi (d + 1) v i).2.1) else P) N) := fun v' h => by
      rw [h]; rfl
    rw [f_X11_put_28, hu, if_pos (show 0 < nI (10 ^ d) from nI_lt (a := 0) (by omega) (by omega)), sP_3, sP_k (by decide), n2]
    by_cases k : i < n
    · obtain ⟨v1, v2⟩ := n3 i k
      rw [if_pos (nI_lt k (by omega)), inbN (by omega) (by decide), grd_t, ixN (by omega), sP_q (by omega) (by omega), v1]
      unfold f_X11_put_61
      rw [bnd_e, m_in09, cal_s]
      by_cases cd : 48 ≤ tx i ∧ tx i ≤ 57
      · generalize hc : tx i - 48 = c
        have hs : nI (tx i) - (48 : Int32) = nI c := by rw [show (48 : Int32) = nI 48 from rfl, pk_sub cd.1, hc]
        have hc9 : c ≤ 9 := by omega
        have hm : (v * 10 + c) * 10 ^ d ≤ 99999 * 1000 := Nat.mul_le_mul (by omega) u3
        have hx : nI (v * 10 ^ (d + 1)) + nI c * nI (10 ^ d) = nI ((v * 10 + c) * 10 ^ d) := by
          rw [nI_mul, nI_add, Nat.add_mul, Nat.pow_succ, Nat.mul_comm (10 ^ d) 10, Nat.mul_assoc]
        rw [hs, if_pos (show 0 ≤ nI c ∧ nI c ≤ 9 from ⟨nI_pos' (by omega), nI_le (b := 9) hc9 (by decide)⟩), if_neg (show ¬ (1 : Int32) = 0 by decide), hx]
        by_cases ch : (v * 10 + c) * 10 ^ d ≤ hi
        · have hss : nI ((v * 10 + c) * 10 ^ d) + nI (10 ^ d) - 1 = nI ((v * 10 + c) * 10 ^ d + 10 ^ d - 1) := by
            rw [nI_add]
            obtain ⟨y, hy⟩ : ∃ y, (v * 10 + c) * 10 ^ d + 10 ^ d = y + 1 := ⟨(v * 10 + c) * 10 ^ d + 10 ^ d - 1, by omega⟩
            rw [hy, nI_pred]; rfl
          rw [if_neg (nI_nlt ch (by omega)), hss]
          by_cases cl : lo ≤ (v * 10 + c) * 10 ^ d + 10 ^ d - 1
          · have hv' : v * 10 + c ≤ 9999 := by
              have : (v * 10 + c) * 1 ≤ (v * 10 + c) * 10 ^ d := Nat.mul_le_mul_left _ u1
              omega
            have er : rdN n tx lo hi (d + 1) v i = rdN n tx lo hi d (v * 10 + c) (i + 1) := by
              rw [rdN, hc, if_pos ⟨k, cd.1, cd.2, ch, cl⟩]
            rw [if_neg (nI_nlt cl (by omega)), show (10 : Int32) = nI 10 from rfl, pk_div (by omega) (by decide) (by decide), bnd_e, sP_3, ad1, sP_w3, bnd_e, ih (by omega) hv' (by omega) (by omega), er]
          · rw [if_pos (nI_lt (by omega) (by omega))]
            exact no v (by rw [rdN, hc, if_neg (fun y => cl y.2.2.2.2)])
        · rw [if_pos (nI_lt (by omega) (by omega))]
          exact no v (by rw [rdN, hc, if_neg (fun y => ch y.2.2.2.1)])
      · have hn : ¬ (0 ≤ nI (tx i) - (48 : Int32) ∧ nI (tx i) - (48 : Int32) ≤ 9) := by
          intro y
          by_cases c48 : 48 ≤ tx i
          · rw [show (48 : Int32) = nI 48 from rfl, pk_sub c48] at y
            have := (nI_leI (a := tx i - 48) (b := 9) (by omega) (by decide)).mp y.2
            omega
          · have := pk_sneg (a := tx i) (b := 48) (by decide) (by omega)
            rw [show nI 48 = (48 : Int32) from rfl] at this
            have y0 := y.1
            grind
        rw [if_neg hn, if_pos rfl]
        exact no v (by rw [rdN, if_neg (fun y => cd ⟨y.2.1, y.2.2.1⟩)])
    · rw [if_neg (nI_nlt (by omega) (by omega))]
      unfold f_X11_put_61
      rw [bnd_e, m_in09, cal_s, if_neg (show ¬ ((0 : Int32) ≤ -9 ∧ (-9 : Int32) ≤ 9) by decide), if_pos rfl]
      exact no v (by rw [rdN, if_neg (fun y => k y.1)])
theorem m_put6 {p1 p3 p4 : Int32} {dg : Nat} {j : Nat} (hdg : dg ≤ 4) : ∀ {e fu : Nat}, e + 1 + j = dg → j < fu → f_X11_put_6 F b p1 (nI dg) p3 p4 fu (nI (10 ^ e)) (nI (e + 1)) M = f_X11_put_28 F b p1 (nI dg) p3 p4 F (nI (10 ^ (dg - 1))) 0 M := by
  induction j with
  | zero =>
    intro e fu he hf
    obtain ⟨m, rfl⟩ : ∃ m, fu = m + 1 := ⟨fu - 1, by omega⟩
    have : dg = e + 1 := by omega
    subst this
    rw [f_X11_put_6, if_neg (nI_nlt (a := e + 1) (b := e + 1) (by omega) (by omega))]
    rfl
  | succ j ih =>
    intro e fu he hf
    obtain ⟨m, rfl⟩ : ∃ m, fu = m + 1 := ⟨fu - 1, by omega⟩
    rw [f_X11_put_6, if_pos (nI_lt (by omega) (by omega)), show (10 : Int32) = nI 10 from rfl, nI_mul, bnd_e, ad1, ← Nat.pow_succ]
    exact ih (e := e + 1) (by omega) (by omega)
theorem m_put {at' lo hi dg : Nat} (hT : TR N b n tx) (hat : at' < 121) (hlo : lo ≤ 9999) (hhi : hi ≤ 9999) (hdg : dg ≤ 4) (hdg1 : 1 ≤ dg) (hi' : i ≤ n) (hF : 101 ≤ F) : f_X11_put F b (nI at') (nI dg) (nI lo) (nI hi) (sP b i P N) = some (if (rdN n tx lo hi dg 0 i).1 = true then 1 else 0, sP b (rdN n tx lo hi dg 0 i).2.2 (if (rdN n tx lo hi dg 0 i).1 = true then pU P at' (nI (rdN n tx lo hi dg 0 i).2.1) else P) N) := by
  have h6 := m_put6 (F := F) (b := b) (M := sP b i P N) (p1 := nI at') (p3 := nI lo) (p4 := nI hi) (dg := dg) (j := dg - 1) hdg (e := 0) (fu := F) (by omega) (by omega)
  have hL := m_numL (F := F) (P := P) (dg := dg) hT hat hlo hhi (d := dg) (v := 0) (i := i) (fu := F) hdg (by omega) hi' (by omega)
  unfold f_X11_put
  rw [show f_X11_put_6 F b (nI at') (nI dg) (nI lo) (nI hi) F (1 : Int32) (1 : Int32) (sP b i P N) = f_X11_put_6 F b (nI at') (nI dg) (nI lo) (nI hi) F (nI (10 ^ 0)) (nI (0 + 1)) (sP b i P N) from rfl, h6]
  have e : 10 ^ dg / 10 = 10 ^ (dg - 1) := by
    obtain ⟨g, rfl⟩ : ∃ g, dg = g + 1 := ⟨dg - 1, by omega⟩
    rw [Nat.pow_succ, Nat.mul_div_cancel _ (by decide)]
    rfl
  rw [e, Nat.zero_mul] at hL
  exact hL
end
