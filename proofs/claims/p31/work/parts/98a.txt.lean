section
variable {F p n i : Nat} {M N : zMi} {al : Int32} {tx : Nat → Nat}
/-- reading a number: allowed, its value so far, the position -/
def rdN (n : Nat) (tx : Nat → Nat) (lo hi : Nat) : Nat → Nat → Nat → Bool × Nat × Nat
  | 0, v, i => (true, v, i)
  | d + 1, v, i => if i < n ∧ 48 ≤ tx i ∧ tx i ≤ 57 ∧ (v * 10 + (tx i - 48)) * 10 ^ d ≤ hi ∧ lo ≤ (v * 10 + (tx i - 48)) * 10 ^ d + 10 ^ d - 1 then rdN n tx lo hi d (v * 10 + (tx i - 48)) (i + 1) else (false, v, i)
def tS (p i : Nat) (al : Int32) (M : zMi) : zMi := wI (wI M p 2 (nI i)) p 3 al
theorem tS_k {k : Nat} (h2 : k ≠ 2) (h3 : k ≠ 3) : tS p i al M p k = M p k := by unfold tS; simp [wI, h2, h3]
theorem tS_2 : tS p i al M p 2 = nI i := by unfold tS; simp [wI]
theorem tS_3 : tS p i al M p 3 = al := by unfold tS; simp [wI]
theorem tS_q {q : Nat} (h : q ≠ p) : tS p i al M q = M q := by unfold tS; rw [wI_ne h, wI_ne h]
theorem tS_w3 {al' : Int32} : wI (tS p i al M) p 3 al' = tS p i al' M := by
  funext q k; unfold tS wI; by_cases h1 : q = p <;> by_cases h2 : k = 3 <;> simp_all
theorem tS_w2 {j : Nat} : wI (tS p i al M) p 2 (nI j) = tS p j al M := by
  funext q k; unfold tS wI; by_cases h1 : q = p <;> by_cases h2 : k = 3 <;> by_cases h3 : k = 2 <;> simp_all
theorem tS_o {q j : Nat} {v : Int32} (h : q ≠ p) : wI (tS p i al M) q j v = tS p i al (wI M q j v) := by
  funext y k; unfold tS wI; by_cases h1 : y = p <;> by_cases h2 : y = q <;> by_cases h3 : k = j <;> simp_all
theorem tS_e (h2 : M p 2 = nI i) (h3 : M p 3 = al) : tS p i al M = M := by
  funext y k; unfold tS wI; by_cases h1 : y = p <;> by_cases h4 : k = 3 <;> by_cases h5 : k = 2 <;> simp_all
/-- the text in a memory -/
def TX (M : zMi) (p n : Nat) (tx : Nat → Nat) : Prop := n ≤ 160 ∧ M p 1 = nI n ∧ ∀ j, j < n → M (p + 1) j = nI (tx j) ∧ tx j < 256
theorem c_dig (hT : TX M p n tx) (hi : i ≤ n) : f_X7_nextDigit F p (tS p i al M) = some (if i < n ∧ 48 ≤ tx i ∧ tx i ≤ 57 then nI (tx i - 48) else -9) := by
  obtain ⟨n1, n2, n3⟩ := hT
  unfold f_X7_nextDigit
  rw [tS_2, tS_k (by decide) (by decide), n2, if_neg (nI_pos (by omega))]
  by_cases c : i < n
  · obtain ⟨v1, v2⟩ := n3 i c
    rw [if_pos (nI_lt c (by omega)), if_pos (show nI i < 160 from nI_lt (b := 160) (by omega) (by decide)), inbN (by omega) (by decide), grd_t, ixN (by omega), tS_q (by omega), v1, bnd_e]
    by_cases c1 : 48 ≤ tx i
    · rw [if_neg (show ¬ nI (tx i) < 48 from nI_nlt (b := 48) c1 (by omega))]
      by_cases c2 : tx i ≤ 57
      · rw [if_neg (show ¬ 57 < nI (tx i) from nI_nlt (a := 57) c2 (by omega)), if_pos ⟨c, c1, c2⟩, show (48 : Int32) = nI 48 from rfl, pk_sub c1]
      · rw [if_pos (show 57 < nI (tx i) from nI_lt (a := 57) (by omega) (by omega)), if_neg (fun y => c2 y.2.2)]
    · rw [if_pos (show nI (tx i) < 48 from nI_lt (b := 48) (by omega) (by omega)), if_neg (fun y => c1 y.2.1)]
  · rw [if_neg (nI_nlt (by omega) (by omega)), if_neg (fun y => c y.1)]
theorem c_numStop {p1 p2 p3 v4 v5 v6 : Int32} {fu : Nat} : f_X7_readNumber_31 F p p1 p2 p3 (fu + 1) v4 v5 v6 (tS p i 0 M) = some (v5, tS p i 0 M) := by
  rw [f_X7_readNumber_31, tS_3, if_pos rfl]
  split <;> rfl
theorem pw10 {d : Nat} (h : d ≤ 4) : 1 ≤ 10 ^ d ∧ 10 ^ d ≤ 10000 ∧ (d ≤ 3 → 10 ^ d ≤ 1000) := by
  have : d = 0 ∨ d = 1 ∨ d = 2 ∨ d = 3 ∨ d = 4 := by omega
  rcases this with rfl | rfl | rfl | rfl | rfl <;> decide
theorem pw10_d {d : Nat} (h : d ≤ 3) : nI (10 ^ (d + 1)) / (10 : Int32) = nI (10 ^ d) := by
  rw [show (10 : Int32) = nI 10 from rfl, pk_div (by have := (pw10 (d := d + 1) (by omega)).2.1; omega) (by decide) (by decide), Nat.pow_succ, Nat.mul_div_cancel _ (by decide)]
theorem c_numL {lo hi dg : Nat} (hT : TX M p n tx) (hlo : lo ≤ 9999) (hhi : hi ≤ 9999) (hdg : dg ≤ 4) {d : Nat} : ∀ {e v i fu : Nat}, e + d = dg → v ≤ 9999 → i ≤ n → d < fu → f_X7_readNumber_31 F p (nI dg) (nI lo) (nI hi) fu (nI (10 ^ d)) (nI v) (nI e) (tS p i 1 M) = some (nI (rdN n tx lo hi d v i).2.1, tS p (rdN n tx lo hi d v i).2.2 (if (rdN n tx lo hi d v i).1 = true then 1 else 0) M) := by
  induction d with
  | zero =>
    intro e v i fu he hv hi' hf
    obtain ⟨m, rfl⟩ : ∃ m, fu = m + 1 := ⟨fu - 1, by omega⟩
    have : e = dg := by omega
    subst this
    rw [f_X7_readNumber_31, if_neg (nI_nlt (a := e) (b := e) (by omega) (by omega))]
    rfl
  | succ d ih =>
    intro e v i fu he hv hi' hf
    obtain ⟨m, rfl⟩ : ∃ m, fu = m + 1 := ⟨fu - 1, by omega⟩
    obtain ⟨m', rfl⟩ : ∃ m', m = m' + 1 := ⟨m - 1, by omega⟩
    obtain ⟨u1, u2, u3⟩ := pw10 (d := d) (by omega)
    have u3 := u3 (by omega)
    rw [f_X7_readNumber_31, if_pos (nI_lt (by omega) (by omega)), tS_3, if_neg (show ¬ (1 : Int32) = 0 by decide), c_dig hT hi', cal_s, pw10_d (by omega), bnd_e, bnd_e]
    have stop : f_X7_readNumber_98 F p (nI dg) (nI lo) (nI hi) (f_X7_readNumber_31 F p (nI dg) (nI lo) (nI hi) (m' + 1)) (nI (10 ^ d)) (nI v) (nI e) (if i < n ∧ 48 ≤ tx i ∧ tx i ≤ 57 then nI (tx i - 48) else -9) 0 (tS p i 1 M) = some (nI v, tS p i 0 M) := by
      unfold f_X7_readNumber_98
      rw [show zb (0 : Int32) = true from rfl, grd_t, tS_w3, bnd_e, tS_3, if_pos rfl, c_numStop]
    by_cases cd : i < n ∧ 48 ≤ tx i ∧ tx i ≤ 57
    · rw [if_pos cd] at stop ⊢
      generalize hc : tx i - 48 = c at *
      have hc9 : c ≤ 9 := by omega
      have hm : (v * 10 + c) * 10 ^ d ≤ 99999 * 1000 := Nat.mul_le_mul (by omega) u3
      have hx : (nI v * 10 + nI c) * nI (10 ^ d) = nI ((v * 10 + c) * 10 ^ d) := by
        rw [show (10 : Int32) = nI 10 from rfl, nI_mul, nI_add, nI_mul]
      rw [hx, if_neg (nI_pos (by omega))]
      by_cases ch : (v * 10 + c) * 10 ^ d ≤ hi
      · rw [if_neg (nI_nlt ch (by omega))]
        have hs : nI ((v * 10 + c) * 10 ^ d) + nI (10 ^ d) - 1 = nI ((v * 10 + c) * 10 ^ d + 10 ^ d - 1) := by
          rw [nI_add]
          obtain ⟨y, hy⟩ : ∃ y, (v * 10 + c) * 10 ^ d + 10 ^ d = y + 1 := ⟨(v * 10 + c) * 10 ^ d + 10 ^ d - 1, by omega⟩
          rw [hy, nI_pred]; rfl
        rw [hs]
        by_cases cl : lo ≤ (v * 10 + c) * 10 ^ d + 10 ^ d - 1
        · rw [if_neg (nI_nlt cl (by omega))]
          have hv' : v * 10 + c ≤ 9999 := by
            have : (v * 10 + c) * 1 ≤ (v * 10 + c) * 10 ^ d := Nat.mul_le_mul_left _ u1
            omega
          unfold f_X7_readNumber_98
          rw [show zb (1 : Int32) = true from rfl, grd_t, tS_w3, bnd_e, tS_3, if_neg (show ¬ (1 : Int32) = 0 by decide), tS_2, ad1, tS_w2, bnd_e, bnd_e, ad1, show nI v * 10 + nI c = nI (v * 10 + c) from by rw [show (10 : Int32) = nI 10 from rfl, nI_mul, nI_add], ih (e := e + 1) (by omega) hv' (by omega) (by omega)]
          have er : rdN n tx lo hi (d + 1) v i = rdN n tx lo hi d (v * 10 + c) (i + 1) := by
            rw [rdN, hc, if_pos ⟨cd.1, cd.2.1, cd.2.2, ch, cl⟩]
          rw [er]
        · rw [if_pos (nI_lt (by omega) (by omega)), stop]
          have er : rdN n tx lo hi (d + 1) v i = (false, v, i) := by
            rw [rdN, hc, if_neg (fun y => cl y.2.2.2.2)]
          rw [er]
          rfl
      · rw [if_pos (nI_lt (by omega) (by omega)), stop]
        have er : rdN n tx lo hi (d + 1) v i = (false, v, i) := by
          rw [rdN, hc, if_neg (fun y => ch y.2.2.2.1)]
        rw [er]
        rfl
    · rw [if_neg cd] at stop ⊢
      rw [if_pos (show (-9 : Int32) < 0 by decide), stop]
      have er : rdN n tx lo hi (d + 1) v i = (false, v, i) := by
        rw [rdN, if_neg (fun y => cd ⟨y.1, y.2.1, y.2.2.1⟩)]
      rw [er]
      rfl
theorem c_num6 {p2 p3 : Int32} {dg : Nat} {j : Nat} (hdg : dg ≤ 4) : ∀ {e fu : Nat}, e + j = dg → j < fu → f_X7_readNumber_6 F p (nI dg) p2 p3 fu (nI (10 ^ e)) (nI e) M = f_X7_readNumber_31 F p (nI dg) p2 p3 F (nI (10 ^ dg)) 0 0 M := by
  induction j with
  | zero =>
    intro e fu he hf
    obtain ⟨m, rfl⟩ : ∃ m, fu = m + 1 := ⟨fu - 1, by omega⟩
    have : e = dg := by omega
    subst this
    rw [f_X7_readNumber_6, if_neg (nI_nlt (a := e) (b := e) (by omega) (by omega))]
  | succ j ih =>
    intro e fu he hf
    obtain ⟨m, rfl⟩ : ∃ m, fu = m + 1 := ⟨fu - 1, by omega⟩
    rw [f_X7_readNumber_6, if_pos (nI_lt (by omega) (by omega)), show (10 : Int32) = nI 10 from rfl, nI_mul, bnd_e, ad1, ← Nat.pow_succ]
    exact ih (by omega) (by omega)
theorem c_num {lo hi dg : Nat} (hT : TX M p n tx) (hlo : lo ≤ 9999) (hhi : hi ≤ 9999) (hdg : dg ≤ 4) (hi' : i ≤ n) (hF : 101 ≤ F) : f_X7_readNumber F p (nI dg) (nI lo) (nI hi) (tS p i 1 M) = some (nI (rdN n tx lo hi dg 0 i).2.1, tS p (rdN n tx lo hi dg 0 i).2.2 (if (rdN n tx lo hi dg 0 i).1 = true then 1 else 0) M) := by
  have h6 := c_num6 (F := F) (p := p) (M := tS p i 1 M) (p2 := nI lo) (p3 := nI hi) (dg := dg) (j := dg) hdg (e := 0) (fu := F) (by omega) (by omega)
  have hL := c_numL (F := F) (lo := lo) (hi := hi) hT hlo hhi hdg (d := dg) (e := 0) (v := 0) (i := i) (fu := F) (by omega) (by omega) hi' (by omega)
  unfold f_X7_readNumber
  rw [show f_X7_readNumber_6 F p (nI dg) (nI lo) (nI hi) F (1 : Int32) (0 : Int32) (tS p i 1 M) = f_X7_readNumber_6 F p (nI dg) (nI lo) (nI hi) F (nI (10 ^ 0)) (nI 0) (tS p i 1 M) from rfl, h6]
  exact hL
theorem c_num0 {p2 p3 : Int32} {dg : Nat} (hdg : dg ≤ 4) (hF : 101 ≤ F) : f_X7_readNumber F p (nI dg) p2 p3 (tS p i 0 M) = some (0, tS p i 0 M) := by
  have h6 := c_num6 (F := F) (p := p) (M := tS p i 0 M) (p2 := p2) (p3 := p3) (dg := dg) (j := dg) hdg (e := 0) (fu := F) (by omega) (by omega)
  obtain ⟨m, hm⟩ : ∃ m, F = m + 1 := ⟨F - 1, by omega⟩
  unfold f_X7_readNumber
  rw [show f_X7_readNumber_6 F p (nI dg) p2 p3 F (1 : Int32) (0 : Int32) (tS p i 0 M) = f_X7_readNumber_6 F p (nI dg) p2 p3 F (nI (10 ^ 0)) (nI 0) (tS p i 0 M) from rfl, h6]
  have hh : ∀ F', F' = F → f_X7_readNumber_31 F p (nI dg) p2 p3 F' (nI (10 ^ dg)) 0 0 (tS p i 0 M) = some (0, tS p i 0 M) := by
    intro F' hF'
    rw [hF', hm, c_numStop]
  exact hh F rfl
theorem c_nextIs {c : Nat} (hT : TX M p n tx) (hi : i ≤ n) (hc : c < 256) : f_X7_nextIs F p (nI c) (tS p i al M) = some (if i < n ∧ tx i = c then 1 else 0) := by
  obtain ⟨n1, n2, n3⟩ := hT
  unfold f_X7_nextIs
  rw [tS_2, tS_k (by decide) (by decide), n2, if_neg (nI_pos (by omega))]
  by_cases k : i < n
  · obtain ⟨v1, v2⟩ := n3 i k
    rw [if_pos (nI_lt k (by omega)), if_pos (show nI i < 160 from nI_lt (b := 160) (by omega) (by decide)), inbN (by omega) (by decide), grd_t, ixN (by omega), tS_q (by omega), v1]
    by_cases e : tx i = c
    · rw [if_pos (by rw [e]), if_pos ⟨k, e⟩]
    · rw [if_neg (fun y => e ((nI_eq (by omega) (by omega)).mp y)), if_neg (fun y => e y.2)]
  · rw [if_neg (nI_nlt (by omega) (by omega)), if_neg (fun y => k y.1)]
theorem c_let {c : Nat} (hT : TX M p n tx) (hi : i ≤ n) (hc : c < 256) : f_X7_readLetter F p (nI c) (tS p i 1 M) = some (if i < n ∧ tx i = c then tS p (i + 1) 1 M else tS p i 0 M) := by
  unfold f_X7_readLetter f_X7_readLetter_21
  rw [tS_3, if_neg (show ¬ (1 : Int32) = 0 by decide), c_nextIs hT hi hc, cal_s]
  by_cases k : i < n ∧ tx i = c
  · rw [if_pos k, if_pos k, if_neg (show ¬ (1 : Int32) = 0 by decide), show zb (1 : Int32) = true from rfl, grd_t, tS_w3, bnd_e, tS_3, if_neg (show ¬ (1 : Int32) = 0 by decide), tS_2, ad1, tS_w2, bnd_e]
  · rw [if_neg k, if_neg k, if_pos rfl, show zb (0 : Int32) = true from rfl, grd_t, tS_w3, bnd_e, tS_3, if_pos rfl]
theorem c_let0 {c : Int32} : f_X7_readLetter F p c (tS p i 0 M) = some (tS p i 0 M) := by
  unfold f_X7_readLetter f_X7_readLetter_21
  rw [tS_3, if_pos rfl, show zb (0 : Int32) = true from rfl, grd_t, tS_w3, bnd_e, tS_3, if_pos rfl]
/-- what a number that is allowed tells -/
theorem rdN_i {lo hi d : Nat} : ∀ {v i : Nat}, i ≤ n → (rdN n tx lo hi d v i).2.2 ≤ n := by
  induction d with
  | zero => intro v i h; exact h
  | succ d ih =>
    intro v i h
    rw [rdN]
    split
    · rename_i c; exact ih (by omega)
    · exact h
theorem rdN_b {lo hi d : Nat} : ∀ {v i : Nat}, (d = 0 → lo ≤ v ∧ v ≤ hi) → (rdN n tx lo hi d v i).1 = true → lo ≤ (rdN n tx lo hi d v i).2.1 ∧ (rdN n tx lo hi d v i).2.1 ≤ hi := by
  induction d with
  | zero => intro v i h _; exact h rfl
  | succ d ih =>
    intro v i h
    rw [rdN]
    split
    · rename_i c
      refine ih (fun hd => ?_)
      subst hd
      obtain ⟨-, -, -, c1, c2⟩ := c
      rw [Nat.pow_zero, Nat.mul_one] at c1 c2
      omega
    · intro y; cases y
end
