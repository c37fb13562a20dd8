section
variable {F x K n len : Nat} {M M' : zMi} {A : Pg} {D : Nat → Nat} {Q : (Nat × (Nat → Pg)) × (Nat → Option Pg)} {xs : Nat → Int32}
theorem l_numE (k : Nat) (hk : k < 2147483648) (hl : len ≤ 260) : ∃ a, a < 2147483648 ∧ ∀ (F : Nat) (M : zMi), f_L_number F len xs (nI k) M = some (nI a) := by
  by_cases c : nI k < Int32.ofNat len
  · obtain ⟨a, a1, a2⟩ := pk_andE (xs (ix (nI k))) (m := 2147483647) 31 (by decide)
    have kl : k < len := (nI_ltI (a := k) (b := len) hk (by omega)).mp c
    refine ⟨a, a1, fun F M => ?_⟩
    unfold f_L_number
    rw [if_pos c, inbN kl (by omega), grd_t, a2]
  · obtain ⟨a, a1, a2⟩ := pk_andE (((15516779 : Int32) * (nI k + (5 : Int32))) + (10099 : Int32)) (m := 2147483647) 31 (by decide)
    refine ⟨a, a1, fun F M => ?_⟩
    unfold f_L_number
    rw [if_neg c, a2]
theorem l_numD (at' : Nat) (ha : at' < 1000000) (hl : len ≤ 260) : ∃ D : Nat → Nat, ∀ k, k < 1000000 → D k < 2147483648 ∧ ∀ (F : Nat) (M : zMi), f_L_number F len xs (nI (at' + k)) M = some (nI (D k)) := by
  have h : ∀ k : Nat, ∃ a, k < 1000000 → a < 2147483648 ∧ ∀ (F : Nat) (M : zMi), f_L_number F len xs (nI (at' + k)) M = some (nI a) := fun k => by
    by_cases c : k < 1000000
    · obtain ⟨a, a1, a2⟩ := l_numE (xs := xs) (at' + k) (by omega) hl
      exact ⟨a, fun _ => ⟨a1, a2⟩⟩
    · exact ⟨0, fun y => absurd y c⟩
  exact ⟨fun k => Classical.choose (h k), fun k hk => Classical.choose_spec (h k) hk⟩
/-- both objects, a part of the told text in each -/
def T2 (K : Nat) (M : zMi) (x : Nat) (A : Pg) (Q : (Nat × (Nat → Pg)) × (Nat → Option Pg)) (D : Nat → Nat) (n : Nat) : Prop := ∃ tx : Nat → Nat, (∀ k, k < n → tx k = TT D k) ∧ Ob K M x A ((n, tx), Q) ∧ Ob K M (x + 386) A ((n, tx), Q)
theorem Ob_x {x y : Nat} {R : Rs} (h : Ob K M y A R) (f : fO x M M') (hd : y + 385 < x ∨ x + 385 < y) : Ob K M' y A R := Ob_o h (fun q q1 q2 => f q (by omega))
theorem TX_T {p : Nat} {tx : Nat → Nat} (h : TX M p n tx) (e : ∀ k, k < n → tx k = TT D k) : TX M p n (TT D) := ⟨h.1, h.2.1, fun j hj => by rw [← e j hj]; exact h.2.2 j hj⟩
theorem l_put {c : Nat} (h : T2 K M x A Q D n) (hn : n < 160) (hc : c < 256) (e : TT D n = c) : ∃ M', f_L_put F x (x + 386) (nI c) M = some (1, M') ∧ T2 K M' x A Q D (n + 1) := by
  obtain ⟨tx, t1, t2, t3⟩ := h
  obtain ⟨M1, a1, a2, a3⟩ := t_apY (F := F) (n := 0) (tx := fun _ => 0) (v := c) t2 hn hc
  obtain ⟨M2, b1, b2, b3⟩ := t_apY (F := F) (n := 0) (tx := fun _ => 0) (v := c) (Ob_x t3 a3 (by omega)) hn hc
  have p : (0 : Int32) < nI (n + 1) := nI_lt (a := 0) (by omega) (by omega)
  refine ⟨M2, ?_, fun k => if k = n then c else tx k, fun k hk => ?_, Ob_x a2 b3 (by omega), b2⟩
  · unfold f_L_put
    rw [a1, cal_s, if_pos p, b1, cal_s, if_pos p]
  · show (if k = n then c else tx k) = TT D k
    by_cases k' : k = n
    · rw [if_pos k', k', e]
    · rw [if_neg k']; exact t1 k (by omega)
theorem l_dig6 {v : Nat} {p3 : Int32} (hv : v < 2147483648) {k : Nat} : ∀ {n fu : Nat} {M : zMi}, k ≤ 3 → k + 1 < fu → T2 K M x A Q D n → n + k + 1 ≤ 160 → (∀ j, j ≤ k → TT D (n + j) = 48 + v / 10 ^ (k - j) % 10) → ∃ M', f_L_digits_6 F x (x + 386) (nI v) p3 fu 1 (nI (10 ^ k)) M = some (1, M') ∧ T2 K M' x A Q D (n + k + 1) := by
  induction k with
  | zero =>
    intro n fu M hk hf h hn ht
    obtain ⟨m, rfl⟩ : ∃ m, fu = m + 2 := ⟨fu - 2, by omega⟩
    have e := ht 0 (Nat.le_refl _)
    have lt := Nat.mod_lt (v / 10 ^ 0) (show 10 > 0 by decide)
    obtain ⟨M1, a1, a2⟩ := l_put (F := F) (c := 48 + v / 10 ^ 0 % 10) h (by omega) (by omega) e
    refine ⟨M1, ?_, a2⟩
    rw [f_L_digits_6, if_pos (show (0 : Int32) < nI (10 ^ 0) by decide), if_neg (show ¬ (1 : Int32) = 0 by decide), show (!decide (nI (10 ^ 0) = 0)) = true by decide, grd_t, show nI v / nI (10 ^ 0) = nI (v / 10 ^ 0) from div_N hv (by decide) (by decide) rfl, show nI (v / 10 ^ 0) - nI (v / 10 ^ 0) / (10 : Int32) * (10 : Int32) = nI (v / 10 ^ 0 % 10) from rem_N (dlt hv) (by decide) (by decide) rfl, show (48 : Int32) + nI (v / 10 ^ 0 % 10) = nI (48 + v / 10 ^ 0 % 10) from nI_add 48 _, a1, cal_s, if_neg (show ¬ (1 : Int32) = 0 by decide), bnd_e, show nI (10 ^ 0) / (10 : Int32) = 0 by decide, f_L_digits_6, if_neg (show ¬ (0 : Int32) < 0 by decide)]
    rfl
  | succ k ih =>
    intro n fu M hk hf h hn ht
    obtain ⟨m, rfl⟩ : ∃ m, fu = m + 1 := ⟨fu - 1, by omega⟩
    obtain ⟨u1, u2, -⟩ := pw10 (d := k + 1) (by omega)
    have e := ht 0 (Nat.zero_le _)
    rw [Nat.sub_zero, Nat.add_zero] at e
    have lt := Nat.mod_lt (v / 10 ^ (k + 1)) (show 10 > 0 by decide)
    obtain ⟨M1, a1, a2⟩ := l_put (F := F) (c := 48 + v / 10 ^ (k + 1) % 10) h (by omega) (by omega) e
    obtain ⟨M2, b1, b2⟩ := ih (n := n + 1) (fu := m) (by omega) (by omega) a2 (by omega) (fun j hj => by
      have := ht (j + 1) (by omega)
      rw [show n + 1 + j = n + (j + 1) by omega, this, show k + 1 - (j + 1) = k - j by omega])
    refine ⟨M2, ?_, by rw [show n + (k + 1) + 1 = n + 1 + k + 1 by omega]; exact b2⟩
    rw [f_L_digits_6, if_pos (show (0 : Int32) < nI (10 ^ (k + 1)) from nI_lt (a := 0) (by omega) (by omega)), if_neg (show ¬ (1 : Int32) = 0 by decide), show (!decide (nI (10 ^ (k + 1)) = 0)) = true by simp [nI_ne0 (n := 10 ^ (k + 1)) (by omega) (by omega)], grd_t, show nI v / nI (10 ^ (k + 1)) = nI (v / 10 ^ (k + 1)) from div_N hv (by omega) (by omega) rfl, show nI (v / 10 ^ (k + 1)) - nI (v / 10 ^ (k + 1)) / (10 : Int32) * (10 : Int32) = nI (v / 10 ^ (k + 1) % 10) from rem_N (dlt hv) (by decide) (by decide) rfl, show (48 : Int32) + nI (v / 10 ^ (k + 1) % 10) = nI (48 + v / 10 ^ (k + 1) % 10) from nI_add 48 _, a1, cal_s, if_neg (show ¬ (1 : Int32) = 0 by decide), bnd_e, pw10_d (by omega), b1]
theorem l_digits {v k : Nat} {p3 : Int32} (hv : v < 2147483648) (h : T2 K M x A Q D n) (hk : k ≤ 3) (e3 : p3 = nI (10 ^ k)) (hn : n + k + 1 ≤ 160) (ht : ∀ j, j ≤ k → TT D (n + j) = 48 + v / 10 ^ (k - j) % 10) : ∃ M', f_L_digits F x (x + 386) (nI v) p3 M = some (1, M') ∧ T2 K M' x A Q D (n + k + 1) := by
  unfold f_L_digits
  rw [e3]
  exact l_dig6 hv hk (by omega) h hn ht
theorem l_ep {i : Nat} (h : T2 K M x A Q D n) (r : TX M (x + 1) n (TT D) → Re F (x + 1) (x + 24) M i) : ∃ M', f_X10_errorPosition F x M = some (nI i, M') ∧ T2 K M' x A Q D n := by
  obtain ⟨tx, t1, t2, t3⟩ := h
  have r' : RdE F x M i := r (TX_T t2.1 t1)
  obtain ⟨M1, a1, a2, a3⟩ := t_erE (F := F) t2 r'
  exact ⟨M1, a1, tx, t1, a2, Ob_x t3 a3 (by omega)⟩
theorem l_epO (h : T2 K M x A Q D n) (r : TX M (x + 1) n (TT D) → ∃ B, RdO F x M B) : ∃ M', f_X10_errorPosition F x M = some (-9, M') ∧ T2 K M' x A Q D n := by
  obtain ⟨tx, t1, t2, t3⟩ := h
  obtain ⟨B, r'⟩ := r (TX_T t2.1 t1)
  obtain ⟨M1, a1, a2, a3⟩ := t_erO (F := F) t2 r'
  exact ⟨M1, a1, tx, t1, a2, Ob_x t3 a3 (by omega)⟩
end
