section
variable {F x K K' : Nat} {M : zMi} {A P : Pg} {R R' : Rs} {p v2 v3 v4 v5 v6 v7 v9 v10 v11 v12 v13 v14 v15 v16 v17 v18 v19 v20 : Int32} {k : Int32 → Int32 → Int32 → Int32 → Int32 → Int32 → Int32 → Int32 → zMi → Option (Int32 × zMi)}
theorem l_d242 {i : Nat} {kk : Int32 → Int32 → Int32 → Int32 → Int32 → Int32 → Int32 → Int32 → Int32 → Int32 → Int32 → Int32 → Int32 → Int32 → Int32 → Int32 → Int32 → Int32 → Int32 → Int32 → Int32 → zMi → Option (Int32 × zMi)} (h : Ob K M x A R) (hi : i < 4) (h5 : nI i < A 5) {b : Int32} (hb : b = if A (59 + 8 * i + 6) = 1 then 1 else 0) : f_L_days_242 F x p k kk v2 v3 v4 v5 v6 v7 v9 v10 v11 v12 v13 v14 v15 v16 v17 v18 v19 v20 (rtS A i) (cmS A i) (nI i) (A (59 + 8 * i + 5)) b M = kk v2 v3 v4 v5 v6 v7 v9 v10 v11 v12 v13 v14 v15 v16 v17 v18 v19 v20 (rtS A (i + 1)) (cmS A (i + 1)) (nI (i + 1)) M := by
  obtain ⟨⟨-, -, -, s3⟩, -⟩ := t_s5 (F := F) h hi h5
  have q := (h.2.2.1.1.2.2.2.2.2.2.2 i hi).2.2.2
  have e1 : rtS A (i + 1) = rtS A i + rt A i := rfl
  have e2 : cmS A (i + 1) = if A (59 + 8 * i + 5) = 2 ∨ (A (59 + 8 * i + 5) = 1 ∧ A (59 + 8 * i + 6) = 1) then cmS A i ||| 1 else cmS A i ||| 0 := rfl
  rw [e1, e2, hb]
  unfold f_L_days_242 f_L_days_273 rt
  simp only [s3, cal_s, bnd_e, ad1]
  generalize rtS A i = a1
  generalize cmS A i = a2
  by_cases l : A (59 + 8 * i + 6) = 1
  · rw [l]
    rcases in5 q with w | w | w | w | w <;> rw [w] <;> simp (decide := true) only [↓reduceIte, and_true, and_self, or_false, or_true, not_true, and_false, not_false_eq_true, false_or]
  · rcases in5 q with w | w | w | w | w <;> rw [w] <;> simp (decide := true) only [↓reduceIte, l, and_false, and_true, or_false, or_true, not_false_eq_true, true_or]
theorem l_d206 (h : Ob K M x A R) (hF : 101 ≤ F) {S : Nat} (h5 : A 5 = nI S) (S4 : S ≤ 4) {j : Nat} : ∀ {i n : Nat}, i + j = S → j < n → f_L_days_206 F x p k n v2 v3 v4 v5 v6 v7 v9 v10 v11 v12 v13 v14 v15 v16 v17 v18 v19 v20 (rtS A i) (cmS A i) (nI i) M = f_L_days_206 F x p k 1 v2 v3 v4 v5 v6 v7 v9 v10 v11 v12 v13 v14 v15 v16 v17 v18 v19 v20 (rtS A S) (cmS A S) (nI S) M := by
  have b1 := (t_b (F := F) h hF).1.2.1
  rw [h5] at b1
  induction j with
  | zero =>
    intro i n hi hn
    obtain ⟨m, rfl⟩ : ∃ m, n = m + 1 := ⟨n - 1, by omega⟩
    have : i = S := by omega
    subst this
    rw [f_L_days_206, f_L_days_206, b1, cal_s, if_neg (nI_nlt (Nat.le_refl _) (by omega)), cal_s, if_neg (nI_nlt (Nat.le_refl _) (by omega))]
  | succ j ih =>
    intro i n hi hn
    obtain ⟨m, rfl⟩ : ∃ m, n = m + 1 := ⟨n - 1, by omega⟩
    have hp : nI i < A 5 := by rw [h5]; exact nI_lt (by omega) (by omega)
    obtain ⟨-, -, s5, s6, -⟩ := t_s5 (F := F) h (by omega) hp
    rw [f_L_days_206, b1, cal_s, if_pos (nI_lt (by omega) (by omega)), s5, cal_s, s6, cal_s, ← ih (i := i + 1) (n := m) (by omega) (by omega)]
    by_cases l : A (59 + 8 * i + 6) = 1
    · rw [if_pos l]; exact l_d242 h (by omega) hp (by rw [if_pos l])
    · rw [if_neg l]; exact l_d242 h (by omega) hp (by rw [if_neg l])
theorem l_d706 {u r may fs ls w' rc : Int32} {f z : Nat} (nx : Go (k v2 v3 v4 v5 v6 v7 1 (v9 + 1) M) M x K' P R' 1) (s1 : f_L_tryShip F x (nI f) 1 M = some (A (59 + 8 * f + 1))) (s5 : f_L_tryShip F x (nI f) 5 M = some w') (z0 : f_L_tryZone F x (nI z) 0 M = some (A (23 + 4 * z))) (hr : f_L_tryReach F x (nI f) (nI z) M = some rc)
    (h1 : r = 1 ↔ v10 < fs) (h2 : r = 2 ↔ ls < v10) (h3 : r = 3 ↔ (¬ v10 < fs ∧ ¬ ls < v10 ∧ may = 0)) (h4 : 0 < u ↔ (may ≠ 0 ∧ r = 0)) (g5 : ¬ A (59 + 8 * f + 1) < u) (g6 : ¬ A (23 + 4 * z) - v13 < u) (g7 : r = 4 → may ≠ 0 ∧ w' = 4 ∧ rc = 0) : Go (f_L_days_706 F x p k v2 v3 v4 v5 v6 v7 1 v9 v10 (nI z) v13 (nI f) u r fs ls may M) M x K' P R' 1 := by
  have t828 : ∀ b, Go (f_L_days_828 F x p k v2 v3 v4 v5 v6 v7 v9 (nI z) v13 (nI f) u r may b b M) M x K' P R' 1 := fun b => by
    unfold f_L_days_828
    refine Go_if rfl (Go_rd s1 (Go_ifn g5 (Go_rd z0 (Go_ifn g6 ?_))))
    by_cases c : r = 4
    · obtain ⟨c1, c2, c3⟩ := g7 c
      exact Go_if c (Go_ifn c1 (Go_rd s5 (Go_if c2 (Go_rd hr (Go_if c3 nx)))))
    · exact Go_ifn c nx
  have t800 : ∀ b, Go (f_L_days_800 F x p k v2 v3 v4 v5 v6 v7 v9 (nI z) v13 (nI f) u r may b b M) M x K' P R' 1 := fun b => by
    unfold f_L_days_800 f_L_days_813
    refine Go_if rfl ?_
    by_cases c : 0 < u
    · obtain ⟨c1, c2⟩ := h4.mp c
      exact Go_if c (Go_ifn c1 (Go_if c2 (t828 1)))
    · refine Go_ifn c ?_
      by_cases c1 : may = 0
      · exact Go_if c1 (t828 0)
      · exact Go_ifn c1 (Go_ifn (fun y => c (h4.mpr ⟨c1, y⟩)) (t828 0))
  have t762 : ∀ b, Go (f_L_days_762 F x p k v2 v3 v4 v5 v6 v7 v9 v10 (nI z) v13 (nI f) u r fs ls may b b M) M x K' P R' 1 := fun b => by
    unfold f_L_days_762 f_L_days_776
    refine Go_if rfl ?_
    by_cases c : r = 3
    · obtain ⟨c1, c2, c3⟩ := h3.mp c
      exact Go_if c (Go_ifn c1 (Go_ifn c2 (Go_if c3 (t800 1))))
    · refine Go_ifn c ?_
      by_cases c1 : v10 < fs
      · exact Go_if c1 (t800 0)
      · refine Go_ifn c1 ?_
        by_cases c2 : ls < v10
        · exact Go_if c2 (t800 0)
        · exact Go_ifn c2 (Go_ifn (fun y => c (h3.mpr ⟨c1, c2, y⟩)) (t800 0))
  have t736 : ∀ b, Go (f_L_days_736 F x p k v2 v3 v4 v5 v6 v7 v9 v10 (nI z) v13 (nI f) u r fs ls may b b M) M x K' P R' 1 := fun b => by
    unfold f_L_days_736 f_L_days_750
    refine Go_if rfl ?_
    by_cases c : r = 2
    · exact Go_if c (Go_if (h2.mp c) (t762 1))
    · exact Go_ifn c (Go_ifn (fun y => c (h2.mpr y)) (t762 0))
  unfold f_L_days_706 f_L_days_724
  refine Go_ifn (by decide) ?_
  by_cases c : r = 1
  · exact Go_if c (Go_if (h1.mp c) (t736 1))
  · exact Go_ifn c (Go_ifn (fun y => c (h1.mpr y)) (t736 0))
end
