section
variable {F x y K L : Nat} {M M' : zMi} {A : Pg} {R R' : Rs}
-- ---- alike
theorem l_al169 (h : Ob K M x A R) (g : Ob L M y A R') {j : Nat} : ∀ {i n : Nat}, i + j = 12 → j < n → f_L_alike_169 F x y n 1 (nI i) M = some 1 := by
  induction j with
  | zero =>
    intro i n hi hn
    obtain ⟨m, rfl⟩ : ∃ m, n = m + 1 := ⟨n - 1, by omega⟩
    have : i = 12 := by omega
    subst this
    rw [f_L_alike_169, if_neg (show ¬ nI 12 < (12 : Int32) by decide), show zb (1 : Int32) = true from rfl, grd_t]
  | succ j ih =>
    intro i n hi hn
    obtain ⟨m, rfl⟩ : ∃ m, n = m + 1 := ⟨n - 1, by omega⟩
    rw [f_L_alike_169, if_pos (show nI i < (12 : Int32) from nI_lt (b := 12) (by omega) (by decide)), if_neg (show ¬ (1 : Int32) = 0 by decide), t_wv h, cal_s, t_wv g, cal_s, if_pos rfl, ad1]
    exact ih (by omega) (by omega)
theorem l_al117 (h : Ob K M x A R) (g : Ob L M y A R') (hF : 101 ≤ F) {Z : Nat} (h4 : A 4 = nI Z) (hZ : Z ≤ 4) {j : Nat} : ∀ {i n : Nat}, i + j = 5 * Z → j < n → f_L_alike_117 F x y n 1 (nI i) M = some 1 := by
  have b0 := (t_b h hF).1.1
  have e5 : (5 : Int32) * nI Z = nI (5 * Z) := nI_mul 5 Z
  induction j with
  | zero =>
    intro i n hi hn
    obtain ⟨m, rfl⟩ : ∃ m, n = m + 1 := ⟨n - 1, by omega⟩
    rw [f_L_alike_117, b0, cal_s, h4, e5, if_neg (nI_nlt (by omega) (by omega))]
    exact l_al169 h g (i := 0) (j := 12) (by omega) (by omega)
  | succ j ih =>
    intro i n hi hn
    obtain ⟨m, rfl⟩ : ∃ m, n = m + 1 := ⟨n - 1, by omega⟩
    rw [f_L_alike_117, b0, cal_s, h4, e5, if_pos (nI_lt (by omega) (by omega)), if_neg (show ¬ (1 : Int32) = 0 by decide), t_zn h, cal_s, t_zn g, cal_s, if_pos rfl, ad1]
    exact ih (by omega) (by omega)
theorem l_al60 (h : Ob K M x A R) (g : Ob L M y A R') (hF : 101 ≤ F) {Z S : Nat} (h4 : A 4 = nI Z) (hZ : Z ≤ 4) (h5 : A 5 = nI S) (hS : S ≤ 4) {j : Nat} : ∀ {i n : Nat}, i + j = 8 * S → j < n → f_L_alike_60 F x y n 1 (nI i) M = some 1 := by
  have b1 := (t_b h hF).1.2.1
  have e5 : (8 : Int32) * nI S = nI (8 * S) := nI_mul 8 S
  induction j with
  | zero =>
    intro i n hi hn
    obtain ⟨m, rfl⟩ : ∃ m, n = m + 1 := ⟨n - 1, by omega⟩
    rw [f_L_alike_60, b1, cal_s, h5, e5, if_neg (nI_nlt (by omega) (by omega))]
    exact l_al117 h g hF h4 hZ (i := 0) (j := 5 * Z) (by omega) (by omega)
  | succ j ih =>
    intro i n hi hn
    obtain ⟨m, rfl⟩ : ∃ m, n = m + 1 := ⟨n - 1, by omega⟩
    rw [f_L_alike_60, b1, cal_s, h5, e5, if_pos (nI_lt (by omega) (by omega)), if_neg (show ¬ (1 : Int32) = 0 by decide), t_sh h, cal_s, t_sh g, cal_s, if_pos rfl, ad1]
    exact ih (by omega) (by omega)
theorem l_al4 (h : Ob K M x A R) (g : Ob L M y A R') (hF : 101 ≤ F) {Z S : Nat} (h4 : A 4 = nI Z) (hZ : Z ≤ 4) (h5 : A 5 = nI S) (hS : S ≤ 4) {j : Nat} : ∀ {i n : Nat}, i + j = 14 → j < n → f_L_alike_4 F x y n 1 (nI i) M = some 1 := by
  induction j with
  | zero =>
    intro i n hi hn
    obtain ⟨m, rfl⟩ : ∃ m, n = m + 1 := ⟨n - 1, by omega⟩
    have : i = 14 := by omega
    subst this
    rw [f_L_alike_4, if_neg (show ¬ nI 14 < (14 : Int32) by decide)]
    exact l_al60 h g hF h4 hZ h5 hS (i := 0) (j := 8 * S) (by omega) (by omega)
  | succ j ih =>
    intro i n hi hn
    obtain ⟨m, rfl⟩ : ∃ m, n = m + 1 := ⟨n - 1, by omega⟩
    rw [f_L_alike_4, if_pos (show nI i < (14 : Int32) from nI_lt (b := 14) (by omega) (by decide)), if_neg (show ¬ (1 : Int32) = 0 by decide), t_ab h hF, cal_s, t_ab g hF, cal_s, if_pos rfl, t_ac h (by omega), cal_s, t_ac g (by omega), cal_s, if_pos rfl, ad1, ih (by omega) (by omega)]
    split <;> rfl
theorem WF_Z (h : WS K A) : ∃ Z, 0 < Z ∧ Z ≤ 4 ∧ A 4 = nI Z := by
  have q := h.2.1
  have q4 := h.1.2.2.1.2.2.2.1
  obtain ⟨Z, h1, h2⟩ := exN (n := 4) (x := A 4) (by grind) q (by decide)
  refine ⟨Z, ?_, h1, h2⟩
  apply Nat.pos_of_ne_zero
  rintro rfl
  rw [nI_0] at h2
  grind
/-- two objects with one page answer alike -/
theorem l_alike (h : Ob K M x A R) (g : Ob L M y A R') (hF : 101 ≤ F) : f_L_alike F x y M = some 1 := by
  obtain ⟨Z, Z0, Z4, hZ⟩ := WF_Z h.2.2.1
  obtain ⟨S, S0, S4, hS⟩ := wFl_N h.2.2.1.1.1
  unfold f_L_alike
  exact l_al4 h g hF hZ Z4 hS S4 (i := 0) (j := 14) (by omega) (by omega)
-- ---- sound
noncomputable def abS (A : Pg) : Nat → Int32
  | 0 => 0
  | i + 1 => abS A i + A (59 + 8 * i + 4)
noncomputable def owS (A : Pg) : Nat → Int32
  | 0 => 0
  | i + 1 => owS A i + A (59 + 8 * i + 7)
noncomputable def frS (A : Pg) : Nat → Int32
  | 0 => 0
  | i + 1 => frS A i + (if A (59 + 8 * i + 5) = 3 then 1 else 0)
noncomputable def lnS (A : Pg) : Nat → Int32
  | 0 => 0
  | i + 1 => lnS A i + (A (23 + 4 * i) - dLeft A (nI i))
theorem dF_u (hA : WF K A) {s : Nat} (hs : s < 4) (h3 : A (59 + 8 * s + 5) = 3) : dF A = s := by
  obtain ⟨w1, w2, w3⟩ := hA.2.2.2.2.2.1.2.2
  have c : s = 0 ∨ s = 1 ∨ s = 2 ∨ s = 3 := by omega
  unfold dF
  rcases c with rfl | rfl | rfl | rfl <;> simp only [Nat.reduceMul, Nat.reduceAdd] at h3
  · rw [if_pos h3]
  · rw [if_neg (fun y => (w1 y).1 h3), if_pos h3]
  · rw [if_neg (fun y => (w1 y).2.1 h3), if_neg (fun y => (w2 y).1 h3), if_pos h3]
  · rw [if_neg (fun y => (w1 y).2.2 h3), if_neg (fun y => (w2 y).2 h3), if_neg (fun y => w3 y h3), if_pos h3]
theorem S_sums (hA : WF K A) {S : Nat} (h5 : A 5 = nI S) (S0 : 0 < S) (S4 : S ≤ 4) : abS A S = dAb A ∧ owS A S = dOwn A ∧ frS A S = (if dF A = 4 then 0 else 1) := by
  have z : ∀ s, s < 4 → S ≤ s → ∀ k, k < 8 → A (59 + 8 * s + k) = 0 := fun s hs hS k hk => hA.1.2 s hs (by rw [h5]; exact nI_nlt hS (by omega)) k hk
  obtain ⟨w1, w2, w3⟩ := hA.2.2.2.2.2.1.2.2
  have c : S = 1 ∨ S = 2 ∨ S = 3 ∨ S = 4 := by omega
  have z1 := fun (q : S ≤ 1) => z 1 (by decide) q
  have z2 := fun (q : S ≤ 2) => z 2 (by decide) q
  have z3 := fun (q : S ≤ 3) => z 3 (by decide) q
  unfold dAb dOwn dF
  rcases c with rfl | rfl | rfl | rfl
  · have a4 := z1 (by decide) 4 (by decide)
    have a5 := z1 (by decide) 5 (by decide)
    have a7 := z1 (by decide) 7 (by decide)
    have b4 := z2 (by decide) 4 (by decide)
    have b5 := z2 (by decide) 5 (by decide)
    have b7 := z2 (by decide) 7 (by decide)
    have c4 := z3 (by decide) 4 (by decide)
    have c5 := z3 (by decide) 5 (by decide)
    have c7 := z3 (by decide) 7 (by decide)
    simp only [Nat.reduceMul, Nat.reduceAdd] at a4 a5 a7 b4 b5 b7 c4 c5 c7
    rw [a4, b4, c4, a7, b7, c7, a5, b5, c5]
    simp only [abS, owS, frS, Nat.reduceMul, Nat.reduceAdd]
    refine ⟨by grind, by grind, ?_⟩
    by_cases k : A 64 = 3
    · rw [if_pos k, if_pos k]; rfl
    · rw [if_neg k, if_neg k]; rfl
  · have b4 := z2 (by decide) 4 (by decide)
    have b5 := z2 (by decide) 5 (by decide)
    have b7 := z2 (by decide) 7 (by decide)
    have c4 := z3 (by decide) 4 (by decide)
    have c5 := z3 (by decide) 5 (by decide)
    have c7 := z3 (by decide) 7 (by decide)
    simp only [Nat.reduceMul, Nat.reduceAdd] at b4 b5 b7 c4 c5 c7
    rw [b4, c4, b7, c7, b5, c5]
    simp only [abS, owS, frS, Nat.reduceMul, Nat.reduceAdd]
    refine ⟨by grind, by grind, ?_⟩
    by_cases k : A 64 = 3
    · have := w1 k; rw [if_pos k, if_pos k, if_neg this.1]; rfl
    · rw [if_neg k, if_neg k]
      by_cases k2 : A 72 = 3
      · rw [if_pos k2, if_pos k2]; rfl
      · rw [if_neg k2, if_neg k2]; rfl
  · have c4 := z3 (by decide) 4 (by decide)
    have c5 := z3 (by decide) 5 (by decide)
    have c7 := z3 (by decide) 7 (by decide)
    simp only [Nat.reduceMul, Nat.reduceAdd] at c4 c5 c7
    rw [c4, c7, c5]
    simp only [abS, owS, frS, Nat.reduceMul, Nat.reduceAdd]
    refine ⟨by grind, by grind, ?_⟩
    by_cases k : A 64 = 3
    · have := w1 k; rw [if_pos k, if_pos k, if_neg this.1, if_neg this.2.1]; rfl
    · rw [if_neg k, if_neg k]
      by_cases k2 : A 72 = 3
      · have := w2 k2; rw [if_pos k2, if_pos k2, if_neg this.1]; rfl
      · rw [if_neg k2, if_neg k2]
        by_cases k3 : A 80 = 3
        · rw [if_pos k3, if_pos k3]; rfl
        · rw [if_neg k3, if_neg k3]; rfl
  · simp only [abS, owS, frS, Nat.reduceMul, Nat.reduceAdd]
    refine ⟨trivial, trivial, ?_⟩
    by_cases k : A 64 = 3
    · have := w1 k; rw [if_pos k, if_pos k, if_neg this.1, if_neg this.2.1, if_neg this.2.2]; rfl
    · rw [if_neg k, if_neg k]
      by_cases k2 : A 72 = 3
      · have := w2 k2; rw [if_pos k2, if_pos k2, if_neg this.1, if_neg this.2]; rfl
      · rw [if_neg k2, if_neg k2]
        by_cases k3 : A 80 = 3
        · have := w3 k3; rw [if_pos k3, if_pos k3, if_neg this]; rfl
        · rw [if_neg k3, if_neg k3]
          by_cases k4 : A 88 = 3
          · rw [if_pos k4, if_pos k4]; rfl
          · rw [if_neg k4, if_neg k4]; rfl
theorem l_s12 (h : Ob K M x A R) (hF : 101 ≤ F) {S : Nat} (h5 : A 5 = nI S) (S4 : S ≤ 4) {j : Nat} : ∀ {i n : Nat}, i + j = S → j < n → f_L_sound_12 F x n (abS A i) (owS A i) (frS A i) 1 (nI i) M = f_L_sound_164 F x (abS A S) (owS A S) (frS A S) 1 M := by
  have hA := h.2.2.1.1
  obtain ⟨⟨-, b1, -, -⟩, -, ⟨b8, -⟩, -⟩ := t_b h hF
  induction j with
  | zero =>
    intro i n hi hn
    obtain ⟨m, rfl⟩ : ∃ m, n = m + 1 := ⟨n - 1, by omega⟩
    have : i = S := by omega
    subst this
    rw [f_L_sound_12, b1, cal_s, h5, if_neg (nI_nlt (a := i) (b := i) (by omega) (by omega))]
  | succ j ih =>
    intro i n hi hn
    obtain ⟨m, rfl⟩ : ∃ m, n = m + 1 := ⟨n - 1, by omega⟩
    have hs : i < 4 := by omega
    have hp : nI i < A 5 := by rw [h5]; exact nI_lt (by omega) (by omega)
    obtain ⟨⟨e0, -, -, -⟩, e4, e5, e6, e7⟩ := t_s5 h hs hp
    obtain ⟨u0, u1, u2, u3⟩ := hA.2.2.2.2.2.2.2 i hs
    obtain ⟨d1, d2⟩ := h.2.2.1.2.2.2.1 i hs
    have fin := ih (i := i + 1) (n := m) (by omega) (by omega)
    rw [f_L_sound_12, b1, cal_s, if_pos hp, if_neg (show ¬ (1 : Int32) = 0 by decide), e5, cal_s, e4, cal_s, bnd_e, e7, cal_s, bnd_e]
    have tail : ∀ q : Int32, frS A i + q = frS A (i + 1) → f_L_sound_69 F x (f_L_sound_12 F x m) (abS A i + A (59 + 8 * i + 4)) (owS A i + A (59 + 8 * i + 7)) (nI i) (A (59 + 8 * i + 5)) q (frS A i) M = f_L_sound_164 F x (abS A S) (owS A S) (frS A S) 1 M := by
      intro q hq
      unfold f_L_sound_69
      rw [bnd_e, e4, cal_s, if_neg (show ¬ A (59 + 8 * i + 4) < 0 by grind), cal_s, e0, cal_s, if_neg (show ¬ A (59 + 8 * i) < A (59 + 8 * i + 4) by grind), e6, cal_s, hq]
      unfold f_L_sound_114 f_L_sound_131
      by_cases k1 : A (59 + 8 * i + 5) = 1
      · have := d1 (Or.inl k1)
        rw [if_pos (show 0 < A (59 + 8 * i + 6) by grind), if_pos k1, if_pos rfl, if_neg (show ¬ A (59 + 8 * i + 5) = 3 by rw [k1]; decide), ad1]
        exact fin
      · by_cases k4 : A (59 + 8 * i + 5) = 4
        · have := d1 (Or.inr k4)
          rw [if_pos (show 0 < A (59 + 8 * i + 6) by grind), if_neg k1, if_pos k4, if_pos rfl, if_neg (show ¬ A (59 + 8 * i + 5) = 3 by rw [k4]; decide), ad1]
          exact fin
        · have := d2 k1 k4
          rw [if_neg (show ¬ 0 < A (59 + 8 * i + 6) by rw [this]; decide), if_neg k1, if_neg k4, if_pos rfl]
          by_cases k3 : A (59 + 8 * i + 5) = 3
          · have e : dFi A = nI i := by
              unfold dFi
              rw [dF_u hA hs k3, if_neg (by omega)]
            rw [if_pos k3, b8, cal_s, if_pos e, ad1]
            exact fin
          · rw [if_neg k3, ad1]; exact fin
    by_cases k3 : A (59 + 8 * i + 5) = 3
    · rw [if_pos k3]
      exact tail 1 (by show _ = frS A i + _; rw [if_pos k3])
    · rw [if_neg k3]
      exact tail 0 (by show _ = frS A i + _; rw [if_neg k3])
theorem left_z (h : WS K A) {z : Nat} (hz : z < 9) (hz4 : nI z < A 4) : (nI z < A 7 → dLeft A (nI z) = 0) ∧ (nI z = A 7 → dLeft A (nI z) = A (23 + 4 * z) - A 8 ∧ A 8 < A (23 + 4 * z)) ∧ (A 7 < nI z → dLeft A (nI z) = A (23 + 4 * z)) := by
  have e : ix (nI z) = z := ixN (by omega)
  unfold dLeft
  rw [e]
  refine ⟨fun k => if_pos k, fun k => ⟨?_, h.1.2.2.2.1 z hz k.symm hz4⟩, fun k => ?_⟩
  · rw [if_neg (by grind), if_pos k]
  · rw [if_neg (by grind), if_neg (by grind)]
theorem ln_Z (h : WS K A) {Z : Nat} (h4 : A 4 = nI Z) (Z4 : Z ≤ 4) (Z0 : 0 < Z) : lnS A Z = A 17 := by
  have hA := h.1
  have q7 := hA.2.2.1.2.2.2.2.2.1
  have q8 := hA.2.2.1.2.2.2.2.2.2.1.2.2
  rw [h4] at q7 q8
  obtain ⟨f, hf, e7⟩ := exN (n := Z) (x := A 7) q7.1 q7.2 (by omega)
  rw [← h.2.2.2.2.1.2.2]
  have l : ∀ z, z < Z → dLeft A (nI z) = (if z < f then 0 else if z = f then A (23 + 4 * z) - A 8 else A (23 + 4 * z)) := fun z hz => by
    obtain ⟨l1, l2, l3⟩ := left_z h (z := z) (by omega) (by rw [h4]; exact nI_lt hz (by omega))
    rw [e7] at l1 l2 l3
    by_cases k1 : z < f
    · rw [if_pos k1]; exact l1 (nI_lt k1 (by omega))
    · rw [if_neg k1]
      by_cases k2 : z = f
      · rw [if_pos k2]; exact (l2 (by rw [k2])).1
      · rw [if_neg k2]; exact l3 (nI_lt (by omega) (by omega))
  unfold dLen
  rw [e7]
  have cZ : Z = 1 ∨ Z = 2 ∨ Z = 3 ∨ Z = 4 := by omega
  rcases cZ with rfl | rfl | rfl | rfl
  · have l0 := l 0 (by decide)
    have cf : f = 0 ∨ f = 1 := by omega
    rcases cf with rfl | rfl <;> simp (decide := true) only [↓reduceIte] at l0 <;> simp only [lnS, l0] <;> simp (decide := true) only [↓reduceIte, Nat.reduceMul, Nat.reduceAdd]
    · grind
    · have := q8 e7
      grind
  · have l0 := l 0 (by decide)
    have l1 := l 1 (by decide)
    have cf : f = 0 ∨ f = 1 ∨ f = 2 := by omega
    rcases cf with rfl | rfl | rfl <;> simp (decide := true) only [↓reduceIte] at l0 l1 <;> simp only [lnS, l0, l1] <;> simp (decide := true) only [↓reduceIte, Nat.reduceMul, Nat.reduceAdd]
    · grind
    · grind
    · have := q8 e7
      grind
  · have l0 := l 0 (by decide)
    have l1 := l 1 (by decide)
    have l2 := l 2 (by decide)
    have cf : f = 0 ∨ f = 1 ∨ f = 2 ∨ f = 3 := by omega
    rcases cf with rfl | rfl | rfl | rfl <;> simp (decide := true) only [↓reduceIte] at l0 l1 l2 <;> simp only [lnS, l0, l1, l2] <;> simp (decide := true) only [↓reduceIte, Nat.reduceMul, Nat.reduceAdd]
    · grind
    · grind
    · grind
    · have := q8 e7
      grind
  · have l0 := l 0 (by decide)
    have l1 := l 1 (by decide)
    have l2 := l 2 (by decide)
    have l3 := l 3 (by decide)
    have cf : f = 0 ∨ f = 1 ∨ f = 2 ∨ f = 3 ∨ f = 4 := by omega
    rcases cf with rfl | rfl | rfl | rfl | rfl <;> simp (decide := true) only [↓reduceIte] at l0 l1 l2 l3 <;> simp only [lnS, l0, l1, l2, l3] <;> simp (decide := true) only [↓reduceIte, Nat.reduceMul, Nat.reduceAdd]
    · grind
    · grind
    · grind
    · grind
    · have := q8 e7
      grind
theorem l_s178 (h : Ob K M x A R) (hF : 101 ≤ F) {Z : Nat} {v1 v2 v3 : Int32} (h4 : A 4 = nI Z) (Z4 : Z ≤ 4) {j : Nat} : ∀ {i n : Nat}, i + j = Z → j < n → f_L_sound_178 F x n v1 v2 v3 1 (A 7) (lnS A i) (nI i) M = f_L_sound_311 F x v1 v2 v3 1 (A 7) (lnS A Z) M := by
  have hA := h.2.2.1.1
  obtain ⟨⟨b0, -⟩, ⟨-, -, -, b7⟩, -, -⟩ := t_b h hF
  induction j with
  | zero =>
    intro i n hi hn
    obtain ⟨m, rfl⟩ : ∃ m, n = m + 1 := ⟨n - 1, by omega⟩
    have : i = Z := by omega
    subst this
    rw [f_L_sound_178, b0, cal_s, h4, if_neg (nI_nlt (a := i) (b := i) (by omega) (by omega))]
  | succ j ih =>
    intro i n hi hn
    obtain ⟨m, rfl⟩ : ∃ m, n = m + 1 := ⟨n - 1, by omega⟩
    have hz : i < 9 := by omega
    have hp : nI i < A 4 := by rw [h4]; exact nI_lt (by omega) (by omega)
    obtain ⟨⟨e0, -, -, -⟩, e4⟩ := t_z5 h hz hp
    obtain ⟨w0, -, -, -⟩ := hA.2.2.2.2.2.2.1 i hz hp
    obtain ⟨l1, l2, l3⟩ := left_z h.2.2.1 hz hp
    have fin := ih (i := i + 1) (n := m) (by omega) (by omega)
    have st : lnS A i + (A (23 + 4 * i) - dLeft A (nI i)) = lnS A (i + 1) := rfl
    rw [f_L_sound_178, b0, cal_s, if_pos hp, if_neg (show ¬ (1 : Int32) = 0 by decide), e0, cal_s, e4, cal_s, bnd_e, cal_s, st]
    unfold f_L_sound_228 f_L_sound_240 f_L_sound_267
    by_cases k1 : nI i < A 7
    · have l := l1 k1
      rw [if_pos l, if_pos k1, if_pos rfl, if_neg (show ¬ A 7 < nI i by grind), if_neg (show ¬ nI i = A 7 by grind), ad1]
      exact fin
    · by_cases k2 : nI i = A 7
      · obtain ⟨l, l8⟩ := l2 k2
        have q8 := hA.2.2.1.2.2.2.2.2.2.1
        rw [if_neg (show ¬ dLeft A (nI i) = 0 by rw [l]; grind), if_neg k1, if_pos rfl, if_neg (show ¬ A 7 < nI i by grind), if_pos k2, b7, cal_s, e0, cal_s, e4, cal_s, if_pos (show A 8 = A (23 + 4 * i) - dLeft A (nI i) by rw [l]; grind), ad1]
        exact fin
      · have k3 : A 7 < nI i := by grind
        have l := l3 k3
        rw [if_neg (show ¬ dLeft A (nI i) = 0 by rw [l]; grind), if_neg k1, if_pos rfl, if_pos k3, e4, cal_s, e0, cal_s, if_pos l, if_neg k2, ad1]
        exact fin
theorem dFree_b (hA : WF K A) : 0 ≤ dFree A ∧ dFree A ≤ A 0 - (if A 10 = 2 then 1 else 0) := by
  have r := fun t (ht : t < 3) => hA.2.1.2 t ht
  have r0 := r 0 (by decide)
  have r1 := r 1 (by decide)
  have r2 := r 2 (by decide)
  have hs := hA.2.2.2.2.1
  have h0 := hA.2.1.1
  unfold dFree
  unfold wSpl rs at hs
  simp only [Nat.add_zero, Nat.reduceAdd] at r0 r1 r2
  have p : ∀ v : Int32, (if 0 < v then 1 else 0) = (0 : Int32) ∨ (if 0 < v then 1 else 0) = (1 : Int32) := fun v => by split; exact Or.inr rfl; exact Or.inl rfl
  have e1 : ¬ nI 1 < A 0 → (if 0 < A 14 then 1 else 0) = (0 : Int32) := fun q => by rw [r1.2 q]; rfl
  have e2 : ¬ nI 2 < A 0 → (if 0 < A 15 then 1 else 0) = (0 : Int32) := fun q => by rw [r2.2 q]; rfl
  have p0 := p (A 13)
  have p1 := p (A 14)
  have p2 := p (A 15)
  generalize (if 0 < A 13 then 1 else 0 : Int32) = y0 at *
  generalize (if 0 < A 14 then 1 else 0 : Int32) = y1 at *
  generalize (if 0 < A 15 then 1 else 0 : Int32) = y2 at *
  by_cases c : A 10 = 2
  · obtain ⟨-, -, -, hr⟩ := hs c
    rw [if_pos c]
    rcases h0 with h0 | h0 | h0 <;> rw [h0] at hr ⊢ <;> rcases p0 with rfl | rfl <;> rcases p1 with rfl | rfl <;> rcases p2 with rfl | rfl <;> first | decide | exact absurd hr (by decide)
  · rw [if_neg c]
    rcases h0 with h0 | h0 | h0 <;> rw [h0] at e1 e2 ⊢ <;> rcases p0 with rfl | rfl <;> rcases p1 with rfl | rfl <;> rcases p2 with rfl | rfl <;> first | decide | exact absurd (e1 (by decide)) (by decide) | exact absurd (e2 (by decide)) (by decide)
/-- all cable, zones, ships, splices and teams by the numbers told -/
theorem l_sound (h : Ob K M x A R) (hF : 101 ≤ F) : f_L_sound F x M = some 1 := by
  have hA := h.2.2.1.1
  obtain ⟨Z, Z0, Z4, hZ⟩ := WF_Z h.2.2.1
  obtain ⟨S, S0, S4, hS⟩ := wFl_N h.2.2.1.1.1
  obtain ⟨⟨b0, b1, b2, b3⟩, ⟨b4, b5, b6, b7⟩, ⟨b8, b9, b10, b11⟩, b12, b13⟩ := t_b h hF
  obtain ⟨⟨a0, a1, a2, a3⟩, a4, a5, -, -⟩ := t_a h hF
  obtain ⟨s1, s2, s3⟩ := S_sums hA hS S0 S4
  have hl := ln_Z h.2.2.1 hZ Z4 Z0
  obtain ⟨c1, c2, c3⟩ := h.2.2.1.2.2.2.2.1
  obtain ⟨o1, o2, o3⟩ := h.2.2.1.2.2.2.2.2.1
  obtain ⟨f1, f2⟩ := dFree_b hA
  obtain ⟨g1, g2, g3⟩ := hA.2.2.2.2.2.1
  have q7 := hA.2.2.1.2.2.2.2.2.1
  have q10 := hA.2.2.1.2.2.2.2.2.2.2.1
  have q11 := hA.2.2.1.2.2.2.2.2.2.2.2.1
  have qs := hA.2.2.2.2.1
  unfold f_L_sound
  rw [show f_L_sound_12 F x 6 (0 : Int32) (0 : Int32) (0 : Int32) (1 : Int32) (0 : Int32) M = f_L_sound_12 F x 6 (abS A 0) (owS A 0) (frS A 0) 1 (nI 0) M from rfl, l_s12 h hF hS S4 (j := S) (by omega) (by omega)]
  unfold f_L_sound_164
  rw [b6, cal_s, show f_L_sound_178 F x 6 (abS A S) (owS A S) (frS A S) 1 (A 7) (0 : Int32) (0 : Int32) M = f_L_sound_178 F x 6 (abS A S) (owS A S) (frS A S) 1 (A 7) (lnS A 0) (nI 0) M from rfl, l_s178 h hF hZ Z4 (j := Z) (by omega) (by omega), s1, s2, s3, hl]
  unfold f_L_sound_311 f_L_sound_339
  rw [b10, cal_s, if_neg (show ¬ (1 : Int32) = 0 by decide), b8, cal_s]
  have fin : ∀ fr : Int32, (A 10 = 0 ∨ fr = 1) → (fr = 0 ∨ A 7 < A 4) → ∀ s0, f_L_sound_355 F x (dAb A) (dOwn A) fr (A 7) (A 17) (A 10) s0 s0 M = some 1 := by
    intro fr k1 k2 s0
    have t476 : ∀ s : Int32, s = (if A 10 = 2 then 1 else 0) → f_L_sound_476 F x fr (A 7) s (A 0) (dFree A) M = some 1 := fun s hs => by
      unfold f_L_sound_476
      rw [if_neg (show ¬ A 0 - s < dFree A by rw [hs]; grind), a5, cal_s, a4, cal_s, if_neg (show ¬ A 19 < A 20 by grind), b0, cal_s]
      by_cases k : A 7 < A 4
      · rw [if_pos k]
      · rw [if_neg k, if_pos (k2.resolve_right k)]
    have t417 : f_L_sound_417 F x fr (A 7) (A 10) M = some 1 := by
      unfold f_L_sound_417 f_L_sound_428 f_L_sound_442
      rw [b11, cal_s, cal_s, b13, cal_s, cal_s, b2, cal_s]
      by_cases k : A 10 = 2
      · have := (qs k).2.1 (by simp)
        rw [if_pos k, if_pos (show 0 < A 11 by grind), if_pos rfl, if_neg (show ¬ dFree A < 0 by grind), if_pos k]
        exact t476 1 (by rw [if_pos k])
      · have := q11 k
        rw [if_neg k, this, if_neg (show ¬ (0 : Int32) < 0 by decide), if_pos rfl, if_neg (show ¬ dFree A < 0 by grind), if_neg k]
        exact t476 0 (by rw [if_neg k])
    unfold f_L_sound_355
    rw [if_pos rfl, a1, cal_s, if_pos rfl, if_pos c2, a3, cal_s, if_pos rfl, a0, cal_s, b4, cal_s, a2, cal_s, if_pos c1]
    by_cases k : A 10 = 0
    · rw [if_pos k]; exact t417
    · rw [if_neg k, if_pos (k1.resolve_left k)]; exact t417
  unfold dFi
  by_cases k : dF A = 4
  · rw [if_pos k, if_pos k, if_neg (show ¬ (1 : Int32) < 0 by decide), if_neg (show ¬ (0 : Int32) = 1 by decide), cal_s, if_pos rfl]
    exact fin 0 (Or.inl (g2 k)) (Or.inl rfl) 0
  · have hd : dF A < 4 := by have := dF_le A; omega
    have n9' : ¬ nI (dF A) = -9 := n9 (by omega)
    rw [if_neg k, if_neg k, if_neg (show ¬ (1 : Int32) < 1 by decide), if_pos rfl, if_neg n9']
    exact fin 1 (Or.inr rfl) (Or.inr (by have : A 7 ≠ A 4 := fun y => k (g1 y); grind)) 1
end
