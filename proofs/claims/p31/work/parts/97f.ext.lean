section
variable {F x a b o K len z : Nat} {M N : zMi} {X : zMl} {xs : Nat → Int32} {A B C E Y P T : Pg}
theorem dDays_s {n : Nat} : ∀ {A : Pg}, dDays (n + 1) A = dDay (dDays n A) := by
  induction n with
  | zero => intro A; rfl
  | succ n ih => intro A; show dDays (n + 1) (dDay A) = _; rw [ih]; rfl
theorem dDays_3 {n t : Nat} : ∀ {A : Pg}, A 3 = nI t → dDays n A 3 = nI (t + n) := by
  induction n with
  | zero => intro A h; exact h
  | succ n ih => intro A h; rw [dDays_s, dDay_3, ih h, ad1]; rfl
theorem dDays_zn {n k : Nat} (h1 : 23 ≤ k) (h2 : k < 59) : ∀ {A : Pg}, dDays n A k = A k := by
  induction n with
  | zero => intro A; rfl
  | succ n ih => intro A; rw [dDays_s, dDay_zn h1 h2, ih]
theorem mk_days {n : Nat} (hz : z < 9) : ∀ {K t e f : Nat} {A : Pg}, WF K A → K + n ≤ 1000000000 → A 3 = nI t → A (23 + 4 * z + 2) = nI e → Y (23 + 4 * z + 2) = nI f → e ≤ 999 → f ≤ 999 → t + n ≤ e + 1 → t + n ≤ f + 1 → dDays n (mk z Y A) = mk z Y (dDays n A) := by
  induction n with
  | zero => intros; rfl
  | succ n ih =>
    intro K t e f A hA hK h3 he hf e9 f9 h1 h2
    show dDays n (dDay (mk z Y A)) = mk z Y (dDays n (dDay A))
    rw [mk_day hz hA (by omega) (fun _ => by rw [he, h3, hf]; exact ⟨nI_nlt (by omega) (by omega), nI_nlt (by omega) (by omega)⟩)]
    exact ih (WF_dday hA (by omega)) (by omega) (by rw [dDay_3, h3, ad1]) (by rw [dDay_zn (by omega) (by omega)]; exact he) hf e9 f9 (by omega) (by omega)
theorem dUn_sp {j : Nat} {q : Int32} : ∀ {m : Nat} {A : Pg}, m + j ≤ 400 → (dUn q j m A = -9 ∧ ∀ i, i ≤ j → ¬ q < dDays i A 7) ∨ ∃ k, k ≤ j ∧ dUn q j m A = nI (m + k) ∧ q < dDays k A 7 ∧ ∀ i, i < k → ¬ q < dDays i A 7 := by
  induction j with
  | zero =>
    intro m A hm
    unfold dUn
    by_cases c : q < A 7
    · rw [if_pos c]; exact Or.inr ⟨0, by omega, rfl, c, fun i hi => by omega⟩
    · rw [if_neg c]
      refine Or.inl ⟨rfl, fun i hi => ?_⟩
      have : i = 0 := by omega
      subst this
      exact c
  | succ j ih =>
    intro m A hm
    unfold dUn
    by_cases c : q < A 7
    · rw [if_pos c]; exact Or.inr ⟨0, by omega, rfl, c, fun i hi => by omega⟩
    · rw [if_neg c]
      rcases ih (m := m + 1) (A := dDay A) (by omega) with ⟨h1, h2⟩ | ⟨k, h1, h2, h3, h4⟩
      · refine Or.inl ⟨h1, fun i hi => ?_⟩
        rcases Nat.eq_zero_or_pos i with rfl | hp
        · exact c
        · obtain ⟨i', rfl⟩ : ∃ i', i = i' + 1 := ⟨i - 1, by omega⟩
          exact h2 i' (by omega)
      · refine Or.inr ⟨k + 1, by omega, by rw [h2]; congr 1; omega, h3, fun i hi => ?_⟩
        rcases Nat.eq_zero_or_pos i with rfl | hp
        · exact c
        · obtain ⟨i', rfl⟩ : ∃ i', i = i' + 1 := ⟨i - 1, by omega⟩
          exact h4 i' (by omega)
theorem n9 {k : Nat} (hk : k ≤ 400) : ¬ nI k = -9 := fun y => by
  have : 0 ≤ nI k := nI_pos' (by omega)
  rw [y] at this
  exact absurd this (by decide)
/-- the day on which a zone is done is a day of its permit -/
theorem run_day {k t e : Nat} (hz : z < 9) (hA : WF K A) (hK : K + k ≤ 900000000) (h3 : A 3 = nI t) (ht : t ≤ K) (he : A (23 + 4 * z + 2) = nI e) (e9 : e ≤ 999) (hk : 0 < k) (h1 : nI z < dDays k A 7) (h2 : ∀ i, i < k → ¬ nI z < dDays i A 7) : t + k ≤ e + 1 := by
  obtain ⟨k', rfl⟩ : ∃ k', k = k' + 1 := ⟨k - 1, by omega⟩
  have hW := WF_days (n := k') hA (by omega)
  have hp := h2 k' (by omega)
  rw [dDays_s] at h1
  have q4 := hW.2.2.1.2.2.2.1
  have q7 := hW.2.2.1.2.2.2.2.2.1
  have z9 : nI z ≤ 9 := nI_le (b := 9) (by omega) (by decide)
  have z0 : 0 ≤ nI z := nI_pos' (by omega)
  rcases dDay_7 hW with d | ⟨d1, d2⟩
  · rw [d] at h1; exact absurd h1 hp
  · rw [d1] at h1
    have e7 : dDays k' A 7 = nI z := by grind
    rw [e7, ixN (by omega), dDays_zn (by omega) (by omega), he, dDays_3 h3] at d2
    apply Decidable.byContradiction
    intro q
    exact d2 (nI_lt (a := e) (b := t + k') (by omega) (by omega))
/-- what the extension's pages share -/
def eqm (z : Nat) (C E : Pg) : Prop := ∀ k, k ≠ 21 → k ≠ 23 + 4 * z + 2 → k < 121 → C k = E k
theorem ext_main {t f0 : Nat} (hz : z < 9) (hC : WF K C) (hK : K ≤ 800000000) (h3 : C 3 = nI t) (ht : t ≤ K) (hf0 : C (23 + 4 * z + 2) = nI f0) (f9 : f0 ≤ 999) :
    ∃ ds : Nat, (∀ e E, e ≤ f0 → eqm z C E → WF K E → E (23 + 4 * z + 2) = nI e → (dUn (nI z) 400 0 E = -9 ↔ e < ds)) ∧
      ((dUn (nI z) 400 0 C = -9 ∧ ds = f0 + 1) ∨ (dUn (nI z) 400 0 C = nI 0 ∧ ds = 0) ∨ ∃ k, 0 < k ∧ k ≤ 400 ∧ dUn (nI z) 400 0 C = nI k ∧ ds = t + k - 1 ∧ ds ≤ f0) := by
  have hrun : ∀ e E k, e ≤ f0 → eqm z C E → WF K E → E (23 + 4 * z + 2) = nI e → k ≤ 400 → t + k ≤ e + 1 → dDays k E 7 = dDays k C 7 := fun e E k h1 h2 h4 h5 hk h6 => by
    have := mk_days (z := z) (Y := E) (n := k) hz (K := K) (t := t) (e := f0) (f := e) (A := C) hC (by omega) h3 hf0 h5 f9 (by omega) (by omega) h6
    rw [mk_self h2] at this
    rw [this, mk_n (by omega)]
  have h03 : ∀ E, eqm z C E → E 3 = nI t := fun E h => by rw [← h 3 (by omega) (by omega) (by omega)]; exact h3
  have h07 : ∀ E, eqm z C E → E 7 = C 7 := fun E h => (h 7 (by omega) (by omega) (by omega)).symm
  rcases dUn_sp (q := nI z) (j := 400) (m := 0) (A := C) (by omega) with ⟨h1, h2⟩ | ⟨k, h1, h2, h4, h5⟩
  · refine ⟨f0 + 1, fun e E he hq hE hp => ⟨fun _ => by omega, fun _ => ?_⟩, Or.inl ⟨h1, rfl⟩⟩
    rcases dUn_sp (q := nI z) (j := 400) (m := 0) (A := E) (by omega) with ⟨g1, -⟩ | ⟨k', g1, g2, g3, g4⟩
    · exact g1
    · exfalso
      by_cases k0 : k' = 0
      · subst k0
        refine h2 0 (by omega) ?_
        show nI z < C 7
        rw [← h07 E hq]; exact g3
      · have r := run_day hz hE (by omega) (h03 E hq) ht hp (by omega) (by omega) g3 g4
        rw [hrun e E k' he hq hE hp g1 r] at g3
        exact h2 k' g1 g3
  · rw [Nat.zero_add] at h2
    by_cases k0 : k = 0
    · subst k0
      refine ⟨0, fun e E he hq hE hp => ⟨fun y => ?_, fun y => by omega⟩, Or.inr (Or.inl ⟨h2, rfl⟩)⟩
      exfalso
      rcases dUn_sp (q := nI z) (j := 400) (m := 0) (A := E) (by omega) with ⟨g1, g2⟩ | ⟨k', g1, g2, g3, g4⟩
      · refine g2 0 (by omega) ?_
        show nI z < E 7
        rw [h07 E hq]; exact h4
      · rw [g2] at y; exact n9 (by omega) y
    · have r0 := run_day hz hC (by omega) h3 ht hf0 (by omega) (by omega) h4 h5
      refine ⟨t + k - 1, fun e E he hq hE hp => ?_, Or.inr (Or.inr ⟨k, by omega, h1, h2, rfl, by omega⟩)⟩
      rcases dUn_sp (q := nI z) (j := 400) (m := 0) (A := E) (by omega) with ⟨g1, g2⟩ | ⟨k', g1, g2, g3, g4⟩
      · refine ⟨fun _ => ?_, fun _ => g1⟩
        apply Decidable.byContradiction
        intro y
        refine g2 k h1 ?_
        rw [hrun e E k he hq hE hp h1 (by omega)]; exact h4
      · rw [Nat.zero_add] at g2
        refine ⟨fun y => by rw [g2] at y; exact absurd y (n9 (by omega)), fun y => ?_⟩
        exfalso
        by_cases k0' : k' = 0
        · subst k0'
          refine h5 0 (by omega) ?_
          show nI z < C 7
          rw [← h07 E hq]; exact g3
        · have r := run_day hz hE (by omega) (h03 E hq) ht hp (by omega) (by omega) g3 g4
          rw [hrun e E k' he hq hE hp g1 r] at g3
          have : k ≤ k' := by
            apply Decidable.byContradiction
            intro w
            exact h5 k' (by omega) g3
          omega
end
