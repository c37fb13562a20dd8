section
variable {F x a b o K len z : Nat} {M N : zMi} {X : zMl} {xs : Nat → Int32} {A B C E Y P T : Pg}
theorem dDays_s {n : Nat} : ∀ {A : Pg}, dDays (n + 1) A = dDay (dDays n A) := by
  induction n with
  | zero => intro A; rfl
  | succ n ih => intro A; show dDays (n + 1) (dDay A) = _; rw [ih]; rfl
theorem dDays_3 {n t : Nat} : ∀ {A : Pg}, A 3 = nI t → dDays n A 3 = nI (t + n) := by
  induction n with
  | zero => intro A h; exact h
  | succ n ih => intro A h; rw [dDays_s, dDay_3, ih h, ad1]; rfl
theorem dDays_zn {n k : Nat} (h1 : 23 ≤ k) (h2 : k < 59) : ∀ {A : Pg}, dDays n A k = A k := by
  induction n with
  | zero => intro A; rfl
  | succ n ih => intro A; rw [dDays_s, dDay_zn h1 h2, ih]
theorem mk_days {n : Nat} (hz : z < 9) : ∀ {K t e f : Nat} {A : Pg}, WF K A → K + n ≤ 1000000000 → A 3 = nI t → A (23 + 4 * z + 2) = nI e → Y (23 + 4 * z + 2) = nI f → e ≤ 999 → f ≤ 999 → t + n ≤ e + 1 → t + n ≤ f + 1 → dDays n (mk z Y A) = mk z Y (dDays n A) := by
  induction n with
  | zero => intros; rfl
  | succ n ih =>
    intro K t e f A hA hK h3 he hf e9 f9 h1 h2
    show dDays n (dDay (mk z Y A)) = mk z Y (dDays n (dDay A))
    rw [mk_day hz hA (by omega) (fun _ => by rw [he, h3, hf]; exact ⟨nI_nlt (by omega) (by omega), nI_nlt (by omega) (by omega)⟩)]
    exact ih (WF_dday hA (by omega)) (by omega) (by rw [dDay_3, h3, ad1]) (by rw [dDay_zn (by omega) (by omega)]; exact he) hf e9 f9 (by omega) (by omega)
theorem dUn_sp {j : Nat} {q : Int32} : ∀ {m : Nat} {A : Pg}, m + j ≤ 400 → (dUn q j m A = -9 ∧ ∀ i, i ≤ j → ¬ q < dDays i A 7) ∨ ∃ k, k ≤ j ∧ dUn q j m A = nI (m + k) ∧ q < dDays k A 7 ∧ ∀ i, i < k → ¬ q < dDays i A 7 := by
  induction j with
  | zero =>
    intro m A hm
    unfold dUn
    by_cases c : q < A 7
    · rw [if_pos c]; exact Or.inr ⟨0, by omega, rfl, c, fun i hi => by omega⟩
    · rw [if_neg c]
      refine Or.inl ⟨rfl, fun i hi => ?_⟩
      have : i = 0 := by omega
      subst this
      exact c
  | succ j ih =>
    intro m A hm
    unfold dUn
    by_cases c : q < A 7
    · rw [if_pos c]; exact Or.inr ⟨0, by omega, rfl, c, fun i hi => by omega⟩
    · rw [if_neg c]
      rcases ih (m := m + 1) (A := dDay A) (by omega) with ⟨h1, h2⟩ | ⟨k, h1, h2, h3, h4⟩
      · refine Or.inl ⟨h1, fun i hi => ?_⟩
        rcases Nat.eq_zero_or_pos i with rfl | hp
        · exact c
        · obtain ⟨i', rfl⟩ : ∃ i', i = i' + 1 := ⟨i - 1, by omega⟩
          exact h2 i' (by omega)
      · refine Or.inr ⟨k + 1, by omega, by rw [h2]; congr 1; omega, h3, fun i hi => ?_⟩
        rcases Nat.eq_zero_or_pos i with rfl | hp
        · exact c
        · obtain ⟨i', rfl⟩ : ∃ i', i = i' + 1 := ⟨i - 1, by omega⟩
          exact h4 i' (by omega)
theorem n9 {k : Nat} (hk : k ≤ 400) : ¬ nI k = -9 := fun y => by
  have : 0 ≤ nI k := nI_pos' (by omega)
  rw [y] at this
  exact absurd this (by decide)
/-- the day on which a zone is done is a day of its permit -/
theorem run_day {k t e : Nat} (hz : z < 9) (hA : WF K A) (hK : K + k ≤ 900000000) (h3 : A 3 = nI t) (ht : t ≤ K) (he : A (23 + 4 * z + 2) = nI e) (e9 : e ≤ 999) (hk : 0 < k) (h1 : nI z < dDays k A 7) (h2 : ∀ i, i < k → ¬ nI z < dDays i A 7) : t + k ≤ e + 1 := by
  obtain ⟨k', rfl⟩ : ∃ k', k = k' + 1 := ⟨k - 1, by omega⟩
  have hW := WF_days (n := k') hA (by omega)
  have hp := h2 k' (by omega)
  rw [dDays_s] at h1
  have q4 := hW.2.2.1.2.2.2.1
  have q7 := hW.2.2.1.2.2.2.2.2.1
  have z9 : nI z ≤ 9 := nI_le (b := 9) (by omega) (by decide)
  have z0 : 0 ≤ nI z := nI_pos' (by omega)
  rcases dDay_7 hW with d | ⟨d1, d2⟩
  · rw [d] at h1; exact absurd h1 hp
  · rw [d1] at h1
    have e7 : dDays k' A 7 = nI z := by grind
    rw [e7, ixN (by omega), dDays_zn (by omega) (by omega), he, dDays_3 h3] at d2
    apply Decidable.byContradiction
    intro q
    exact d2 (nI_lt (a := e) (b := t + k') (by omega) (by omega))
/-- what the extension's pages share -/
def eqm (z : Nat) (C E : Pg) : Prop := ∀ k, k ≠ 21 → k ≠ 23 + 4 * z + 2 → k < 121 → C k = E k
theorem ext_main {t f0 : Nat} (hz : z < 9) (hC : WF K C) (hK : K ≤ 800000000) (h3 : C 3 = nI t) (ht : t ≤ K) (hf0 : C (23 + 4 * z + 2) = nI f0) (f9 : f0 ≤ 999) :
    ∃ ds : Nat, (∀ e E, e ≤ f0 → eqm z C E → WF K E → E (23 + 4 * z + 2) = nI e → (dUn (nI z) 400 0 E = -9 ↔ e < ds)) ∧
      ((dUn (nI z) 400 0 C = -9 ∧ ds = f0 + 1) ∨ (dUn (nI z) 400 0 C = nI 0 ∧ ds = 0) ∨ ∃ k, 0 < k ∧ k ≤ 400 ∧ dUn (nI z) 400 0 C = nI k ∧ ds = t + k - 1 ∧ ds ≤ f0) := by
  have hrun : ∀ e E k, e ≤ f0 → eqm z C E → WF K E → E (23 + 4 * z + 2) = nI e → k ≤ 400 → t + k ≤ e + 1 → dDays k E 7 = dDays k C 7 := fun e E k h1 h2 h4 h5 hk h6 => by
    have := mk_days (z := z) (Y := E) (n := k) hz (K := K) (t := t) (e := f0) (f := e) (A := C) hC (by omega) h3 hf0 h5 f9 (by omega) (by omega) h6
    rw [mk_self h2] at this
    rw [this, mk_n (by omega)]
  have h03 : ∀ E, eqm z C E → E 3 = nI t := fun E h => by rw [← h 3 (by omega) (by omega) (by omega)]; exact h3
  have h07 : ∀ E, eqm z C E → E 7 = C 7 := fun E h => (h 7 (by omega) (by omega) (by omega)).symm
  rcases dUn_sp (q := nI z) (j := 400) (m := 0) (A := C) (by omega) with ⟨h1, h2⟩ | ⟨k, h1, h2, h4, h5⟩
  · refine ⟨f0 + 1, fun e E he hq hE hp => ⟨fun _ => by omega, fun _ => ?_⟩, Or.inl ⟨h1, rfl⟩⟩
    rcases dUn_sp (q := nI z) (j := 400) (m := 0) (A := E) (by omega) with ⟨g1, -⟩ | ⟨k', g1, g2, g3, g4⟩
    · exact g1
    · exfalso
      by_cases k0 : k' = 0
      · subst k0
        refine h2 0 (by omega) ?_
        show nI z < C 7
        rw [← h07 E hq]; exact g3
      · have r := run_day hz hE (by omega) (h03 E hq) ht hp (by omega) (by omega) g3 g4
        rw [hrun e E k' he hq hE hp g1 r] at g3
        exact h2 k' g1 g3
  · rw [Nat.zero_add] at h2
    by_cases k0 : k = 0
    · subst k0
      refine ⟨0, fun e E he hq hE hp => ⟨fun y => ?_, fun y => by omega⟩, Or.inr (Or.inl ⟨h2, rfl⟩)⟩
      exfalso
      rcases dUn_sp (q := nI z) (j := 400) (m := 0) (A := E) (by omega) with ⟨g1, g2⟩ | ⟨k', g1, g2, g3, g4⟩
      · refine g2 0 (by omega) ?_
        show nI z < E 7
        rw [h07 E hq]; exact h4
      · rw [g2] at y; exact n9 (by omega) y
    · have r0 := run_day hz hC (by omega) h3 ht hf0 (by omega) (by omega) h4 h5
      refine ⟨t + k - 1, fun e E he hq hE hp => ?_, Or.inr (Or.inr ⟨k, by omega, h1, h2, rfl, by omega⟩)⟩
      rcases dUn_sp (q := nI z) (j := 400) (m := 0) (A := E) (by omega) with ⟨g1, g2⟩ | ⟨k', g1, g2, g3, g4⟩
      · refine ⟨fun _ => ?_, fun _ => g1⟩
        apply Decidable.byContradiction
        intro y
        refine g2 k h1 ?_
        rw [hrun e E k he hq hE hp h1 (by omega)]; exact h4
      · rw [Nat.zero_add] at g2
        refine ⟨fun y => by rw [g2] at y; exact absurd y (n9 (by omega)), fun y => ?_⟩
        exfalso
        by_cases k0' : k' = 0
        · subst k0'
          refine h5 0 (by omega) ?_
          show nI z < C 7
          rw [← h07 E hq]; exact g3
        · have r := run_day hz hE (by omega) (h03 E hq) ht hp (by omega) (by omega) g3 g4
          rw [hrun e E k' he hq hE hp g1 r] at g3
          have : k ≤ k' := by
            apply Decidable.byContradiction
            intro w
            exact h5 k' (by omega) g3
          omega
theorem m_extL {e D ds : Nat} (hz : z < 9) (hz4 : nI z < A 4) (hA : WF K A) (hK : K < 700000000) (hF : 1573 < F) (he : A (23 + 4 * z + 2) = nI e) (hD : D = min 99 (999 - e)) (e9 : e ≤ 999) (hds : ds ≤ D + 1) (hx : ∀ d E, d ≤ D → ag (dExt z (nI d) A) E → (dUn (nI z) 400 0 E = -9 ↔ d < ds)) {j : Nat} : ∀ {d fu : Nat} {N : zMi}, d + j = ds → j < fu → N (b + 3) = A → ∃ N', f_X11_extension_27 F b (nI z) fu (nI d) N = some (if ds ≤ D then nI ds else -9, N') ∧ ∀ q, q ≠ b + 4 → N' q = N q := by
  have step : ∀ {d n : Nat} {N : zMi}, d ≤ D → N (b + 3) = A → ∃ E N1, ag (dExt z (nI d) A) E ∧ (f_X11_extension_27 F b (nI z) (n + 1) (nI d) N = if dUn (nI z) 400 0 E = -9 then f_X11_extension_27 F b (nI z) n (nI (d + 1)) N1 else some (nI d, N1)) ∧ ∀ q, q ≠ b + 4 → N1 q = N q := by
    intro d n N hd hN
    have hw := hA.2.2.2.2.2.2.1 z hz hz4
    have mc := m_canExt (F := F) (d := nI d) hN hz
    rw [he, nI_add, if_neg (show ¬ 999 < nI (e + d) from nI_nlt (a := 999) (by omega) (by omega))] at mc
    obtain ⟨T, hT, hTA⟩ : ∃ T, f_X11_copyPage F (b + 3) 121 0 (b + 4) 121 0 N = some (pR N (b + 4) T) ∧ ag A T := by
      refine ⟨_, m_copy (F := F) (M := N) (p := b + 3) (np := 121) (o := 0) (q := b + 4) (nq := 121) (u := 0) (by omega) (by omega) (by omega) (by omega) (by omega) (by omega), fun i hi => ?_⟩
      show (if 0 ≤ i ∧ i < 0 + 121 then N (b + 3) (0 + (i - 0)) else N (b + 4) i) = A i
      rw [if_pos (by omega), hN]
      congr 1
      omega
    have hAT := WF_ag hTA hA
    have tp : T (23 + 4 * z + 2) = nI e := (hTA _ (by omega)).trans he
    have hE : WF K (dExt z (nI d) T) := WF_ext hAT hz (by rw [tp, nI_add]; exact ⟨nI_pos' (by omega), nI_le (b := 999) (by omega) (by decide)⟩)
    have hag : ag (dExt z (nI d) A) (dExt z (nI d) T) := fun i hi => by
      unfold dExt
      rw [hTA (23 + 4 * z + 2) (by omega), hTA 21 (by omega)]
      unfold pU
      by_cases i1 : i = 21
      · rw [if_pos i1, if_pos i1]
      · rw [if_neg i1, if_neg i1]
        by_cases i2 : i = 23 + 4 * z + 2
        · rw [if_pos i2, if_pos i2]
        · rw [if_neg i2, if_neg i2]; exact hTA i hi
    obtain ⟨X', mu⟩ := m_until (F := F) (b := b) (M := N) (z := nI z) (j := 400) (m := 0) (fu := F) (A := dExt z (nI d) T) (by omega) hE (by omega) (by omega) (by omega)
    refine ⟨dExt z (nI d) T, pR N (b + 4) X', hag, ?_, fun q hq => pR_n hq⟩
    unfold f_X11_doneOf at *
    rw [f_X11_extension_27, if_neg (show ¬ 99 < nI d from nI_nlt (a := 99) (by omega) (by omega)), mc, cal_s, if_neg (show ¬ (1 : Int32) = 0 by decide), hT, cal_s, m_ext hz, cal_s]
    unfold f_X11_doneOf
    rw [show f_X11_doneOf_2 F b (nI z) F (0 : Int32) (pR N (b + 4) (dExt z (nI d) T)) = f_X11_doneOf_2 F b (nI z) F (nI 0) (pR N (b + 4) (dExt z (nI d) T)) from rfl, mu, cal_s, ad1]
  induction j with
  | zero =>
    intro d fu N hd hf hN
    obtain ⟨n, rfl⟩ : ∃ n, fu = n + 1 := ⟨fu - 1, by omega⟩
    have : d = ds := by omega
    subst this
    by_cases c : d ≤ D
    · obtain ⟨E, N1, s1, s2, s3⟩ := step (d := d) (n := n) c hN
      refine ⟨N1, ?_, s3⟩
      rw [s2, if_neg (fun y => by have := (hx d E c s1).mp y; omega), if_pos c]
    · rw [if_neg c]
      by_cases c9 : 99 < d
      · rw [f_X11_extension_27, if_pos (show 99 < nI d from nI_lt (a := 99) c9 (by omega))]
        exact ⟨N, rfl, fun _ _ => rfl⟩
      · have mc := m_canExt (F := F) (d := nI d) hN hz
        rw [he, nI_add, if_pos (show 999 < nI (e + d) from nI_lt (a := 999) (by omega) (by omega))] at mc
        rw [f_X11_extension_27, if_neg (show ¬ 99 < nI d from nI_nlt (a := 99) (by omega) (by omega)), mc, cal_s, if_pos rfl]
        exact ⟨N, rfl, fun _ _ => rfl⟩
  | succ j ih =>
    intro d fu N hd hf hN
    obtain ⟨n, rfl⟩ : ∃ n, fu = n + 1 := ⟨fu - 1, by omega⟩
    obtain ⟨E, N1, s1, s2, s3⟩ := step (d := d) (n := n) (by omega) hN
    obtain ⟨N', i1, i2⟩ := ih (d := d + 1) (fu := n) (N := N1) (by omega) (by omega) (by rw [s3 _ (by omega)]; exact hN)
    refine ⟨N', ?_, fun q hq => by rw [i2 q hq, s3 q hq]⟩
    rw [s2, if_pos ((hx d E (by omega) s1).mpr (by omega))]
    exact i1
end
