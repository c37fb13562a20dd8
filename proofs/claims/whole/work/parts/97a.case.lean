section
variable {F x a r b o K len : Nat} {M N : zMi} {X : zMl} {xs : Nat → Int32} {A : Pg}
theorem WF_17 (hA : WF K A) : 0 ≤ A 17 ∧ A 17 ≤ 990 := by
  obtain ⟨-, -, -, q4, -, q7, q8, -, -, q17⟩ := hA.2.2.1
  constructor <;> grind
noncomputable def bTr (B : Nat → Pg) (s : Nat) : Pg := dDays 60 (dFill s (B s))
noncomputable def dBest (A : Pg) (B : Nat → Pg) : Nat → Nat → Int32 → Int32 → Int32 → Int32
  | 0, _, v1, _, _ => v1
  | j + 1, s, v1, v2, v3 => if A (59 + 8 * s + 5) = 0 ∧ A 7 ≠ A 4 then
      (if v1 = -9 ∨ v2 < bTr B s 17 - A 17 ∨ (bTr B s 17 - A 17 = v2 ∧ bTr B s 19 < v3) then dBest A B j (s + 1) (nI s) (bTr B s 17 - A 17) (bTr B s 19) else dBest A B j (s + 1) v1 v2 v3)
     else dBest A B j (s + 1) v1 v2 v3
theorem dBest_c {B B' : Nat → Pg} {j : Nat} : ∀ {s : Nat} {v1 v2 v3 : Int32}, (∀ t, s ≤ t → B t = B' t) → dBest A B j s v1 v2 v3 = dBest A B' j s v1 v2 v3 := by
  induction j with
  | zero => intro s v1 v2 v3 h; rfl
  | succ j ih =>
    intro s v1 v2 v3 h
    have e : bTr B s = bTr B' s := by unfold bTr; rw [h s (by omega)]
    unfold dBest
    rw [e, ih (fun t ht => h t (by omega)), ih (fun t ht => h t (by omega))]
theorem dFill_17 {s : Nat} (hs : s < 4) : dFill s A 17 = A 17 := by
  unfold dFill dSend dTake
  rw [pU_n (by omega), pU_n (by omega), pU_n (by omega), pU_n (by omega)]
theorem c_bestL {f : Nat} {B : Nat → Pg} (h : RC M (x + 3) A) (hA : WF K A) (hK : K < 700000000) (hF : 101 ≤ F) (h5 : A 5 = nI f) (hf4 : f ≤ 4) (hB : ∀ t, ag A (B t)) {j : Nat} : ∀ {s fu : Nat} {v1 v2 v3 w2 : Int32} {N : zMi}, s + j = f → j < fu → fr (x + 24) M N → (v1 = -9 ∨ (w2 = v2 + A 17 ∧ 0 ≤ w2 ∧ w2 ≤ 990)) → ∃ N', f_X10_bestShip_10 F x fu v1 w2 v3 (nI s) N = some (dBest A B j s v1 v2 v3, N') ∧ fr (x + 24) M N' := by
  induction j with
  | zero =>
    intro s fu v1 v2 v3 w2 N hs hf hN hv
    obtain ⟨n, rfl⟩ : ∃ n, fu = n + 1 := ⟨fu - 1, by omega⟩
    have e6 : N (x + 3) 6 = nI f := by rw [hN _ (by omega), ← h5]; exact h.1.2.1
    rw [f_X10_bestShip_10, e6, if_neg (nI_nlt (a := s) (b := f) (by omega) (by omega))]
    exact ⟨N, rfl, hN⟩
  | succ j ih =>
    intro s fu v1 v2 v3 w2 N hs hf hN hv
    obtain ⟨n, rfl⟩ : ∃ n, fu = n + 1 := ⟨fu - 1, by omega⟩
    have e6 : N (x + 3) 6 = nI f := by rw [hN _ (by omega), ← h5]; exact h.1.2.1
    have hs4 : s < 4 := by omega
    have hRN : RC N (x + 3) A := RC_fr h (fun q q1 q2 => hN q (by omega))
    obtain ⟨M1, a1, b1, c1⟩ := c_copy (F := F) (a := x + 24) (b := x + 3) (by omega) (by omega) hRN
    have c1' := RC_ag (hB s) c1
    have hAB := WF_ag (hB s) hA
    have e5 : B s (59 + 8 * s + 5) = A (59 + 8 * s + 5) := hB s _ (by omega)
    have e7 : B s 7 = A 7 := hB s _ (by omega)
    have e4 : B s 4 = A 4 := hB s _ (by omega)
    have e17 : B s 17 = A 17 := hB s _ (by omega)
    have hp : nI s < B s 5 := by rw [hB s 5 (by omega), h5]; exact nI_lt (by omega) (by omega)
    obtain ⟨M2, a2, b2, c2⟩ := c_fill (F := F) c1' hAB hs4 hp
    rw [e5, e7, e4] at a2 c2
    have f2 : fr (x + 24) M M2 := fr_t hN (fr_t b1 b2)
    rw [f_X10_bestShip_10, e6, if_pos (nI_lt (a := s) (b := f) (by omega) (by omega)), a1, cal_s, a2, cal_s, ad1]
    unfold dBest f_X10_bestShip_102
    by_cases k : A (59 + 8 * s + 5) = 0 ∧ A 7 ≠ A 4
    · rw [if_pos k] at c2
      rw [if_pos k, if_pos k, if_neg (show ¬ (1 : Int32) = 0 by decide)]
      have hW := WF_fill hAB hs4 hp (by rw [e5]; exact k.1)
      obtain ⟨M3, a3, b3, c3⟩ := c_days (F := F) (n := 60) hF c2 hW (by omega) (by omega) (by omega)
      have hWT := WF_17 (WF_days (n := 60) hW (by omega))
      have eT : dDays 60 (dFill s (B s)) = bTr B s := rfl
      rw [eT] at c3 hWT
      have y1 : M3 (x + 24 + 7) 1 = bTr B s 17 := c3.2.1.2.1
      have y3 : M3 (x + 24 + 7) 3 = bTr B s 19 := c3.2.1.2.2.2.1
      have f3 : fr (x + 24) M M3 := fr_t f2 b3
      have hA17 := WF_17 hA
      dsimp only
      rw [show (60 : Int32) = nI 60 from rfl, a3, cal_s, bnd_e, bnd_e, y1, y3]
      have up : ∀ z, z = dBest A B j (s + 1) (nI s) (bTr B s 17 - A 17) (bTr B s 19) → ∃ N', f_X10_bestShip_10 F x n (nI s) (bTr B s 17) (bTr B s 19) (nI s + 1) M3 = some (z, N') ∧ fr (x + 24) M N' := fun z hz => by
        rw [hz, ad1]
        exact ih (by omega) (by omega) f3 (Or.inr ⟨by grind, hWT.1, hWT.2⟩)
      have st : ∀ z, z = dBest A B j (s + 1) v1 v2 v3 → ∃ N', f_X10_bestShip_10 F x n v1 w2 v3 (nI (s + 1)) M3 = some (z, N') ∧ fr (x + 24) M N' := fun z hz => by
        rw [hz]
        exact ih (by omega) (by omega) f3 hv
      generalize bTr B s 17 = L at *
      generalize bTr B s 19 = C at *
      by_cases k1 : v1 = -9
      · rw [if_pos k1, if_pos (Or.inl k1)]; exact up _ rfl
      · have hv' := hv.resolve_left k1
        rw [if_neg k1]
        by_cases k2 : w2 < L
        · rw [if_pos k2, if_pos (Or.inr (Or.inl (by grind)))]; exact up _ rfl
        · rw [if_neg k2]
          by_cases k3 : L = w2
          · rw [if_pos k3]
            by_cases k4 : C < v3
            · rw [if_pos k4, if_pos (Or.inr (Or.inr ⟨by grind, k4⟩))]; exact up _ rfl
            · rw [if_neg k4, if_neg (by rintro (y | y | y); exact k1 y; grind; exact k4 y.2)]; exact st _ rfl
          · rw [if_neg k3, if_neg (by rintro (y | y | y); exact k1 y; grind; exact k3 (by grind))]; exact st _ rfl
    · rw [if_neg k, if_neg k, if_pos rfl]
      exact ih (by omega) (by omega) f2 hv
theorem bs1 {k : Int32 → Int32 → Int32 → Int32 → zMi → Option (Int32 × zMi)} {v1 v2 v3 v4 v5 : Int32} : f_X11_bestShip_105 F b k v1 v2 v3 v4 v5 1 N = k v4 v5 (N (b + 4) 19) (v4 + 1) N := by
  unfold f_X11_bestShip_105 f_X11_bestShip_118 f_X11_bestShip_130
  rw [if_neg (show ¬ (1 : Int32) = 0 by decide), if_neg (show ¬ (1 : Int32) = 0 by decide), if_neg (show ¬ (1 : Int32) = 0 by decide), bnd_e]
theorem bs0 {k : Int32 → Int32 → Int32 → Int32 → zMi → Option (Int32 × zMi)} {v1 v2 v3 v4 v5 : Int32} : f_X11_bestShip_105 F b k v1 v2 v3 v4 v5 0 N = k v1 v2 v3 (v4 + 1) N := by
  unfold f_X11_bestShip_105 f_X11_bestShip_118 f_X11_bestShip_130
  rw [if_pos rfl, if_pos rfl, if_pos rfl]
theorem m_bestL {f : Nat} (hA : WF K A) (hK : K < 700000000) (hF : 1573 < F) (h5 : A 5 = nI f) (hf4 : f ≤ 4) {j : Nat} : ∀ {s fu : Nat} {v1 v2 v3 : Int32} {N : zMi}, s + j = f → j < fu → N (b + 3) = A → ∃ B N', (∀ t, ag A (B t)) ∧ f_X11_bestShip_15 F b fu v1 v2 v3 (nI s) N = some (dBest A B j s v1 v2 v3, N') ∧ ∀ q, q ≠ b + 4 → N' q = N q := by
  induction j with
  | zero =>
    intro s fu v1 v2 v3 N hs hf hN
    obtain ⟨n, rfl⟩ : ∃ n, fu = n + 1 := ⟨fu - 1, by omega⟩
    rw [f_X11_bestShip_15, hN, h5, if_neg (nI_nlt (a := s) (b := f) (by omega) (by omega))]
    exact ⟨fun _ => A, N, fun _ _ _ => rfl, rfl, fun _ _ => rfl⟩
  | succ j ih =>
    intro s fu v1 v2 v3 N hs hf hN
    obtain ⟨n, rfl⟩ : ∃ n, fu = n + 1 := ⟨fu - 1, by omega⟩
    have hs4 : s < 4 := by omega
    have mc := m_canSend (F := F) (r := b + 3) (M := N) (A := A) hs4
    rw [show pR N (b + 3) A = N from by rw [← hN]; exact pR_i] at mc
    rw [f_X11_bestShip_15, hN, h5, if_pos (nI_lt (a := s) (b := f) (by omega) (by omega)), mc, cal_s, ad1]
    by_cases k : A (59 + 8 * s + 5) = 0 ∧ A 7 ≠ A 4
    · obtain ⟨T, hT, hTA⟩ : ∃ T, f_X11_copyPage F (b + 3) 121 0 (b + 4) 121 0 N = some (pR N (b + 4) T) ∧ ag A T := by
        refine ⟨_, m_copy (F := F) (M := N) (p := b + 3) (np := 121) (o := 0) (q := b + 4) (nq := 121) (u := 0) (by omega) (by omega) (by omega) (by omega) (by omega) (by omega), fun i hi => ?_⟩
        show (if 0 ≤ i ∧ i < 0 + 121 then N (b + 3) (0 + (i - 0)) else N (b + 4) i) = A i
        rw [if_pos (by omega), hN]
        congr 1
        omega
      have hAT := WF_ag hTA hA
      have t5 : T (59 + 8 * s + 5) = 0 := (hTA _ (by omega)).trans k.1
      have t17 : T 17 = A 17 := hTA _ (by omega)
      have hp : nI s < T 5 := by rw [hTA 5 (by omega), h5]; exact nI_lt (by omega) (by omega)
      have hW := WF_fill hAT hs4 hp t5
      have md := m_days (F := F) (r := b + 4) (M := N) (A := dFill s T) (n := 60) (by omega) hW (by omega) (by omega) (by omega)
      rw [dFill_17 hs4, t17] at md
      generalize hD : dDays 60 (dFill s T) = D at md
      have nD : pR N (b + 4) D (b + 4) = D := pR_s
      have n3 : pR N (b + 4) D (b + 3) = A := by rw [pR_n (by omega)]; exact hN
      rw [if_pos k, if_neg (show ¬ (1 : Int32) = 0 by decide), hT, cal_s, m_fill hs4, cal_s, show (60 : Int32) = nI 60 from rfl, md, cal_s]
      dsimp only
      simp only [bs1, bs0, nD, ad1]
      have goB : ∀ (B' : Nat → Pg), (∀ t, ag A (B' t)) → (∀ t, ag A ((fun t => if t = s then T else B' t) t)) ∧ (bTr (fun t => if t = s then T else B' t) s = D) ∧ ∀ {w1 w2 w3 : Int32}, dBest A (fun t => if t = s then T else B' t) j (s + 1) w1 w2 w3 = dBest A B' j (s + 1) w1 w2 w3 := fun B' hB' => by
        refine ⟨fun t => ?_, ?_, fun {w1 w2 w3} => dBest_c (fun t ht => ?_)⟩
        · show ag A (if t = s then T else B' t)
          by_cases e : t = s
          · rw [if_pos e]; exact hTA
          · rw [if_neg e]; exact hB' t
        · unfold bTr; dsimp only; rw [if_pos rfl]; exact hD
        · show (if t = s then T else B' t) = B' t
          rw [if_neg (by omega)]
      have up : (v1 = -9 ∨ v2 < D 17 - A 17 ∨ (D 17 - A 17 = v2 ∧ D 19 < v3)) → ∃ B N', (∀ t, ag A (B t)) ∧ f_X11_bestShip_15 F b n (nI s) (D 17 - A 17) (D 19) (nI (s + 1)) (pR N (b + 4) D) = some (dBest A B (j + 1) s v1 v2 v3, N') ∧ ∀ q, q ≠ b + 4 → N' q = N q := fun hc => by
        obtain ⟨B', N', i1, i2, i3⟩ := ih (s := s + 1) (fu := n) (v1 := nI s) (v2 := D 17 - A 17) (v3 := D 19) (N := pR N (b + 4) D) (by omega) (by omega) n3
        obtain ⟨g1, g2, g3⟩ := goB B' i1
        refine ⟨_, N', g1, ?_, fun q hq => by rw [i3 q hq, pR_n hq]⟩
        unfold dBest
        rw [g2, if_pos k, if_pos hc, g3]
        exact i2
      have st : ¬ (v1 = -9 ∨ v2 < D 17 - A 17 ∨ (D 17 - A 17 = v2 ∧ D 19 < v3)) → ∃ B N', (∀ t, ag A (B t)) ∧ f_X11_bestShip_15 F b n v1 v2 v3 (nI (s + 1)) (pR N (b + 4) D) = some (dBest A B (j + 1) s v1 v2 v3, N') ∧ ∀ q, q ≠ b + 4 → N' q = N q := fun hc => by
        obtain ⟨B', N', i1, i2, i3⟩ := ih (s := s + 1) (fu := n) (v1 := v1) (v2 := v2) (v3 := v3) (N := pR N (b + 4) D) (by omega) (by omega) n3
        obtain ⟨g1, g2, g3⟩ := goB B' i1
        refine ⟨_, N', g1, ?_, fun q hq => by rw [i3 q hq, pR_n hq]⟩
        unfold dBest
        rw [g2, if_pos k, if_neg hc, g3]
        exact i2
      by_cases k1 : v1 = -9
      · rw [if_pos k1]; exact up (Or.inl k1)
      · rw [if_neg k1]
        by_cases k2 : v2 < D 17 - A 17
        · rw [if_pos k2]; exact up (Or.inr (Or.inl k2))
        · rw [if_neg k2]
          by_cases k3 : D 17 - A 17 = v2
          · rw [if_pos k3]
            by_cases k4 : D 19 < v3
            · rw [if_pos k4]; exact up (Or.inr (Or.inr ⟨k3, k4⟩))
            · rw [if_neg k4]; exact st (by rintro (y | y | y); exact k1 y; exact k2 y; exact k4 y.2)
          · rw [if_neg k3]; exact st (by rintro (y | y | y); exact k1 y; exact k2 y; exact k3 y.1)
    · rw [if_neg k, if_pos rfl]
      obtain ⟨B', N', i1, i2, i3⟩ := ih (s := s + 1) (fu := n) (v1 := v1) (v2 := v2) (v3 := v3) (N := N) (by omega) (by omega) hN
      refine ⟨B', N', i1, ?_, i3⟩
      unfold dBest
      rw [if_neg k]
      exact i2
theorem case_best {k : Int32 → zMi → zMl → Option Int32} {v4 : Int32} (h : INV K M x b) (hb : b = x + 386) (hK : K < 700000000) (hF : 1573 < F) : goes K x b k v4 (f_L_law_1394 F len xs x b o k v4 M X) := by
  have hA := h.2.2.1
  obtain ⟨f, hf0, hf4, h5⟩ := wFl_N hA.1
  unfold f_L_law_1394 f_X10_bestShip f_X11_bestShip
  obtain ⟨M1, a1, b1⟩ := c_bestL (F := F) (B := fun _ => M (b + 3)) h.2.1 hA hK (by omega) h5 hf4 (fun _ _ _ => rfl) (j := f) (s := 0) (fu := F) (v1 := -9) (v2 := 0) (v3 := 0) (w2 := 0) (N := M) (by omega) (by omega) fr_r (Or.inl rfl)
  have g3 : wI M1 b 0 0 (b + 3) = M (b + 3) := by rw [wI_ne (by omega), b1 _ (by omega)]
  obtain ⟨B, N', i1, i2, i3⟩ := m_bestL (F := F) (b := b) hA hK hF h5 hf4 (j := f) (s := 0) (fu := F) (v1 := -9) (v2 := 0) (v3 := 0) (N := wI M1 b 0 0) (by omega) (by omega) g3
  obtain ⟨M1', a1', b1'⟩ := c_bestL (F := F) (B := B) h.2.1 hA hK (by omega) h5 hf4 i1 (j := f) (s := 0) (fu := F) (v1 := -9) (v2 := 0) (v3 := 0) (w2 := 0) (N := M) (by omega) (by omega) fr_r (Or.inl rfl)
  rw [a1] at a1'
  have ee := Option.some.inj a1'
  have e1 := congrArg Prod.fst ee
  dsimp only at e1
  rw [show (0 : Int32) = nI 0 from rfl] at *
  rw [a1, cal_s, bnd_e, i2, cal_s]
  dsimp only
  rw [if_pos e1]
  refine ⟨N', X, rfl, INV_mono (INV_fr h hb (fun q q1 q2 q3 q4 q5 => ?_) (fun j j0 j3 => ?_) ?_) (by omega) (by omega)⟩
  · rw [i3 q q3, wI_ne q1, b1 q q5]
  · rw [i3 b (by omega), ← b1 b (by omega)]; simp [wI, j0]
  · rw [i3 _ (by omega), wI_ne (by omega), b1 _ (by omega)]
end
