section
variable {F a b p n i K : Nat} {M N M' : zMi} {P : Pg} {tx : Nat → Nat} {v : Int32}
def gW (p : Nat) (r1 : zMi) : Option (Int32 × zMi) := if (r1 p 3) = (0 : Int32) then some ((r1 p 2), r1) else some ((-9 : Int32), r1)
def hdB (F : Nat) (p0 : Nat) (M : zMi) : Option (Int32 × zMi) := cal (f_X11_eat F p0 (67 : Int32) M) (fun r1 => (if r1.1 = (0 : Int32) then some ((0 : Int32), r1.2) else cal (f_X11_put F p0 (0 : Int32) (1 : Int32) (1 : Int32) (3 : Int32) r1.2) (fun r2 => (if r2.1 = (0 : Int32) then some ((0 : Int32), r2.2) else cal (f_X11_put F p0 (1 : Int32) (1 : Int32) (1 : Int32) (3 : Int32) r2.2) (fun r3 => (if r3.1 = (0 : Int32) then some ((0 : Int32), r3.2) else cal (f_X11_put F p0 (2 : Int32) (4 : Int32) (0 : Int32) (9999 : Int32) r3.2) (fun r4 => (if r4.1 = (0 : Int32) then some ((0 : Int32), r4.2) else f_X11_readAll_72 F p0 F  r4.2))))))))
theorem rI92 : f_X7_readInto_92 F p a M = cal (f_X7_readWeather F p a M) (gW p) := rfl
theorem fl_W {fu : Nat} : cal (f_X7_readWeather_8 F p a (fu + 1) v (tS p i 0 M)) (gW p) = some (nI i, tS p i 0 M) := by
  rw [f_X7_readWeather_8, tS_3, if_pos rfl]
  unfold f_X7_readWeather_57 gW
  rw [tS_3, if_pos rfl, tS_w3, bnd_e, cal_s, tS_3, if_pos rfl, tS_2]
theorem fl_92 (hF : 101 ≤ F) : f_X7_readInto_92 F p a (tS p i 0 M) = some (nI i, tS p i 0 M) := by
  obtain ⟨m, hm⟩ : ∃ m, F = m + 1 := ⟨F - 1, by omega⟩
  have hh : ∀ F', F' = F → cal (f_X7_readWeather_8 F p a F' 0 (tS p i 0 M)) (gW p) = some (nI i, tS p i 0 M) := fun F' h => by
    rw [h, hm]; exact fl_W
  rw [rI92]
  unfold f_X7_readWeather
  rw [c_let0, cal_s]
  exact hh F rfl
theorem fl_56 {fu : Nat} (hF : 101 ≤ F) : f_X7_readInto_56 F p a (fu + 1) v (tS p i 0 M) = some (nI i, tS p i 0 M) := by
  rw [f_X7_readInto_56, tS_3, if_pos rfl, fl_92 hF]
theorem fl_17 {fu : Nat} (hF : 101 ≤ F) : f_X7_readInto_17 F p a (fu + 1) v (tS p i 0 M) = some (nI i, tS p i 0 M) := by
  obtain ⟨m, hm⟩ : ∃ m, F = m + 1 := ⟨F - 1, by omega⟩
  have hh : ∀ F', F' = F → f_X7_readInto_56 F p a F' 0 (tS p i 0 M) = some (nI i, tS p i 0 M) := fun F' h => by
    rw [h]
    have := fl_56 (F := F) (p := p) (a := a) (i := i) (M := M) (v := 0) (fu := m) hF
    rw [← hm] at this
    exact this
  rw [f_X7_readInto_17, tS_3, if_pos rfl]
  exact hh F rfl
/-- what the reading comes to, in both -/
def OUT (p a b n : Nat) (tx : Nat → Nat) (M : zMi) (cls : Option (Int32 × zMi)) (ref : zMi → Option (Int32 × zMi)) : Prop :=
  (∃ i' M', i' ≤ n ∧ cls = some (nI i', M') ∧ frT p a M M' ∧ ∀ N, TR N b n tx → ∃ P', ref N = some (0, sP b i' P' N)) ∨
  (∃ M' P', cls = some (-9, M') ∧ frT p a M M' ∧ RC M' a P' ∧ WF 0 P' ∧ ∀ N, TR N b n tx → ∃ i', ref N = some (1, sP b i' P' N))
theorem OUT_t {cls : Option (Int32 × zMi)} {ref : zMi → Option (Int32 × zMi)} (hf : frT p a M M') (h : OUT p a b n tx M' cls ref) : OUT p a b n tx M cls ref := by
  rcases h with ⟨i', M2, h1, h2, h3, h4⟩ | ⟨M2, P', h1, h2, h3, h4, h5⟩
  · exact Or.inl ⟨i', M2, h1, h2, frT_t hf h3, h4⟩
  · exact Or.inr ⟨M2, P', h1, frT_t hf h2, h3, h4, h5⟩
theorem OUT_c {cls : Option (Int32 × zMi)} {ref ref' : zMi → Option (Int32 × zMi)} (hr : ∀ N, TR N b n tx → ref N = ref' N) (h : OUT p a b n tx M cls ref') : OUT p a b n tx M cls ref := by
  rcases h with ⟨i', M2, h1, h2, h3, h4⟩ | ⟨M2, P', h1, h2, h3, h4, h5⟩
  · exact Or.inl ⟨i', M2, h1, h2, h3, fun N hN => by rw [hr N hN]; exact h4 N hN⟩
  · exact Or.inr ⟨M2, P', h1, h2, h3, h4, fun N hN => by rw [hr N hN]; exact h5 N hN⟩
theorem rd_lt {lo hi d w : Nat} {r : Nat × Nat} (h : rdN n tx lo hi (d + 1) w i = (true, r)) : i < n := by
  rw [rdN] at h
  by_cases c : i < n
  · exact c
  · rw [if_neg (fun y => c y.1)] at h; cases h
theorem rd_0 {lo hi w u q : Nat} (h : rdN n tx lo hi 1 w i = (false, u, q)) : q = i := by
  rw [show (1 : Nat) = 0 + 1 from rfl, rdN] at h
  split at h
  · cases h
  · cases h; rfl
theorem w_end {zc sc wc : Nat} (hT : TX M p n tx) (hp : p + 1 < a) (hi : i ≤ n) (hR : RCv M a P) (hW : PW zc sc wc P) (z1 : 1 ≤ zc) (z9 : zc ≤ 9) (s1 : 1 ≤ sc) (s4 : sc ≤ 4) (w1 : 1 ≤ wc) (w30 : wc ≤ 30) : OUT p a b n tx M (cal (f_X7_readWeather_57 F p a (tS p i 1 M)) (gW p)) (fun N => f_X11_readAll_205 F b (sP b i P N)) := by
  have p6 : P 6 = nI wc := hW.2.2.2.2.2.1
  have r0 : ∀ N, TR N b n tx → f_X11_readAll_205 F b (sP b i P N) = some (if i = n then 1 else 0, sP b i (pU P 16 (P 2)) N) := fun N hN => by
    have hn := hN.1
    unfold f_X11_readAll_205
    rw [sP_p, sP_wp, bnd_e, sP_p, pU_n (by omega), p6, if_pos (show 0 < nI wc from nI_lt (a := 0) (by omega) (by omega)), sP_3, sP_k (by decide), hN.2.1]
    by_cases c : i = n
    · rw [if_pos (by rw [c]), if_pos c]
    · rw [if_neg (fun y => c ((nI_eq (by omega) (by have := hN.1; omega)).mp y)), if_neg c]
  have hn := hT.1
  unfold f_X7_readWeather_57
  rw [tS_3, if_neg (show ¬ (1 : Int32) = 0 by decide), tS_2, tS_k (by decide) (by decide), hT.2.1]
  by_cases c : i = n
  · rw [if_pos (by rw [c]), tS_w3, bnd_e, cal_s]
    refine Or.inr ⟨tS p i 1 M, pU P 16 (P 2), ?_, frT_s, RC_fr hR (fun q y1 y2 => tS_q (by omega)), PW_WF hW z1 z9 s1 s4 w1 w30, fun N hN => ⟨i, by (try dsimp only); rw [r0 N hN, if_pos c]⟩⟩
    unfold gW
    rw [tS_3, if_neg (show ¬ (1 : Int32) = 0 by decide)]
  · rw [if_neg (fun y => c ((nI_eq (by omega) (by omega)).mp y)), tS_w3, bnd_e, cal_s]
    refine Or.inl ⟨i, tS p i 0 M, hi, ?_, frT_s, fun N hN => ⟨pU P 16 (P 2), by (try dsimp only); rw [r0 N hN, if_neg c]⟩⟩
    unfold gW
    rw [tS_3, if_pos rfl, tS_2]
theorem w_loop {zc sc : Nat} (hp : p + 1 < a) (z1 : 1 ≤ zc) (z9 : zc ≤ 9) (s1 : 1 ≤ sc) (s4 : sc ≤ 4) (hF : 101 ≤ F) {j : Nat} : ∀ {wc i fu fu2 : Nat} {M : zMi} {P : Pg}, wc + j = 30 → TX M p n tx → i ≤ n → RCv M a P → PW zc sc wc P → j < fu → j < fu2 → OUT p a b n tx M (cal (f_X7_readWeather_8 F p a fu (nI wc) (tS p i 1 M)) (gW p)) (fun N => f_X11_readAll_158 F b fu2 (sP b i P N)) := by
  induction j with
  | zero =>
    intro wc i fu fu2 M P hj hT hi hR hW hf hf2
    obtain ⟨m, rfl⟩ : ∃ m, fu = m + 1 := ⟨fu - 1, by omega⟩
    obtain ⟨m2, rfl⟩ : ∃ m, fu2 = m + 1 := ⟨fu2 - 1, by omega⟩
    have e : wc = 30 := by omega
    subst e
    have p6 : P 6 = nI 30 := hW.2.2.2.2.2.1
    rw [f_X7_readWeather_8, tS_3, if_neg (show ¬ (1 : Int32) = 0 by decide), if_neg (show ¬ nI 30 < 30 by decide)]
    refine OUT_c (fun N hN => ?_) (w_end hT hp hi hR hW z1 z9 s1 s4 (by decide) (by decide))
    rw [f_X11_readAll_158, sP_p, p6, if_neg (show ¬ nI 30 < 30 by decide)]
  | succ j ih =>
    intro wc i fu fu2 M P hj hT hi hR hW hf hf2
    obtain ⟨m, rfl⟩ : ∃ m, fu = m + 1 := ⟨fu - 1, by omega⟩
    obtain ⟨m2, rfl⟩ : ∃ m, fu2 = m + 1 := ⟨fu2 - 1, by omega⟩
    obtain ⟨m3, rfl⟩ : ∃ k, m = k + 1 := ⟨m - 1, by omega⟩
    have p6 : P 6 = nI wc := hW.2.2.2.2.2.1
    have n160 := hT.1
    have c30 : nI wc < 30 := nI_lt (b := 30) (by omega) (by decide)
    rcases hr : rdN n tx 0 9 1 0 i with ⟨ok, w, q⟩
    have qn := rd_f hr hi
    cases ok with
    | true =>
      have hlt : i < n := rd_lt hr
      have e1 : f_X7_readNumber F p 1 0 9 (tS p i 1 M) = some (nI w, tS p q 1 M) := c_nu1 (dg := 1) (lo := 0) (hi := 9) hT hr (by decide) (by decide) (by decide) hi hF
      have hRt : RC (tS p q 1 M) a (pU P 16 (P 2)) := RC_fr hR (fun q y1 y2 => tS_q (by omega))
      obtain ⟨N1, b1, b2, b3⟩ := c_addW (F := F) (v := nI w) hRt (by rw [pU_n (by omega)]; exact p6) (by omega : wc < 30)
      have fN : frT p a M N1 := frT_t frT_s (frT_f (by omega) b2)
      have hR1 : RCv N1 a (uP P wc w) := by unfold RCv; rw [v_w]; exact b3
      have eW : f_X7_readWeather_36 F p a (f_X7_readWeather_8 F p a (m3 + 1)) (nI wc) (tS p i 1 M) = f_X7_readWeather_8 F p a (m3 + 1) (nI (wc + 1)) (tS p q 1 N1) := by
        unfold f_X7_readWeather_36
        rw [e1, cal_s]
        (try dsimp only)
        rw [b1, cal_s, ad1, tS_f (by omega) b2]
      have eC : f_X7_readWeather_8 F p a (m3 + 1 + 1) (nI wc) (tS p i 1 M) = f_X7_readWeather_8 F p a (m3 + 1) (nI (wc + 1)) (tS p q 1 N1) := by
        rw [f_X7_readWeather_8, tS_3, if_neg (show ¬ (1 : Int32) = 0 by decide), if_pos c30, tS_2, tS_k (by decide) (by decide), hT.2.1, if_pos (nI_lt hlt (by omega)), eW]
        split <;> rfl
      rw [eC]
      refine OUT_t fN (OUT_c (fun N hN => ?_) (ih (wc := wc + 1) (fu := m3 + 1) (fu2 := m2) (by omega) (TX_f hT hp fN) qn hR1 (PW_w hW (by omega)) (by omega) (by omega)))
      have m1 : f_X11_put F b (nI (91 + wc)) 1 0 9 (sP b i P N) = some (1, sP b q (pU P (91 + wc) (nI w)) N) := m_pu1 (dg := 1) (lo := 0) (hi := 9) hN hr (by omega) (by decide) (by decide) (by decide) (by decide) hi hF
      rw [f_X11_readAll_158, sP_p, p6, if_pos c30, a91N, m1, cal_s]
      dsimp only
      rw [if_neg (show ¬ (1 : Int32) = 0 by decide), sP_p, pU_n (by omega), p6, ad1, sP_wp, bnd_e]
      rfl
    | false =>
      have eq : q = i := rd_0 hr
      subst eq
      have e1 : f_X7_readNumber F p 1 0 9 (tS p q 1 M) = some (nI w, tS p q 0 M) := c_nu0 (dg := 1) (lo := 0) (hi := 9) hT hr (by decide) (by decide) (by decide) hi hF
      have m1 : ∀ N, TR N b n tx → f_X11_readAll_158 F b (m2 + 1) (sP b q P N) = f_X11_readAll_205 F b (sP b q P N) := fun N hN => by
        have m1 : f_X11_put F b (nI (91 + wc)) 1 0 9 (sP b q P N) = some (0, sP b q P N) := m_pu0 (dg := 1) (lo := 0) (hi := 9) hN hr (by omega) (by decide) (by decide) (by decide) (by decide) hi hF
        rw [f_X11_readAll_158, sP_p, p6, if_pos c30, a91N, m1, cal_s]
        (try dsimp only)
        rw [if_pos rfl]
      obtain ⟨N1, b1, b2⟩ := c_addWt (F := F) (a := a) (v := nI w) (M := tS p q 0 M)
      have eW : cal (f_X7_readWeather_36 F p a (f_X7_readWeather_8 F p a (m3 + 1)) (nI wc) (tS p q 1 M)) (gW p) = some (nI q, tS p q 0 N1) := by
        unfold f_X7_readWeather_36
        rw [e1, cal_s]
        (try dsimp only)
        rw [b1, cal_s, ← tS_f (by omega) b2, fl_W, tS_f (by omega) b2, tS_f (by omega) b2]
      have fN : frT p a M (tS p q 0 N1) := frT_t (frT_t frT_s (frT_f (by omega) b2)) frT_s
      by_cases c0 : wc = 0
      · subst c0
        rw [f_X7_readWeather_8, tS_3, if_neg (show ¬ (1 : Int32) = 0 by decide), if_pos c30, if_pos (show nI 0 = 0 from rfl), eW]
        refine Or.inl ⟨q, _, hi, rfl, fN, fun N hN => ⟨pU P 16 (P 2), ?_⟩⟩
        (try dsimp only)
        rw [m1 N hN]
        unfold f_X11_readAll_205
        rw [sP_p, sP_wp, bnd_e, sP_p, pU_n (by omega), p6, if_neg (show ¬ 0 < nI 0 by decide)]
      · by_cases hlt : q < n
        · rw [f_X7_readWeather_8, tS_3, if_neg (show ¬ (1 : Int32) = 0 by decide), if_pos c30, if_neg (show ¬ nI wc = 0 from nI_ne0 (by omega) (by omega)), tS_2, tS_k (by decide) (by decide), hT.2.1, if_pos (nI_lt hlt (by omega)), eW]
          refine Or.inl ⟨q, _, hi, rfl, fN, fun N hN => ⟨pU P 16 (P 2), ?_⟩⟩
          (try dsimp only)
          rw [m1 N hN]
          unfold f_X11_readAll_205
          rw [sP_p, sP_wp, bnd_e, sP_p, pU_n (by omega), p6, if_pos (show 0 < nI wc from nI_lt (a := 0) (by omega) (by omega)), sP_3, sP_k (by decide), hN.2.1, if_neg (fun y => by have := (nI_eq (a := q) (b := n) (by omega) (by omega)).mp y; omega)]
        · rw [f_X7_readWeather_8, tS_3, if_neg (show ¬ (1 : Int32) = 0 by decide), if_pos c30, if_neg (show ¬ nI wc = 0 from nI_ne0 (by omega) (by omega)), tS_2, tS_k (by decide) (by decide), hT.2.1, if_neg (nI_nlt (by omega) (by omega))]
          exact OUT_c m1 (w_end hT hp hi hR hW z1 z9 s1 s4 (by omega) (by omega))
theorem w_start {zc sc : Nat} (hT : TX M p n tx) (hp : p + 1 < a) (hi : i ≤ n) (hR : RCv M a P) (hW : PW zc sc 0 P) (z1 : 1 ≤ zc) (z9 : zc ≤ 9) (s1 : 1 ≤ sc) (s4 : sc ≤ 4) (hF : 101 ≤ F) : OUT p a b n tx M (f_X7_readInto_92 F p a (tS p i 1 M)) (fun N => f_X11_readAll_138 F b (sP b i P N)) := by
  have p5 : P 5 = nI sc := hW.2.2.2.2.1
  have hl := c_let (F := F) (c := 119) (i := i) hT hi (by decide)
  have r0 : ∀ N, TR N b n tx → f_X11_readAll_138 F b (sP b i P N) = if i < n ∧ tx i = 119 then f_X11_readAll_158 F b F (sP b (i + 1) P N) else some (0, sP b i P N) := fun N hN => by
    have me := m_eat (F := F) (c := 119) (P := P) (i := i) hN hi (by decide)
    unfold f_X11_readAll_138
    rw [sP_p, p5, if_neg (show ¬ nI sc = 0 from nI_ne0 (by omega) (by omega)), show f_X11_eat F b (119 : Int32) (sP b i P N) = f_X11_eat F b (nI 119) (sP b i P N) from rfl, me, cal_s]
    dsimp only
    by_cases c : i < n ∧ tx i = 119
    · rw [if_pos c, if_pos c, if_neg (show ¬ (1 : Int32) = 0 by decide), if_pos c]
    · rw [if_neg c, if_neg c, if_pos rfl, if_neg c]
  rw [rI92]
  unfold f_X7_readWeather
  rw [show f_X7_readLetter F p (119 : Int32) (tS p i 1 M) = f_X7_readLetter F p (nI 119) (tS p i 1 M) from rfl, hl, cal_s]
  by_cases c : i < n ∧ tx i = 119
  · rw [if_pos c]
    refine OUT_c (fun N hN => by (try dsimp only); rw [r0 N hN, if_pos c]) (w_loop (j := 30) (wc := 0) (fu := F) (fu2 := F) hp z1 z9 s1 s4 hF (by omega) hT (by omega) hR hW (by omega) (by omega))
  · rw [if_neg c]
    obtain ⟨m, hm⟩ : ∃ m, F = m + 1 := ⟨F - 1, by omega⟩
    have hh : ∀ F', F' = F → cal (f_X7_readWeather_8 F p a F' 0 (tS p i 0 M)) (gW p) = some (nI i, tS p i 0 M) := fun F' h => by
      rw [h, hm]; exact fl_W
    rw [hh F rfl]
    exact Or.inl ⟨i, _, hi, rfl, frT_s, fun N hN => ⟨P, by (try dsimp only); rw [r0 N hN, if_neg c]⟩⟩
end
