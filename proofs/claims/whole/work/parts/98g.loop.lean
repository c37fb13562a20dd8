section
variable {F a b p n i K : Nat} {M N M' : zMi} {P Z : Pg} {tx : Nat → Nat} {v : Int32}
theorem ship_f (hT : TX M p n tx) (hp : p + 1 < a) (hi : i ≤ n) (hc : ¬ (i < n ∧ tx i = 115)) (hF : 101 ≤ F) : ∃ M', f_X7_readShip F p a (tS p i 1 M) = some (tS p i 0 M') ∧ frT p a M M' := by
  have eL : f_X7_readLetter F p 115 (tS p i 1 M) = some (tS p i 0 M) := by
    have := c_let (F := F) (c := 115) (i := i) hT hi (by decide)
    rw [if_neg hc] at this
    exact this
  have z3 : ∀ q (y1 y2 : Int32), f_X7_readNumber F p (3 : Int32) y1 y2 (tS p q 0 M) = some (0, tS p q 0 M) := fun q y1 y2 => c_num0 (dg := 3) (by decide) hF
  have z2 : ∀ q (y1 y2 : Int32), f_X7_readNumber F p (2 : Int32) y1 y2 (tS p q 0 M) = some (0, tS p q 0 M) := fun q y1 y2 => c_num0 (dg := 2) (by decide) hF
  have z1 : ∀ q (y1 y2 : Int32), f_X7_readNumber F p (1 : Int32) y1 y2 (tS p q 0 M) = some (0, tS p q 0 M) := fun q y1 y2 => c_num0 (dg := 1) (by decide) hF
  obtain ⟨N1, b1, b2⟩ := c_addSt (F := F) (a := a) (M := tS p i 0 M) (v0 := 0) (v1 := 0) (v2 := 0) (v3 := 0)
  refine ⟨N1, ?_, frT_t frT_s (frT_f (by omega) b2)⟩
  unfold f_X7_readShip
  simp only [eL, cal_s, z1, z2, z3, b1]
  rw [tS_f (by omega) b2]
theorem zone_f (hT : TX M p n tx) (hp : p + 1 < a) (hi : i ≤ n) (hc : ¬ (i < n ∧ tx i = 122)) (hF : 101 ≤ F) : ∃ M', f_X7_readZone F p a (tS p i 1 M) = some (tS p i 0 M') ∧ frT p a M M' := by
  have eL : f_X7_readLetter F p 122 (tS p i 1 M) = some (tS p i 0 M) := by
    have := c_let (F := F) (c := 122) (i := i) hT hi (by decide)
    rw [if_neg hc] at this
    exact this
  have z2 : ∀ q (y1 y2 : Int32), f_X7_readNumber F p (2 : Int32) y1 y2 (tS p q 0 M) = some (0, tS p q 0 M) := fun q y1 y2 => c_num0 (dg := 2) (by decide) hF
  have z1 : ∀ q (y1 y2 : Int32), f_X7_readNumber F p (1 : Int32) y1 y2 (tS p q 0 M) = some (0, tS p q 0 M) := fun q y1 y2 => c_num0 (dg := 1) (by decide) hF
  obtain ⟨N1, b1, b2⟩ := c_addZt (F := F) (a := a) (M := tS p i 0 M) (v0 := 0) (v1 := 0) (v2 := 0) (v3 := 0)
  refine ⟨N1, ?_, frT_t frT_s (frT_f (by omega) b2)⟩
  unfold f_X7_readZone
  simp only [eL, cal_s, z1, z2, b1]
  rw [tS_f (by omega) b2]
theorem s_loop {zc : Nat} (hp : p + 1 < a) (z1 : 1 ≤ zc) (z9 : zc ≤ 9) (hF : 101 ≤ F) {j : Nat} : ∀ {sc i fu fu2 : Nat} {M : zMi} {P : Pg}, sc + j = 4 → TX M p n tx → i ≤ n → RCv M a P → PW zc sc 0 P → j < fu → j < fu2 → OUT p a b n tx M (f_X7_readInto_56 F p a fu (nI sc) (tS p i 1 M)) (fun N => f_X11_readAll_101 F b fu2 (sP b i P N)) := by
  induction j with
  | zero =>
    intro sc i fu fu2 M P hj hT hi hR hW hf hf2
    obtain ⟨m, rfl⟩ : ∃ m, fu = m + 1 := ⟨fu - 1, by omega⟩
    obtain ⟨m2, rfl⟩ : ∃ m, fu2 = m + 1 := ⟨fu2 - 1, by omega⟩
    have e : sc = 4 := by omega
    subst e
    have p4 : P 4 = nI zc := hW.2.2.2.1
    have p5 : P 5 = nI 4 := hW.2.2.2.2.1
    rw [f_X7_readInto_56, tS_3, if_neg (show ¬ (1 : Int32) = 0 by decide), if_neg (show ¬ nI 4 < 4 by decide)]
    refine OUT_c (fun N hN => ?_) (w_start hT hp hi hR hW z1 z9 (by decide) (by decide) hF)
    rw [f_X11_readAll_101, sP_p, p4, p5, if_pos (show 0 < nI zc from nI_lt (a := 0) (by omega) (by omega)), if_neg (show ¬ nI 4 < 4 by decide)]
  | succ j ih =>
    intro sc i fu fu2 M P hj hT hi hR hW hf hf2
    obtain ⟨m, rfl⟩ : ∃ m, fu = m + 1 := ⟨fu - 1, by omega⟩
    obtain ⟨m2, rfl⟩ : ∃ m, fu2 = m + 1 := ⟨fu2 - 1, by omega⟩
    obtain ⟨m3, rfl⟩ : ∃ k, m = k + 1 := ⟨m - 1, by omega⟩
    have p4 : P 4 = nI zc := hW.2.2.2.1
    have p5 : P 5 = nI sc := hW.2.2.2.2.1
    have c4 : nI sc < 4 := nI_lt (b := 4) (by omega) (by decide)
    have r1 : ∀ N, TR N b n tx → f_X11_readAll_101 F b (m2 + 1) (sP b i P N) = if i < n ∧ tx i = 115 then cal (f_X11_readShip F b (sP b (i + 1) P N)) (fun r2 => if r2.1 = (0 : Int32) then some ((0 : Int32), r2.2) else f_X11_readAll_101 F b m2 r2.2) else f_X11_readAll_138 F b (sP b i P N) := fun N hN => by
      have me := m_eat (F := F) (c := 115) (P := P) (i := i) hN hi (by decide)
      rw [f_X11_readAll_101, sP_p, p4, p5, if_pos (show 0 < nI zc from nI_lt (a := 0) (by omega) (by omega)), if_pos c4, show f_X11_eat F b (115 : Int32) (sP b i P N) = f_X11_eat F b (nI 115) (sP b i P N) from rfl, me, cal_s]
      (try dsimp only)
      by_cases c : i < n ∧ tx i = 115
      · rw [if_pos c, if_pos c, if_neg (show ¬ (1 : Int32) = 0 by decide), if_pos c]
      · rw [if_neg c, if_neg c, if_pos rfl, if_neg c]
    by_cases c : i < n ∧ tx i = 115
    · have eC : f_X7_readInto_56 F p a (m3 + 1 + 1) (nI sc) (tS p i 1 M) = cal (f_X7_readShip F p a (tS p i 1 M)) (fun r => f_X7_readInto_56 F p a (m3 + 1) (nI (sc + 1)) r) := by
        have hn := c_nextIs (F := F) (c := 115) (i := i) (al := 1) hT hi (by decide)
        rw [if_pos c] at hn
        rw [f_X7_readInto_56, tS_3, if_neg (show ¬ (1 : Int32) = 0 by decide), if_pos c4, show f_X7_nextIs F p (115 : Int32) (tS p i 1 M) = f_X7_nextIs F p (nI 115) (tS p i 1 M) from rfl, hn, cal_s, if_neg (show ¬ (1 : Int32) = 0 by decide), ad1]
        split <;> rfl
      rw [eC]
      obtain ⟨i', hi', ⟨M', e1, f1, r2⟩ | ⟨M', l, f, t, s, ⟨l9, f9⟩, e1, f1, hR', r2⟩⟩ := ship_j (b := b) hT hp c.1 c.2 p5 (by omega) (fun k k4 k8 => hW.2.2.2.2.2.2.2.2.2.2.2 sc (by omega) k k4 k8) hR hF
      · rw [e1, cal_s, fl_56 hF]
        refine Or.inl ⟨i', _, hi', rfl, frT_t f1 frT_s, fun N hN => ?_⟩
        obtain ⟨P', e⟩ := r2 N hN
        refine ⟨P', ?_⟩
        (try dsimp only)
        rw [r1 N hN, if_pos c, e, cal_s, if_pos rfl]
      · rw [e1, cal_s]
        refine OUT_t f1 (OUT_c (fun N hN => ?_) (ih (sc := sc + 1) (fu := m3 + 1) (fu2 := m2) (by omega) (TX_f hT hp f1) hi' hR' (PW_h hW (by omega) l9 f9) (by omega) (by omega)))
        rw [r1 N hN, if_pos c, r2 N hN, cal_s, if_neg (show ¬ (1 : Int32) = 0 by decide)]
    · by_cases s0 : sc = 0
      · subst s0
        obtain ⟨M', e1, f1⟩ := ship_f (F := F) hT hp hi c hF
        rw [f_X7_readInto_56, tS_3, if_neg (show ¬ (1 : Int32) = 0 by decide), if_pos c4, if_pos (show nI 0 = 0 from rfl), e1, cal_s, fl_56 hF]
        refine Or.inl ⟨i, _, hi, rfl, frT_t f1 frT_s, fun N hN => ⟨P, ?_⟩⟩
        (try dsimp only)
        rw [r1 N hN, if_neg c]
        unfold f_X11_readAll_138
        rw [sP_p, p5, if_pos (show nI 0 = 0 from rfl)]
      · have hn := c_nextIs (F := F) (c := 115) (i := i) (al := 1) hT hi (by decide)
        rw [if_neg c] at hn
        rw [f_X7_readInto_56, tS_3, if_neg (show ¬ (1 : Int32) = 0 by decide), if_pos c4, if_neg (show ¬ nI sc = 0 from nI_ne0 (by omega) (by omega)), show f_X7_nextIs F p (115 : Int32) (tS p i 1 M) = f_X7_nextIs F p (nI 115) (tS p i 1 M) from rfl, hn, cal_s, if_pos rfl]
        refine OUT_c (fun N hN => ?_) (w_start hT hp hi hR hW z1 z9 (by omega) (by omega) hF)
        rw [r1 N hN, if_neg c]
theorem z_loop (hp : p + 1 < a) (hF : 101 ≤ F) {j : Nat} : ∀ {zc i fu fu2 : Nat} {M : zMi} {P : Pg}, zc + j = 9 → TX M p n tx → i ≤ n → RCv M a P → PW zc 0 0 P → j < fu → j < fu2 → OUT p a b n tx M (f_X7_readInto_17 F p a fu (nI zc) (tS p i 1 M)) (fun N => f_X11_readAll_72 F b fu2 (sP b i P N)) := by
  induction j with
  | zero =>
    intro zc i fu fu2 M P hj hT hi hR hW hf hf2
    obtain ⟨m, rfl⟩ : ∃ m, fu = m + 1 := ⟨fu - 1, by omega⟩
    obtain ⟨m2, rfl⟩ : ∃ m, fu2 = m + 1 := ⟨fu2 - 1, by omega⟩
    have e : zc = 9 := by omega
    subst e
    have p4 : P 4 = nI 9 := hW.2.2.2.1
    rw [f_X7_readInto_17, tS_3, if_neg (show ¬ (1 : Int32) = 0 by decide), if_neg (show ¬ nI 9 < 9 by decide)]
    refine OUT_c (fun N hN => ?_) (s_loop (j := 4) (sc := 0) (fu := F) (fu2 := F) hp (by decide) (by decide) hF (by omega) hT hi hR hW (by omega) (by omega))
    rw [f_X11_readAll_72, sP_p, p4, if_neg (show ¬ nI 9 < 9 by decide)]
  | succ j ih =>
    intro zc i fu fu2 M P hj hT hi hR hW hf hf2
    obtain ⟨m, rfl⟩ : ∃ m, fu = m + 1 := ⟨fu - 1, by omega⟩
    obtain ⟨m2, rfl⟩ : ∃ m, fu2 = m + 1 := ⟨fu2 - 1, by omega⟩
    obtain ⟨m3, rfl⟩ : ∃ k, m = k + 1 := ⟨m - 1, by omega⟩
    have p4 : P 4 = nI zc := hW.2.2.2.1
    have p5 : P 5 = nI 0 := hW.2.2.2.2.1
    have c9 : nI zc < 9 := nI_lt (b := 9) (by omega) (by decide)
    have r1 : ∀ N, TR N b n tx → f_X11_readAll_72 F b (m2 + 1) (sP b i P N) = if i < n ∧ tx i = 122 then cal (f_X11_readZone F b (sP b (i + 1) P N)) (fun r2 => if r2.1 = (0 : Int32) then some ((0 : Int32), r2.2) else f_X11_readAll_72 F b m2 r2.2) else f_X11_readAll_101 F b F (sP b i P N) := fun N hN => by
      have me := m_eat (F := F) (c := 122) (P := P) (i := i) hN hi (by decide)
      rw [f_X11_readAll_72, sP_p, p4, if_pos c9, show f_X11_eat F b (122 : Int32) (sP b i P N) = f_X11_eat F b (nI 122) (sP b i P N) from rfl, me, cal_s]
      (try dsimp only)
      by_cases c : i < n ∧ tx i = 122
      · rw [if_pos c, if_pos c, if_neg (show ¬ (1 : Int32) = 0 by decide), if_pos c]
      · rw [if_neg c, if_neg c, if_pos rfl, if_neg c]
    by_cases c : i < n ∧ tx i = 122
    · have eC : f_X7_readInto_17 F p a (m3 + 1 + 1) (nI zc) (tS p i 1 M) = cal (f_X7_readZone F p a (tS p i 1 M)) (fun r => f_X7_readInto_17 F p a (m3 + 1) (nI (zc + 1)) r) := by
        have hn := c_nextIs (F := F) (c := 122) (i := i) (al := 1) hT hi (by decide)
        rw [if_pos c] at hn
        rw [f_X7_readInto_17, tS_3, if_neg (show ¬ (1 : Int32) = 0 by decide), if_pos c9, show f_X7_nextIs F p (122 : Int32) (tS p i 1 M) = f_X7_nextIs F p (nI 122) (tS p i 1 M) from rfl, hn, cal_s, if_neg (show ¬ (1 : Int32) = 0 by decide), ad1]
        split <;> rfl
      rw [eC]
      obtain ⟨i', hi', ⟨M', e1, f1, r2⟩ | ⟨M', l, f, t, s, ⟨l1, l9, f9, t9, s9⟩, e1, f1, hR', r2⟩⟩ := zone_j (b := b) hT hp c.1 c.2 p4 (by omega) hR hF
      · rw [e1, cal_s, fl_17 hF]
        refine Or.inl ⟨i', _, hi', rfl, frT_t f1 frT_s, fun N hN => ?_⟩
        obtain ⟨P', e⟩ := r2 N hN
        refine ⟨P', ?_⟩
        (try dsimp only)
        rw [r1 N hN, if_pos c, e, cal_s, if_pos rfl]
      · rw [e1, cal_s]
        refine OUT_t f1 (OUT_c (fun N hN => ?_) (ih (zc := zc + 1) (fu := m3 + 1) (fu2 := m2) (by omega) (TX_f hT hp f1) hi' hR' (PW_z hW (by omega) l1 l9 f9 t9 s9) (by omega) (by omega)))
        rw [r1 N hN, if_pos c, r2 N hN, cal_s, if_neg (show ¬ (1 : Int32) = 0 by decide)]
    · by_cases s0 : zc = 0
      · subst s0
        obtain ⟨M', e1, f1⟩ := zone_f (F := F) hT hp hi c hF
        obtain ⟨mf, hmf⟩ : ∃ m, F = m + 1 := ⟨F - 1, by omega⟩
        have hh : ∀ N, ∀ F', F' = F → f_X11_readAll_101 F b F' (sP b i P N) = some (0, sP b i P N) := fun N F' hF' => by
          rw [hF', show f_X11_readAll_101 F b F = f_X11_readAll_101 F b (mf + 1) from by rw [← hmf], f_X11_readAll_101, sP_p, p4, if_neg (show ¬ 0 < nI 0 by decide)]
          unfold f_X11_readAll_138
          rw [sP_p, p5, if_pos (show nI 0 = 0 from rfl)]
        rw [f_X7_readInto_17, tS_3, if_neg (show ¬ (1 : Int32) = 0 by decide), if_pos c9, if_pos (show nI 0 = 0 from rfl), e1, cal_s, fl_17 hF]
        refine Or.inl ⟨i, _, hi, rfl, frT_t f1 frT_s, fun N hN => ⟨P, ?_⟩⟩
        (try dsimp only)
        rw [r1 N hN, if_neg c]
        exact hh N F rfl
      · have hn := c_nextIs (F := F) (c := 122) (i := i) (al := 1) hT hi (by decide)
        rw [if_neg c] at hn
        rw [f_X7_readInto_17, tS_3, if_neg (show ¬ (1 : Int32) = 0 by decide), if_pos c9, if_neg (show ¬ nI zc = 0 from nI_ne0 (by omega) (by omega)), show f_X7_nextIs F p (122 : Int32) (tS p i 1 M) = f_X7_nextIs F p (nI 122) (tS p i 1 M) from rfl, hn, cal_s, if_pos rfl]
        refine OUT_c (fun N hN => ?_) (s_loop (j := 4) (sc := 0) (fu := F) (fu2 := F) hp (by omega) (by omega) hF (by omega) hT hi hR hW (by omega) (by omega))
        rw [r1 N hN, if_neg c]
theorem PW_0 {t d e : Nat} (hZ : ∀ k, k < 121 → Z k = 0) (t1 : 1 ≤ t) (t3 : t ≤ 3) (d1 : 1 ≤ d) (d3 : d ≤ 3) (e9 : e ≤ 9999) : PW 0 0 0 (pU (pU (pU Z 0 (nI t)) 1 (nI d)) 2 (nI e)) := by
  have o : ∀ k, 2 < k → k < 121 → pU (pU (pU Z 0 (nI t)) 1 (nI d)) 2 (nI e) k = 0 := fun k h1 h2 => by
    rw [pU_n (by omega), pU_n (by omega), pU_n (by omega)]; exact hZ k h2
  have x0 : pU (pU (pU Z 0 (nI t)) 1 (nI d)) 2 (nI e) 0 = nI t := by rw [pU_n (by omega), pU_n (by omega), pU_s]
  have x1 : pU (pU (pU Z 0 (nI t)) 1 (nI d)) 2 (nI e) 1 = nI d := by rw [pU_n (by omega), pU_s]
  have x2 : pU (pU (pU Z 0 (nI t)) 1 (nI d)) 2 (nI e) 2 = nI e := pU_s
  refine ⟨?_, ?_, ?_, o 4 (by decide) (by decide), o 5 (by decide) (by decide), o 6 (by decide) (by decide), o 3 (by decide) (by decide), fun k k1 k2 => o k (by omega) (by omega), fun z _ hz => by omega, fun s _ hs => by omega, fun s hs _ k hk => o _ (by omega) (by omega), fun s hs k k4 k8 => o _ (by omega) (by omega)⟩
  · rw [x0]
    have : t = 1 ∨ t = 2 ∨ t = 3 := by omega
    rcases this with rfl | rfl | rfl <;> decide
  · rw [x1]; exact ⟨nI_le (a := 1) d1 (by omega), (nb d3 (by decide)).2⟩
  · rw [x2]; exact nb e9 (by decide)
theorem head_j (hT : TX M p n tx) (hp : p + 1 < a) (hZ : ∀ k, k < 121 → Z k = 0) (hF : 101 ≤ F) : OUT p a b n tx M (cal (f_X7_readHead F p a (tS p 0 1 M)) (fun r3 => f_X7_readInto_17 F p a F 0 r3)) (fun N => hdB F b (sP b 0 Z N)) := by
  have hl := c_let (F := F) (c := 67) (i := 0) hT (by omega) (by decide)
  have z4 : ∀ q (y1 y2 : Int32), f_X7_readNumber F p (4 : Int32) y1 y2 (tS p q 0 M) = some (0, tS p q 0 M) := fun q y1 y2 => c_num0 (dg := 4) (by decide) hF
  have z1 : ∀ q (y1 y2 : Int32), f_X7_readNumber F p (1 : Int32) y1 y2 (tS p q 0 M) = some (0, tS p q 0 M) := fun q y1 y2 => c_num0 (dg := 1) (by decide) hF
  have d10 : ((1 : Int32) = 0) = False := eq_false (by decide)
  have fl : ∀ q M1, f_X7_readInto_17 F p a F 0 (tS p q 0 M1) = some (nI q, tS p q 0 M1) := fun q M1 => by
    obtain ⟨m, hm⟩ : ∃ m, F = m + 1 := ⟨F - 1, by omega⟩
    have := fl_17 (F := F) (p := p) (a := a) (i := q) (M := M1) (v := 0) (fu := m) hF
    rw [← hm] at this
    exact this
  have tail : ∀ q (A1 A2 A3 : Int32), ∃ M', cal (cal (f_X5_begin F a A1 A2 A3 (tS p q 0 M)) (fun r5 => some r5)) (fun r3 => f_X7_readInto_17 F p a F 0 r3) = some (nI q, M') ∧ frT p a M M' := fun q A1 A2 A3 => by
    obtain ⟨N1, b1, b2, -⟩ := c_beginX (F := F) (a := a) (M := tS p q 0 M) (t := A1) (d := A2) (dep := A3) (by omega)
    refine ⟨tS p q 0 N1, ?_, frT_t (frT_t frT_s (frT_f (by omega) b2)) frT_s⟩
    rw [b1, cal_s, cal_s, ← tS_f (by omega) b2, fl, tS_f (by omega) b2, tS_f (by omega) b2]
  have me : ∀ N, TR N b n tx → f_X11_eat F b 67 (sP b 0 Z N) = some (if 0 < n ∧ tx 0 = 67 then 1 else 0, sP b (if 0 < n ∧ tx 0 = 67 then 0 + 1 else 0) Z N) := fun N hN => m_eat (F := F) (c := 67) (P := Z) (i := 0) hN (by omega) (by decide)
  have hl' : f_X7_readLetter F p 67 (tS p 0 1 M) = some (if 0 < n ∧ tx 0 = 67 then tS p (0 + 1) 1 M else tS p 0 0 M) := hl
  unfold f_X7_readHead hdB
  by_cases c : 0 < n ∧ tx 0 = 67
  · simp only [if_pos c] at hl' me
    simp only [hl', cal_s]
    rcases hr1 : rdN n tx 1 3 1 0 (0 + 1) with ⟨ok1, t, q1⟩
    have q1n := rd_f hr1 (by omega)
    cases ok1 with
    | false =>
      have e1 : f_X7_readNumber F p 1 1 3 (tS p (0 + 1) 1 M) = some (nI t, tS p q1 0 M) := c_nu0 (dg := 1) (lo := 1) (hi := 3) hT hr1 (by decide) (by decide) (by decide) (by omega) hF
      obtain ⟨M', t1, t2⟩ := tail q1 (nI t) 0 0
      refine Or.inl ⟨q1, M', q1n, ?_, t2, fun N hN => ⟨Z, ?_⟩⟩
      · simp only [e1, cal_s, z1, z4]; exact t1
      · have m1 : f_X11_put F b 0 1 1 3 (sP b (0 + 1) Z N) = some (0, sP b q1 Z N) := m_pu0 (at' := 0) (dg := 1) (lo := 1) (hi := 3) hN hr1 (by omega) (by decide) (by decide) (by decide) (by decide) (by omega) hF
        simp only [me N hN, cal_s, d10, if_false, m1, ↓reduceIte]
    | true =>
      have e1 : f_X7_readNumber F p 1 1 3 (tS p (0 + 1) 1 M) = some (nI t, tS p q1 1 M) := c_nu1 (dg := 1) (lo := 1) (hi := 3) hT hr1 (by decide) (by decide) (by decide) (by omega) hF
      have m1 : ∀ N, TR N b n tx → f_X11_put F b 0 1 1 3 (sP b (0 + 1) Z N) = some (1, sP b q1 (pU Z 0 (nI t)) N) := fun N hN => m_pu1 (at' := 0) (dg := 1) (lo := 1) (hi := 3) hN hr1 (by omega) (by decide) (by decide) (by decide) (by decide) (by omega) hF
      obtain ⟨t1, t3⟩ := rd_b hr1 (by decide)
      rcases hr2 : rdN n tx 1 3 1 0 q1 with ⟨ok2, d, q2⟩
      have q2n := rd_f hr2 q1n
      cases ok2 with
      | false =>
        have e2 : f_X7_readNumber F p 1 1 3 (tS p q1 1 M) = some (nI d, tS p q2 0 M) := c_nu0 (dg := 1) (lo := 1) (hi := 3) hT hr2 (by decide) (by decide) (by decide) q1n hF
        obtain ⟨M', y1, y2⟩ := tail q2 (nI t) (nI d) 0
        refine Or.inl ⟨q2, M', q2n, ?_, y2, fun N hN => ⟨pU Z 0 (nI t), ?_⟩⟩
        · simp only [e1, e2, cal_s, z1, z4]; exact y1
        · have m2 : f_X11_put F b 1 1 1 3 (sP b q1 (pU Z 0 (nI t)) N) = some (0, sP b q2 (pU Z 0 (nI t)) N) := m_pu0 (at' := 1) (dg := 1) (lo := 1) (hi := 3) hN hr2 (by omega) (by decide) (by decide) (by decide) (by decide) q1n hF
          simp only [me N hN, cal_s, d10, if_false, m1 N hN, m2, ↓reduceIte]
      | true =>
        have e2 : f_X7_readNumber F p 1 1 3 (tS p q1 1 M) = some (nI d, tS p q2 1 M) := c_nu1 (dg := 1) (lo := 1) (hi := 3) hT hr2 (by decide) (by decide) (by decide) q1n hF
        have m2 : ∀ N, TR N b n tx → f_X11_put F b 1 1 1 3 (sP b q1 (pU Z 0 (nI t)) N) = some (1, sP b q2 (pU (pU Z 0 (nI t)) 1 (nI d)) N) := fun N hN => m_pu1 (at' := 1) (dg := 1) (lo := 1) (hi := 3) hN hr2 (by omega) (by decide) (by decide) (by decide) (by decide) q1n hF
        obtain ⟨d1, d3⟩ := rd_b hr2 (by decide)
        rcases hr3 : rdN n tx 0 9999 4 0 q2 with ⟨ok3, e, q3⟩
        have q3n := rd_f hr3 q2n
        cases ok3 with
        | false =>
          have e3 : f_X7_readNumber F p 4 0 9999 (tS p q2 1 M) = some (nI e, tS p q3 0 M) := c_nu0 (dg := 4) (lo := 0) (hi := 9999) hT hr3 (by decide) (by decide) (by decide) q2n hF
          obtain ⟨M', y1, y2⟩ := tail q3 (nI t) (nI d) (nI e)
          refine Or.inl ⟨q3, M', q3n, ?_, y2, fun N hN => ⟨pU (pU Z 0 (nI t)) 1 (nI d), ?_⟩⟩
          · simp only [e1, e2, e3, cal_s]; exact y1
          · have m3 : f_X11_put F b 2 4 0 9999 (sP b q2 (pU (pU Z 0 (nI t)) 1 (nI d)) N) = some (0, sP b q3 (pU (pU Z 0 (nI t)) 1 (nI d)) N) := m_pu0 (at' := 2) (dg := 4) (lo := 0) (hi := 9999) hN hr3 (by omega) (by decide) (by decide) (by decide) (by decide) q2n hF
            simp only [me N hN, cal_s, d10, if_false, m1 N hN, m2 N hN, m3, ↓reduceIte]
        | true =>
          have e3 : f_X7_readNumber F p 4 0 9999 (tS p q2 1 M) = some (nI e, tS p q3 1 M) := c_nu1 (dg := 4) (lo := 0) (hi := 9999) hT hr3 (by decide) (by decide) (by decide) q2n hF
          have m3 : ∀ N, TR N b n tx → f_X11_put F b 2 4 0 9999 (sP b q2 (pU (pU Z 0 (nI t)) 1 (nI d)) N) = some (1, sP b q3 (pU (pU (pU Z 0 (nI t)) 1 (nI d)) 2 (nI e)) N) := fun N hN => m_pu1 (at' := 2) (dg := 4) (lo := 0) (hi := 9999) hN hr3 (by omega) (by decide) (by decide) (by decide) (by decide) q2n hF
          obtain ⟨-, e9⟩ := rd_b hr3 (by decide)
          obtain ⟨N1, b1, b2, b3⟩ := c_beginX (F := F) (a := a) (M := tS p q3 1 M) (t := nI t) (d := nI d) (dep := nI e) (by omega)
          have fN : frT p a M N1 := frT_t frT_s (frT_f (by omega) b2)
          have hR1 : RCv N1 a (pU (pU (pU Z 0 (nI t)) 1 (nI d)) 2 (nI e)) := by
            refine b3 _ ?_ ?_ ?_ ?_ (fun k k0 k1 k2 k16 hk => ?_)
            · rw [pU_n (by omega), pU_n (by omega), pU_n (by omega), pU_s]
            · rw [pU_n (by omega), pU_n (by omega), pU_s]
            · rw [pU_n (by omega), pU_s]
            · rw [pU_s, pU_s]
            · rw [pU_n k16, pU_n k2, pU_n k1, pU_n k0]; exact hZ k hk
          have eC : f_X7_readInto_17 F p a F 0 N1 = f_X7_readInto_17 F p a F (nI 0) (tS p q3 1 N1) := by rw [tS_f (by omega) b2]; rfl
          simp only [e1, e2, e3, cal_s, b1]
          rw [eC]
          refine OUT_t fN (OUT_c (fun N hN => ?_) (z_loop (j := 9) (zc := 0) (fu := F) (fu2 := F) hp hF (by omega) (TX_f hT hp fN) q3n hR1 (PW_0 hZ t1 t3 d1 d3 e9) (by omega) (by omega)))
          simp only [me N hN, cal_s, d10, if_false, m1 N hN, m2 N hN, m3 N hN]
  · simp only [if_neg c] at hl' me
    obtain ⟨M', t1, t2⟩ := tail 0 0 0 0
    refine Or.inl ⟨0, M', by omega, ?_, t2, fun N hN => ⟨Z, ?_⟩⟩
    · simp only [hl', cal_s, z1, z4]; exact t1
    · simp only [me N hN, cal_s, ↓reduceIte]
theorem m_zero {s j : Nat} : ∀ {i fu : Nat} {P : Pg}, i + j = 121 → j < fu → f_X11_readAll_7 F b fu (nI i) (sP b s P N) = hdB F b (sP b s (fun k => if i ≤ k ∧ k < 121 then 0 else P k) N) := by
  induction j with
  | zero =>
    intro i fu P hi hf
    obtain ⟨m, rfl⟩ : ∃ m, fu = m + 1 := ⟨fu - 1, by omega⟩
    have e : i = 121 := by omega
    subst e
    have ep : (fun k => if 121 ≤ k ∧ k < 121 then 0 else P k) = P := by
      funext k; rw [if_neg (by omega)]
    rw [f_X11_readAll_7, if_neg (show ¬ nI 121 < 121 by decide), ep]
    rfl
  | succ j ih =>
    intro i fu P hi hf
    obtain ⟨m, rfl⟩ : ∃ m, fu = m + 1 := ⟨fu - 1, by omega⟩
    rw [f_X11_readAll_7, if_pos (show nI i < 121 from nI_lt (b := 121) (by omega) (by decide)), inbN (by omega) (by decide), grd_t, ixN (by omega), sP_wp, bnd_e, ad1, ih (by omega) (by omega)]
    congr 2
    funext k
    unfold pU
    by_cases c : i + 1 ≤ k ∧ k < 121
    · rw [if_pos c, if_pos (by omega)]
    · rw [if_neg c]
      by_cases c2 : k = i
      · rw [if_pos c2, if_pos (by omega)]
      · rw [if_neg c2, if_neg (by omega)]
theorem m_readAll (hF : 1573 < F) : f_X11_readAll F b M = hdB F b (sP b 0 (fun k => if 0 ≤ k ∧ k < 121 then 0 else M (b + 2) k) M) := by
  have e : wI M b 3 0 = sP b 0 (M (b + 2)) M := by
    unfold sP
    rw [show (0 : Int32) = nI 0 from rfl]
    have : wI M b 3 (nI 0) (b + 2) = M (b + 2) := wI_ne (by omega)
    rw [← this]; exact pR_i.symm
  unfold f_X11_readAll
  rw [bnd_e, e, show f_X11_readAll_7 F b F (0 : Int32) (sP b 0 (M (b + 2)) M) = f_X11_readAll_7 F b F (nI 0) (sP b 0 (M (b + 2)) M) from rfl, m_zero (j := 121) (by omega) (by omega)]
theorem c_readInto : f_X7_readInto F p a M = cal (f_X7_readHead F p a (tS p 0 1 M)) (fun r3 => f_X7_readInto_17 F p a F 0 r3) := rfl
end
