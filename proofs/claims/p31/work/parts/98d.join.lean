section
variable {F a b p n i K : Nat} {M N M' : zMi} {P : Pg} {tx : Nat → Nat}
def RCv (M : zMi) (a : Nat) (P : Pg) : Prop := RC M a (pU P 16 (P 2))
theorem v_u {j : Nat} {v : Int32} (h2 : j ≠ 2) (h16 : j ≠ 16) : pU (pU P j v) 16 ((pU P j v) 2) = pU (pU P 16 (P 2)) j v := by
  rw [pU_n (by omega)]; exact pU_c h16
noncomputable def zP (P : Pg) (zc l f t s : Nat) : Pg := pU (pU (pU (pU (pU P (23 + 4 * zc) (nI l)) (23 + 4 * zc + 1) (nI f)) (23 + 4 * zc + 2) (nI t)) (23 + 4 * zc + 3) (nI s)) 4 (nI (zc + 1))
noncomputable def hP (P : Pg) (sc c v w r : Nat) : Pg := pU (pU (pU (pU (pU P (59 + 8 * sc) (nI c)) (59 + 8 * sc + 1) (nI v)) (59 + 8 * sc + 2) (nI w)) (59 + 8 * sc + 3) (nI r)) 5 (nI (sc + 1))
noncomputable def uP (P : Pg) (wc v : Nat) : Pg := pU (pU P (91 + wc) (nI v)) 6 (nI (wc + 1))
theorem v_z {zc l f t s : Nat} : pU (zP P zc l f t s) 16 (zP P zc l f t s 2) = pU (pU (pU (pU (pU (pU P 16 (P 2)) (23 + 4 * zc) (nI l)) (23 + 4 * zc + 1) (nI f)) (23 + 4 * zc + 2) (nI t)) (23 + 4 * zc + 3) (nI s)) 4 (nI (zc + 1)) := by
  unfold zP
  rw [v_u (by omega) (by omega), v_u (by omega) (by omega), v_u (by omega) (by omega), v_u (by omega) (by omega), v_u (by omega) (by omega)]
theorem v_h {sc c v w r : Nat} : pU (hP P sc c v w r) 16 (hP P sc c v w r 2) = pU (pU (pU (pU (pU (pU P 16 (P 2)) (59 + 8 * sc) (nI c)) (59 + 8 * sc + 1) (nI v)) (59 + 8 * sc + 2) (nI w)) (59 + 8 * sc + 3) (nI r)) 5 (nI (sc + 1)) := by
  unfold hP
  rw [v_u (by omega) (by omega), v_u (by omega) (by omega), v_u (by omega) (by omega), v_u (by omega) (by omega), v_u (by omega) (by omega)]
theorem v_w {wc v : Nat} : pU (uP P wc v) 16 (uP P wc v 2) = pU (pU (pU P 16 (P 2)) (91 + wc) (nI v)) 6 (nI (wc + 1)) := by
  unfold uP
  rw [v_u (by omega) (by omega), v_u (by omega) (by omega)]
/-- what a page that is being read holds -/
def PW (zc sc wc : Nat) (P : Pg) : Prop := (P 0 = 1 ∨ P 0 = 2 ∨ P 0 = 3) ∧ (1 ≤ P 1 ∧ P 1 ≤ 3) ∧ (0 ≤ P 2 ∧ P 2 ≤ 9999) ∧ P 4 = nI zc ∧ P 5 = nI sc ∧ P 6 = nI wc ∧ P 3 = 0 ∧ (∀ k, 7 ≤ k → k ≤ 22 → P k = 0) ∧ (∀ z, z < 9 → z < zc → wZn P z) ∧ (∀ s, s < 4 → s < sc → (0 ≤ P (59 + 8 * s) ∧ P (59 + 8 * s) ≤ 999) ∧ (0 ≤ P (59 + 8 * s + 1) ∧ P (59 + 8 * s + 1) ≤ 20)) ∧ (∀ s, s < 4 → sc ≤ s → ∀ k, k < 4 → P (59 + 8 * s + k) = 0) ∧ (∀ s, s < 4 → ∀ k, 4 ≤ k → k < 8 → P (59 + 8 * s + k) = 0)
theorem nb {k m : Nat} (h : k ≤ m) (hm : m < 2147483648) : 0 ≤ nI k ∧ nI k ≤ nI m := ⟨nI_pos' (by omega), nI_le h hm⟩
theorem PW_z {zc sc wc l f t s : Nat} (h : PW zc sc wc P) (hz : zc < 9) (l1 : 1 ≤ l) (l9 : l ≤ 99) (f9 : f ≤ 99) (t9 : t ≤ 99) (s9 : s ≤ 9) : PW (zc + 1) sc wc (zP P zc l f t s) := by
  obtain ⟨p0, p1, p2, p4, p5, p6, p3, p7, pz, ps, pn, p8⟩ := h
  have o : ∀ k, k ≠ 4 → (k < 23 + 4 * zc ∨ 23 + 4 * zc + 3 < k) → zP P zc l f t s k = P k := fun k k4 hk => by
    unfold zP
    rw [pU_n k4, pU_n (by omega), pU_n (by omega), pU_n (by omega), pU_n (by omega)]
  refine ⟨by rw [o 0 (by omega) (by omega)]; exact p0, by rw [o 1 (by omega) (by omega)]; exact p1, by rw [o 2 (by omega) (by omega)]; exact p2, by unfold zP; exact pU_s, by rw [o 5 (by omega) (by omega)]; exact p5, by rw [o 6 (by omega) (by omega)]; exact p6, by rw [o 3 (by omega) (by omega)]; exact p3, fun k k1 k2 => by rw [o k (by omega) (by omega)]; exact p7 k k1 k2, fun z z9 hzz => ?_, fun s hs hss => by rw [o _ (by omega) (by omega), o _ (by omega) (by omega)]; exact ps s hs hss, fun s hs hss k hk => by rw [o _ (by omega) (by omega)]; exact pn s hs hss k hk, fun s hs k k4 k8 => by rw [o _ (by omega) (by omega)]; exact p8 s hs k k4 k8⟩
  by_cases e : z = zc
  · subst e
    have x0 : zP P z l f t s (23 + 4 * z) = nI l := by unfold zP; rw [pU_n (by omega), pU_n (by omega), pU_n (by omega), pU_n (by omega), pU_s]
    have x1 : zP P z l f t s (23 + 4 * z + 1) = nI f := by unfold zP; rw [pU_n (by omega), pU_n (by omega), pU_n (by omega), pU_s]
    have x2 : zP P z l f t s (23 + 4 * z + 2) = nI t := by unfold zP; rw [pU_n (by omega), pU_n (by omega), pU_s]
    have x3 : zP P z l f t s (23 + 4 * z + 3) = nI s := by unfold zP; rw [pU_n (by omega), pU_s]
    unfold wZn
    rw [x0, x1, x2, x3]
    exact ⟨⟨nI_le (a := 1) l1 (by omega), (nb l9 (by decide)).2⟩, nb f9 (by decide), ⟨nI_pos' (by omega), nI_le (b := 999) (by omega) (by decide)⟩, nb s9 (by decide)⟩
  · exact wZn_c (fun k hk => o _ (by omega) (by omega)) (pz z z9 (by omega))
theorem PW_h {zc sc wc c v w r : Nat} (h : PW zc sc wc P) (hs : sc < 4) (c9 : c ≤ 999) (v9 : v ≤ 20) : PW zc (sc + 1) wc (hP P sc c v w r) := by
  obtain ⟨p0, p1, p2, p4, p5, p6, p3, p7, pz, ps, pn, p8⟩ := h
  have o : ∀ k, k ≠ 5 → (k < 59 + 8 * sc ∨ 59 + 8 * sc + 3 < k) → hP P sc c v w r k = P k := fun k k4 hk => by
    unfold hP
    rw [pU_n k4, pU_n (by omega), pU_n (by omega), pU_n (by omega), pU_n (by omega)]
  refine ⟨by rw [o 0 (by omega) (by omega)]; exact p0, by rw [o 1 (by omega) (by omega)]; exact p1, by rw [o 2 (by omega) (by omega)]; exact p2, by rw [o 4 (by omega) (by omega)]; exact p4, by unfold hP; exact pU_s, by rw [o 6 (by omega) (by omega)]; exact p6, by rw [o 3 (by omega) (by omega)]; exact p3, fun k k1 k2 => by rw [o k (by omega) (by omega)]; exact p7 k k1 k2, fun z z9 hzz => wZn_c (fun k hk => o _ (by omega) (by omega)) (pz z z9 hzz), fun s hs hss => ?_, fun s hs hss k hk => by rw [o _ (by omega) (by omega)]; exact pn s hs (by omega) k hk, fun s hs k k4 k8 => by rw [o _ (by omega) (by omega)]; exact p8 s hs k k4 k8⟩
  by_cases e : s = sc
  · subst e
    have x0 : hP P s c v w r (59 + 8 * s) = nI c := by unfold hP; rw [pU_n (by omega), pU_n (by omega), pU_n (by omega), pU_n (by omega), pU_s]
    have x1 : hP P s c v w r (59 + 8 * s + 1) = nI v := by unfold hP; rw [pU_n (by omega), pU_n (by omega), pU_n (by omega), pU_s]
    rw [x0, x1]
    exact ⟨nb c9 (by decide), nb v9 (by decide)⟩
  · rw [o _ (by omega) (by omega), o _ (by omega) (by omega)]; exact ps s hs (by omega)
theorem PW_w {zc sc wc v : Nat} (h : PW zc sc wc P) (hw : wc < 30) : PW zc sc (wc + 1) (uP P wc v) := by
  obtain ⟨p0, p1, p2, p4, p5, p6, p3, p7, pz, ps, pn, p8⟩ := h
  have o : ∀ k, k ≠ 6 → k < 91 → uP P wc v k = P k := fun k k4 hk => by
    unfold uP
    rw [pU_n k4, pU_n (by omega)]
  exact ⟨by rw [o 0 (by omega) (by omega)]; exact p0, by rw [o 1 (by omega) (by omega)]; exact p1, by rw [o 2 (by omega) (by omega)]; exact p2, by rw [o 4 (by omega) (by omega)]; exact p4, by rw [o 5 (by omega) (by omega)]; exact p5, by unfold uP; exact pU_s, by rw [o 3 (by omega) (by omega)]; exact p3, fun k k1 k2 => by rw [o k (by omega) (by omega)]; exact p7 k k1 k2, fun z z9 hzz => wZn_c (fun k hk => o _ (by omega) (by omega)) (pz z z9 hzz), fun s hs hss => by rw [o _ (by omega) (by omega), o _ (by omega) (by omega)]; exact ps s hs hss, fun s hs hss k hk => by rw [o _ (by omega) (by omega)]; exact pn s hs hss k hk, fun s hs k k4 k8 => by rw [o _ (by omega) (by omega)]; exact p8 s hs k k4 k8⟩
theorem PW_WF {zc sc wc : Nat} (h : PW zc sc wc P) (z1 : 1 ≤ zc) (z9 : zc ≤ 9) (s1 : 1 ≤ sc) (s4 : sc ≤ 4) (w1 : 1 ≤ wc) (w30 : wc ≤ 30) : WF 0 (pU P 16 (P 2)) := by
  obtain ⟨p0, p1, p2, p4, p5, p6, p3, p7, pz, ps, pn, p8⟩ := h
  have y7 := p7 7 (by decide) (by decide)
  have y8 := p7 8 (by decide) (by decide)
  have y10 := p7 10 (by decide) (by decide)
  have y11 := p7 11 (by decide) (by decide)
  have y17 := p7 17 (by decide) (by decide)
  have w : ∀ s, s < 4 → P (59 + 8 * s + 5) = 0 := fun s hs => p8 s hs 5 (by decide) (by decide)
  have x0 : P 64 = 0 := w 0 (by decide)
  have x1 : P 72 = 0 := w 1 (by decide)
  have x2 : P 80 = 0 := w 2 (by decide)
  have x3 : P 88 = 0 := w 3 (by decide)
  refine WG_cong (A := P) ?_ (fun k hk => pU_n (fun y => hk (by unfold irr; omega)))
  refine ⟨⟨?_, fun s hs hq k hk => ?_⟩, ⟨p0, fun t ht => ⟨Or.inl (p7 _ (by omega) (by omega)), fun _ => p7 _ (by omega) (by omega)⟩⟩, ⟨p1, p2, ?_, ?_, ?_, ?_, ?_, ?_, ?_, ?_⟩, ?_, ?_, ⟨?_, fun _ => y10, ?_⟩, ?_, ?_⟩
  · have : sc = 1 ∨ sc = 2 ∨ sc = 3 ∨ sc = 4 := by omega
    rw [p5]
    rcases this with rfl | rfl | rfl | rfl <;> decide
  · rw [p5] at hq
    have hq : sc ≤ s := by
      apply Decidable.byContradiction
      intro y
      exact hq (nI_lt (by omega) (by omega))
    by_cases k4 : k < 4
    · exact pn s hs hq k k4
    · exact p8 s hs k (by omega) hk
  · rw [p3]; exact ⟨by decide, by decide⟩
  · rw [p4]; exact ⟨nI_le (a := 1) z1 (by omega), (nb z9 (by decide)).2⟩
  · rw [p6]; exact ⟨nI_le (a := 1) w1 (by omega), (nb w30 (by decide)).2⟩
  · rw [y7, p4]; exact ⟨by decide, nI_pos' (by omega)⟩
  · rw [y8]; exact ⟨by decide, by decide, fun _ => rfl⟩
  · rw [y10]; exact ⟨by decide, by decide⟩
  · exact fun _ => y11
  · rw [y17, y7, y8]; exact ⟨by decide, by decide⟩
  · intro z hz h7 _
    rw [y7] at h7
    have z0 : z = 0 := ((nI_eq (a := 0) (b := z) (by decide) (by omega)).mp h7).symm
    subst z0
    have := (pz 0 (by decide) (by omega)).1.1
    rw [y8]
    grind
  · intro y; rw [y10] at y; exact absurd y (by decide)
  · intro y; rw [y7, p4] at y; exact absurd y.symm (nI_ne0 (by omega) (by omega))
  · unfold wOne; rw [x0, x1, x2]; exact ⟨fun y => absurd y (by decide), fun y => absurd y (by decide), fun y => absurd y (by decide)⟩
  · intro z hz hq
    rw [p4] at hq
    exact pz z hz ((nI_ltI (by omega) (by omega)).mp hq)
  · intro s hs
    unfold wSh
    have z4 : P (59 + 8 * s + 4) = 0 := p8 s hs 4 (by decide) (by decide)
    rw [w s hs, z4]
    by_cases c : s < sc
    · obtain ⟨q1, q2⟩ := ps s hs c
      exact ⟨q1, q2, ⟨by decide, q1.1⟩, by decide, by decide⟩
    · have e0 : P (59 + 8 * s) = 0 := pn s hs (by omega) 0 (by decide)
      have e1 : P (59 + 8 * s + 1) = 0 := pn s hs (by omega) 1 (by decide)
      rw [e0, e1]; decide
/-- memories that differ in the text's reading and in a state -/
def frT (p a : Nat) (M M' : zMi) : Prop := (∀ q, q ≠ p → (q < a ∨ a + 20 < q) → M' q = M q) ∧ M' p 1 = M p 1
theorem frT_r : frT p a M M := ⟨fun _ _ _ => rfl, rfl⟩
theorem frT_t {M'' : zMi} (h : frT p a M M') (h' : frT p a M' M'') : frT p a M M'' := ⟨fun q h1 h2 => (h'.1 q h1 h2).trans (h.1 q h1 h2), h'.2.trans h.2⟩
theorem frT_s {al : Int32} : frT p a M (tS p i al M) := ⟨fun q h _ => tS_q h, tS_k (by decide) (by decide)⟩
theorem frT_f (hp : p < a) (h : fr a M M') : frT p a M M' := ⟨fun q _ h2 => h q h2, by rw [h p (by omega)]⟩
theorem TX_f (h : TX M p n tx) (hp : p + 1 < a) (hf : frT p a M M') : TX M' p n tx :=
  ⟨h.1, hf.2.trans h.2.1, fun j hj => by rw [hf.1 (p + 1) (by omega) (by omega)]; exact h.2.2 j hj⟩
theorem tS_f {al : Int32} (hp : p < a) (hf : fr a (tS p i al M) M') : tS p i al M' = M' := tS_e (by rw [hf p (by omega)]; exact tS_2) (by rw [hf p (by omega)]; exact tS_3)
/-- numbers that are known -/
theorem c_nu1 {lo hi dg v q : Nat} (hT : TX M p n tx) (hr : rdN n tx lo hi dg 0 i = (true, v, q)) (hlo : lo ≤ 9999) (hhi : hi ≤ 9999) (hdg : dg ≤ 4) (hi' : i ≤ n) (hF : 101 ≤ F) : f_X7_readNumber F p (nI dg) (nI lo) (nI hi) (tS p i 1 M) = some (nI v, tS p q 1 M) := by
  rw [c_num hT hlo hhi hdg hi' hF, hr]; rfl
theorem c_nu0 {lo hi dg v q : Nat} (hT : TX M p n tx) (hr : rdN n tx lo hi dg 0 i = (false, v, q)) (hlo : lo ≤ 9999) (hhi : hi ≤ 9999) (hdg : dg ≤ 4) (hi' : i ≤ n) (hF : 101 ≤ F) : f_X7_readNumber F p (nI dg) (nI lo) (nI hi) (tS p i 1 M) = some (nI v, tS p q 0 M) := by
  rw [c_num hT hlo hhi hdg hi' hF, hr]; rfl
theorem rd_f {lo hi dg v q : Nat} {ok : Bool} (hr : rdN n tx lo hi dg 0 i = (ok, v, q)) (hi' : i ≤ n) : q ≤ n := by
  have := rdN_i (n := n) (tx := tx) (lo := lo) (hi := hi) (d := dg) (v := 0) hi'
  rw [hr] at this
  exact this
theorem rd_b {lo hi dg v q : Nat} (hr : rdN n tx lo hi dg 0 i = (true, v, q)) (hd : 1 ≤ dg) : lo ≤ v ∧ v ≤ hi := by
  have := rdN_b (n := n) (tx := tx) (lo := lo) (hi := hi) (d := dg) (v := 0) (i := i) (by omega)
  rw [hr] at this
  exact this rfl
end
