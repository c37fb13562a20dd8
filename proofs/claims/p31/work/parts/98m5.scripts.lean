section
variable {F x K : Nat} {M : zMi} {A A' : Pg} {R R' : Rs} {v : Int32}
theorem Go_grd {b : Bool} {f : Option (Int32 × zMi)} (e : b = true) (h : Go f M x K A R v) : Go (grd b f) M x K A R v := by rw [e, grd_t]; exact h
theorem sc_1 {q : Int64} {g : Nat} (h : Ob K M x A R) (hF : 101 ≤ F) (hg : g < 100000) (hq : q = lN g) (hs : Suc F A g 1) : Go (f_L_tryScript F x 1 q M) M x K A R (-9) := by
  rw [hq]; exact t_sc h hF hg hs
theorem sc_0 {q : Int64} {g : Nat} (h : Ob K M x A R) (hF : 101 ≤ F) (hg : g < 100000) (hq : q = lN g) (hs : Suc F A g 0) : Go (f_L_tryScript F x 1 q M) M x K A R 0 := by
  rw [hq]; exact t_sc h hF hg hs
theorem l2 {q : Int64} {k s : Nat} (hk : q = lN k) (hs : s < 2147483648) : q + (1000 : Int64) * (nI s).toInt64 = lN (k + 1000 * s) := by
  rw [hk, nI_l hs, show (1000 : Int64) = lN 1000 from rfl, lN_mul, lN_add]
theorem l3 {q : Int64} {k s : Nat} (hk : q = lN k) (hs : s < 2147483648) : q + (nI s).toInt64 = lN (k + s) := by
  rw [hk, nI_l hs, lN_add]
/-- the numbers that a page's scripts are made of -/
theorem pgN (h : WS K A) (hK : K < 2147483648) : (∃ f, f ≤ 4 ∧ A 7 = nI f) ∧ (∃ l, l < 99 ∧ A 8 = nI l) ∧ (∃ r, r < 7 ∧ A 9 = nI r) ∧ ∃ t, t ≤ K ∧ A 3 = nI t := by
  have hA := h.1
  have q4 := h.2.1
  have q7 := hA.2.2.1.2.2.2.2.2.1
  have q8 := hA.2.2.1.2.2.2.2.2.2.1
  have q9 := h.2.2.2.2.2.2
  have q3 := hA.2.2.1.2.2.1
  refine ⟨exN (n := 4) q7.1 (by show A 7 ≤ 4; grind) (by decide), ?_, ?_, ?_⟩
  · by_cases c : A 7 = A 4
    · exact ⟨0, by decide, q8.2.2 c⟩
    · obtain ⟨f, hf, e7⟩ := exN (n := 4) (x := A 7) q7.1 (by show A 7 ≤ 4; grind) (by decide)
      have hz : nI f < A 4 := by rw [← e7]; grind
      have lt := hA.2.2.2.1 f (by omega) e7 hz
      have le := (hA.2.2.2.2.2.2.1 f (by omega) hz).1
      obtain ⟨l, hl, e⟩ := exN (n := 98) (x := A 8) q8.1 (by show A 8 ≤ 98; grind) (by decide)
      exact ⟨l, by omega, e⟩
  · obtain ⟨r, hr, e⟩ := exN (n := 6) (x := A 9) q9.1 q9.2.1 (by decide)
    exact ⟨r, by omega, e⟩
  · exact exN q3.1 q3.2 hK
theorem l_scr281 {a t f S Z V : Nat} (h : Ob K M x A R) (hF : 1573 < F) (hK : K < 1000000) (h3 : A 3 = nI t) (ht : t ≤ K) (h5 : A 5 = nI S) (S4 : S ≤ 4) (h4 : A 4 = nI Z) (Z4 : Z ≤ 4) (hV : V = 1000 * f + (t + 20)) (hf : f ≤ 990) (hv : (1000 : Int32) * (dSim 20 ((nI a).toInt64 * 163) A 17 - A 17) + dSim 20 ((nI a).toInt64 * 163) A 3 = nI V) : Go (f_L_scripts_281 F x (nI a) (nI Z) (nI S) (nI V) 1 M) M x K A R 1 := by
  have hA := h.2.2.1.1
  have cap := (h.2.2.1.2.2.1 0 (by decide) (s_0 hA)).1
  have ab := (hA.2.2.2.2.2.2.2 0 (by decide)).2.2.1
  have hn : ¬ canT 0 (nI 999) A := fun y => y.2.2 (by show _ < (999 : Int32); grind)
  have b5 := fun {M : zMi} (h : Ob K M x A R) => (t_b h (show 101 ≤ F by omega)).2.1.2.1
  have e20 : nI t + 20 = nI (t + 20) := nI_add t 20
  have r1 : nI V - nI V / 1000 * 1000 = nI (V % 1000) := rem_N (by omega) (by decide) (by decide) rfl
  have r2 : nI (t + 20) - nI (t + 20) / 1000 * 1000 = nI ((t + 20) % 1000) := rem_N (by omega) (by decide) (by decide) rfl
  unfold f_L_scripts_281
  refine Go_ifn (by decide) ?_
  refine Go_bind (sc_0 h (by omega) (by decide) (by rfl) (suc_1 (s := 0) (t := 0) hA (by decide) (s_0 hA) (by decide) (Or.inl rfl))) (fun _ h => Go_if rfl ?_)
  refine Go_bind (sc_0 h (by omega) (by decide) (by rfl) (suc_1 (s := 0) (t := 999) hA (by decide) (s_0 hA) (by decide) (Or.inr hn))) (fun _ h => Go_if rfl ?_)
  refine Go_bind (sc_0 h (by omega) (by omega) (l2 (k := 20000) rfl (by omega)) (suc_2n (s := S) (by omega) (by rw [h5]; exact nI_nlt (by omega) (by omega)))) (fun _ h => Go_if rfl ?_)
  refine Go_bind (sc_0 h (by omega) (by decide) (by rfl) (suc_40 hA)) (fun _ h => Go_if rfl ?_)
  refine Go_bind (sc_0 h (by omega) (by decide) (by rfl) suc_4t) (fun _ h => Go_if rfl ?_)
  refine Go_bind (sc_0 h (by omega) (by omega) (l2 (k := 40001) rfl (by omega)) (suc_4n (s := Z) (by omega) (by rw [h4]; exact nI_nlt (by omega) (by omega)))) (fun _ h => Go_if rfl ?_)
  refine Go_bind (sc_0 h (by omega) (by decide) (by rfl) suc_50) (fun _ h => Go_if rfl ?_)
  refine Go_bind (sc_1 h (by omega) (by decide) (by rfl) (suc_5 hA hK (by omega))) (fun _ h => Go_if rfl ?_)
  refine Go_bind (sc_0 h (by omega) (by decide) (by rfl) suc_6) (fun _ h => Go_if rfl ?_)
  refine Go_bind (sc_0 h (by omega) (by decide) (by rfl) (suc_0 (t := 0) (by decide))) (fun _ h => Go_if rfl ?_)
  refine Go_rd ((b5 h).trans (by rw [h3])) (Go_ifn ?_ (Go_rd ((b5 h).trans (by rw [h3])) (Go_if ?_ ?_)))
  · rw [e20]; exact nI_nlt (by omega) (by omega)
  · rw [e20, r1, r2, hV]
    congr 1
    omega
  · refine Go_bind (v := nI V) (by rw [← hv]; exact t_siY (d := 20) h hF hK (by decide)) (fun _ h => Go_if rfl ?_)
    exact Go_id h
theorem l_scripts {a : Nat} (h : Ob K M x A R) (hF : 1573 < F) (hK : K < 1000000) (ha : a < 2147483648) : Go (f_L_scripts F x (nI a) M) M x K A R 1 := by
  have hA := h.2.2.1.1
  obtain ⟨Z, Z0, Z4, hZ⟩ := WF_Z h.2.2.1
  obtain ⟨S, S0, S4, hS⟩ := wFl_N h.2.2.1.1.1
  obtain ⟨⟨f, f4, h7⟩, ⟨l, l9, h8⟩, ⟨r, r7, h9⟩, ⟨t, tK, h3⟩⟩ := pgN h.2.2.1 (by omega)
  obtain ⟨⟨b0, b1, -, -⟩, ⟨-, -, b6, b7⟩, ⟨-, b9, -, -⟩, -⟩ := t_b h (show 101 ≤ F by omega)
  have hsS : a % S < S := Nat.mod_lt _ S0
  generalize hs : a % S = s at hsS
  have s4 : s < 4 := by omega
  have sp : nI s < A 5 := by rw [hS]; exact nI_lt hsS (by omega)
  have rS : nI a - nI a / nI S * nI S = nI s := by rw [← hs]; exact rem_N ha S0 (by omega) rfl
  have nS : (!decide (nI S = 0)) = true := by simp [nI_ne0 (n := S) S0 (by omega)]
  have e5 := (t_s5 (F := F) h s4 sp).2.2.1
  have q5 := (hA.2.2.2.2.2.2.2 s s4).2.2.2
  obtain ⟨w, hw, hw5⟩ := exN (n := 4) (x := A (59 + 8 * s + 5)) q5.1 q5.2 (by decide)
  obtain ⟨d1, d2, d3⟩ := dSim_f (j := 20) (K := K) (t := t) (sd := (nI a).toInt64 * 163) hA (by omega) h3
  have w17 := WF_17 hA
  have v17 := WF_17 d1
  obtain ⟨u, hu, eu⟩ := exN (n := 990) (x := dSim 20 ((nI a).toInt64 * 163) A 17 - A 17) (by grind) (by show _ ≤ (990 : Int32); grind) (by decide)
  have hv : (1000 : Int32) * (dSim 20 ((nI a).toInt64 * 163) A 17 - A 17) + dSim 20 ((nI a).toInt64 * 163) A 3 = nI (1000 * u + (t + 20)) := by
    rw [eu, d2, show (1000 : Int32) = nI 1000 from rfl, nI_mul, nI_add]
  obtain ⟨s7, s7'⟩ := suc_7 (F := F) (A := A) (f := f) (l := l) (by omega) l9 h7 h8
  obtain ⟨s8, s8'⟩ := suc_8 (F := F) hA s4 sp (by omega : w < 5) hw5
  obtain ⟨s9, s9'⟩ := suc_9 (F := F) r7 h9
  have g281 := fun {M : zMi} (h : Ob K M x A R) => l_scr281 (a := a) (t := t) (f := u) (V := 1000 * u + (t + 20)) h hF hK h3 tK hS S4 hZ Z4 rfl hu hv
  rw [hZ] at b0
  rw [hS] at b1
  rw [h7] at b6
  rw [h8] at b7
  rw [h9] at b9
  rw [hw5] at e5
  have g254 : ∀ {M : zMi} (y : Int32) (h : Ob K M x A R), Go (f_L_scripts_254 F x (nI a) (nI Z) (nI S) (nI s) (nI (1000 * u + (t + 20))) y y M) M x K A R 1 := fun y h => by
    unfold f_L_scripts_254
    refine Go_if rfl ?_
    refine Go_bind (sc_0 h (by omega) (by omega) (l2 (k := 20001) rfl (by omega)) (by rw [show 20001 + 1000 * s = 20000 + 1000 * s + 1 from by omega]; exact suc_2t (by omega) (by decide) (by decide))) (fun _ h => Go_if rfl ?_)
    exact g281 h
  have g217 : ∀ {M : zMi} (y : Int32) (h : Ob K M x A R), Go (f_L_scripts_217 F x (nI a) (nI Z) (nI S) (nI s) (nI w) (nI (1000 * u + (t + 20))) y y M) M x K A R 1 := fun y h => by
    unfold f_L_scripts_217
    refine Go_if rfl ?_
    have s3 := suc_3 (F := F) hA s4 sp
    by_cases c : A (59 + 8 * s + 5) = 2 ∨ A (59 + 8 * s + 5) = 3
    · rw [if_pos c] at s3
      refine Go_bind (sc_1 h (by omega) (by omega) (l2 (k := 30000) rfl (by omega)) s3) (fun _ h => ?_)
      rw [hw5] at c
      by_cases c2 : nI w = 2
      · exact Go_if c2 (g254 (-9) h)
      · exact Go_ifn c2 (Go_if (c.resolve_left c2) (g254 (-9) h))
    · rw [if_neg c] at s3
      refine Go_bind (sc_0 h (by omega) (by omega) (l2 (k := 30000) rfl (by omega)) s3) (fun _ h => ?_)
      rw [hw5] at c
      exact Go_ifn (fun y => c (Or.inl y)) (Go_ifn (fun y => c (Or.inr y)) (g254 0 h))
  unfold f_L_scripts
  refine Go_rd b0 (Go_rd b1 (Go_grd nS (Go_bnd ?_)))
  rw [rS]
  refine Go_rd e5 (Go_rd b6 (Go_rd b7 (Go_rd b9 ?_)))
  refine Go_bind (v := nI (1000 * u + (t + 20))) (by rw [← hv]; exact t_siY (d := 20) h hF hK (by decide)) (fun _ h => ?_)
  refine Go_bind (sc_1 h (by omega) (by omega) (l3 (l2 (k := 70000) rfl (by omega)) (by omega)) s7) (fun _ h => Go_if rfl ?_)
  refine Go_bind (sc_0 h (by omega) (by omega) (l3 (l2 (k := 70001) rfl (by omega)) (by omega)) s7') (fun _ h => Go_if rfl ?_)
  refine Go_bind (sc_1 h (by omega) (by omega) (l3 (l2 (k := 80000) rfl (by omega)) (by omega)) s8) (fun _ h => Go_if rfl ?_)
  refine Go_bind (sc_0 h (by omega) (by omega) (l2 (k := 80005) rfl (by omega)) s8') (fun _ h => Go_if rfl ?_)
  refine Go_bind (sc_1 h (by omega) (by omega) (l3 (k := 90000) rfl (by omega)) s9) (fun _ h => Go_if rfl ?_)
  refine Go_bind (sc_0 h (by omega) (by decide) (by rfl) s9') (fun _ h => Go_if rfl ?_)
  have s2 := suc_2 (F := F) hA s4 sp
  by_cases c : A (59 + 8 * s + 5) = 0 ∧ A 7 ≠ A 4
  · rw [if_pos c] at s2
    refine Go_bind (sc_1 h (by omega) (by omega) (l2 (k := 20000) rfl (by omega)) s2) (fun _ h => ?_)
    have q7 := hA.2.2.1.2.2.2.2.2.1
    rw [hw5] at c
    exact Go_if c.1 (Go_if (show nI f < nI Z by rw [← h7, ← hZ]; have := c.2; grind) (g217 (-9) h))
  · rw [if_neg c] at s2
    refine Go_bind (sc_0 h (by omega) (by omega) (l2 (k := 20000) rfl (by omega)) s2) (fun _ h => ?_)
    rw [hw5] at c
    by_cases c1 : nI w = 0
    · have : ¬ nI f < nI Z := fun y => c ⟨c1, fun z => by rw [← h7, ← hZ, z] at y; grind⟩
      exact Go_if c1 (Go_ifn this (g217 0 h))
    · exact Go_ifn c1 (g217 0 h)
end
