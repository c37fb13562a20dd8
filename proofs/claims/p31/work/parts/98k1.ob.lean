section
/-- what an object holds beside its present page: the text; the states that are remembered, the oldest first; the save slots -/
abbrev Rs : Type := (Nat × (Nat → Nat)) × (Nat × (Nat → Pg)) × (Nat → Option Pg)
noncomputable def dOwn (A : Pg) : Int32 := 0 + A 66 + A 74 + A 82 + A 90
noncomputable def dLen (A : Pg) : Int32 := 0 + (if 0 < A 7 then A 23 else 0) + (if 1 < A 7 then A 27 else 0) + (if 2 < A 7 then A 31 else 0) + (if 3 < A 7 then A 35 else 0) + A 8
def sDl (A : Pg) (s : Nat) : Prop := (A (59 + 8 * s + 5) = 1 ∨ A (59 + 8 * s + 5) = 4 → 1 ≤ A (59 + 8 * s + 6)) ∧ (A (59 + 8 * s + 5) ≠ 1 → A (59 + 8 * s + 5) ≠ 4 → A (59 + 8 * s + 6) = 0)
def sSh (A : Pg) (s : Nat) : Prop := nI s < A 5 → A (59 + 8 * s) ≤ 159 ∧ 1 ≤ A (59 + 8 * s + 1) ∧ 0 ≤ A (59 + 8 * s + 3) ∧ A (59 + 8 * s + 3) ≤ 99
def sAc (A : Pg) : Prop := A 16 = A 2 + dAb A + A 17 + A 18 ∧ dOwn A = A 17 ∧ dLen A = A 17
def sCo (K : Nat) (A : Pg) : Prop := 0 ≤ A 20 ∧ A 20 ≤ A 19 ∧ A 19 ≤ nI (400 * K)
/-- no permit ends before it begins -/
def sFL (A : Pg) : Prop := ∀ z, z < 4 → nI z < A 4 → A (23 + 4 * z + 1) ≤ A (23 + 4 * z + 2)
/-- what holds of a page beside WF: all cable, zones, ships by the numbers told -/
def SD (K : Nat) (A : Pg) : Prop := A 4 ≤ 4 ∧ (∀ s, s < 4 → sSh A s) ∧ (∀ s, s < 4 → sDl A s) ∧ sAc A ∧ sCo K A ∧ (0 ≤ A 9 ∧ A 9 ≤ 6 ∧ sFL A)
def WS (K : Nat) (A : Pg) : Prop := WF K A ∧ SD K A
def HL (K : Nat) (M : zMi) (h c : Nat) (f : Nat → Pg) : Prop := c ≤ 14 ∧ ∃ o, o < 14 ∧ M h 1 = nI o ∧ M h 2 = nI c ∧ ∀ k, k < c → RC M (h + 2 + 21 * ((o + k) % 14)) (f k) ∧ WS K (f k)
def SL (K : Nat) (M : zMi) (x : Nat) (g : Nat → Option Pg) : Prop := ∀ s, s < 2 → (g s = none ∧ M (x + 342 + 22 * s) 1 = 0) ∨ ∃ B, g s = some B ∧ M (x + 342 + 22 * s) 1 = 1 ∧ RC M (x + 343 + 22 * s) B ∧ WS K B
/-- an object at x, between two calls -/
def Ob (K : Nat) (M : zMi) (x : Nat) (A : Pg) (R : Rs) : Prop := TX M (x + 1) R.1.1 R.1.2 ∧ RC M (x + 3) A ∧ WS K A ∧ HL K M (x + 45) R.2.1.1 R.2.1.2 ∧ SL K M x R.2.2
def fO (x : Nat) (M N : zMi) : Prop := ∀ q, (q < x ∨ x + 385 < q) → N q = M q
/-- a call that ends: its answer, and the object behind it -/
def Go (f : Option (Int32 × zMi)) (M : zMi) (x K : Nat) (A : Pg) (R : Rs) (v : Int32) : Prop := ∃ M', f = some (v, M') ∧ Ob K M' x A R ∧ fO x M M'
def rPush (A : Pg) (R : Rs) : Rs := (R.1, (if R.2.1.1 < 14 then R.2.1.1 + 1 else 14, fun k => if R.2.1.1 < 14 then (if k = R.2.1.1 then A else R.2.1.2 k) else (if k = 13 then A else R.2.1.2 (k + 1))), R.2.2)
def rPop (R : Rs) : Rs := (R.1, (R.2.1.1 - 1, R.2.1.2), R.2.2)
def rClr (R : Rs) : Rs := (R.1, (0, fun _ _ => 0), R.2.2)
def rSet (s : Nat) (A : Pg) (R : Rs) : Rs := (R.1, R.2.1, fun t => if t = s then some A else R.2.2 t)
def rLd (R : Rs) : Rs := (R.1, (0, fun _ _ => 0), fun _ => none)
def rTx (n : Nat) (tx : Nat → Nat) (R : Rs) : Rs := ((n, tx), R.2)
variable {F x K K' : Nat} {M N M' : zMi} {A B : Pg} {R : Rs}
theorem fO_r : fO x M M := fun _ _ => rfl
theorem fO_t {L : zMi} (h : fO x M N) (h' : fO x N L) : fO x M L := fun q hq => (h' q hq).trans (h q hq)
theorem fO_tr (h : fr (x + 24) M N) : fO x M N := fun q hq => h q (by omega)
theorem sCo_mono (h : sCo K A) (hK : K ≤ K') (h2 : K' < 2000000) : sCo K' A := by
  obtain ⟨h1, h3, h4⟩ := h
  have := nI_mono (show 400 * K ≤ 400 * K' by omega) (by omega)
  exact ⟨h1, h3, by grind⟩
theorem SD_mono (h : SD K A) (hK : K ≤ K') (h2 : K' < 2000000) : SD K' A := ⟨h.1, h.2.1, h.2.2.1, h.2.2.2.1, sCo_mono h.2.2.2.2.1 hK h2, h.2.2.2.2.2⟩
theorem WS_mono (h : WS K A) (hK : K ≤ K') (h2 : K' < 2000000) : WS K' A := ⟨WF_mono h.1 hK (by omega), SD_mono h.2 hK h2⟩
theorem Ob_mono (h : Ob K M x A R) (hK : K ≤ K') (h2 : K' < 2000000) : Ob K' M x A R := by
  obtain ⟨h1, h3, h4, ⟨g1, o, g2, g3, g4, g5⟩, h5⟩ := h
  refine ⟨h1, h3, WS_mono h4 hK h2, ⟨g1, o, g2, g3, g4, fun k hk => ⟨(g5 k hk).1, WS_mono (g5 k hk).2 hK h2⟩⟩, fun s hs => ?_⟩
  rcases h5 s hs with y | ⟨B, y1, y2, y3, y4⟩
  · exact Or.inl y
  · exact Or.inr ⟨B, y1, y2, y3, WS_mono y4 hK h2⟩
/-- memories that differ where nothing is held: the trial, the text's reading, and outside -/
theorem Ob_rd (h : Ob K M x A R) (e : ∀ q, x ≤ q → q ≤ x + 385 → q ≠ x + 1 → (q < x + 24 ∨ x + 44 < q) → N q = M q) (e1 : N (x + 1) 1 = M (x + 1) 1) : Ob K N x A R := by
  obtain ⟨⟨t1, t2, t3⟩, h2, h3, ⟨h4, o, o1, o2, o3, o4⟩, h5⟩ := h
  refine ⟨⟨t1, e1.trans t2, fun j hj => by rw [e _ (by omega) (by omega) (by omega) (by omega)]; exact t3 j hj⟩, RC_fr h2 (fun q q1 q2 => e q (by omega) (by omega) (by omega) (by omega)), h3, ⟨h4, o, o1, by rw [e _ (by omega) (by omega) (by omega) (by omega)]; exact o2, by rw [e _ (by omega) (by omega) (by omega) (by omega)]; exact o3, fun k hk => ?_⟩, fun s hs => ?_⟩
  · have hm : (o + k) % 14 < 14 := Nat.mod_lt _ (by decide)
    exact ⟨RC_fr (o4 k hk).1 (fun q q1 q2 => e q (by omega) (by omega) (by omega) (by omega)), (o4 k hk).2⟩
  · rcases h5 s hs with ⟨g1, g2⟩ | ⟨B, g1, g2, g3, g4⟩
    · exact Or.inl ⟨g1, by rw [e _ (by omega) (by omega) (by omega) (by omega)]; exact g2⟩
    · exact Or.inr ⟨B, g1, by rw [e _ (by omega) (by omega) (by omega) (by omega)]; exact g2, RC_fr g3 (fun q q1 q2 => e q (by omega) (by omega) (by omega) (by omega)), g4⟩
theorem Ob_o (h : Ob K M x A R) (e : ∀ q, x ≤ q → q ≤ x + 385 → N q = M q) : Ob K N x A R := Ob_rd h (fun q q1 q2 _ _ => e q q1 q2) (by rw [e _ (by omega) (by omega)])
theorem Ob_tr (h : Ob K M x A R) (f : fr (x + 24) M N) : Ob K N x A R := Ob_rd h (fun q _ _ _ q4 => f q (by omega)) (by rw [f _ (by omega)])
theorem Go_id {v : Int32} (h : Ob K M x A R) : Go (some (v, M)) M x K A R v := ⟨M, rfl, h, fO_r⟩
theorem Go_tr {v : Int32} (h : Ob K M x A R) (f : fr (x + 24) M N) : Go (some (v, N)) M x K A R v := ⟨N, rfl, Ob_tr h f, fO_tr f⟩
/-- an action: the state remembered, then the change -/
theorem Ob_act (hF : 31 ≤ F) (h : Ob K M x A R) : ∃ M1, f_X0_remember F (x + 45) (x + 3) M = some M1 ∧ RC M1 (x + 3) A ∧ ∀ M2, fr (x + 3) M1 M2 → fO x M M2 ∧ ∀ (B : Pg) (K' : Nat), K ≤ K' → K' < 2000000 → RC M2 (x + 3) B → WS K' B → Ob K' M2 x B (rPush A R) := by
  obtain ⟨⟨t1, t2, t3⟩, h2, h3, ⟨h4, o, o1, o2, o3, o4⟩, h5⟩ := h
  generalize hc : R.2.1.1 = c at *
  have hm : (o + c) % 14 < 14 := Nat.mod_lt _ (by decide)
  obtain ⟨M1, a1, a2, a3, o', c', a4, a5, a6, a7⟩ := c_remember (F := F) (h := x + 45) (p := x + 3) hF o1 h4 o2 o3 (by omega) h2
  refine ⟨M1, a1, RC_fr h2 (fun q q1 q2 => a2 q (by omega) (by omega)), fun M2 f2 => ?_⟩
  have g2 : ∀ q, q ≠ x + 45 → (q < x + 3 ∨ x + 23 < q) → (q < x + 45 + 2 + 21 * ((o + c) % 14) ∨ x + 45 + 2 + 21 * ((o + c) % 14) + 20 < q) → M2 q = M q := fun q q1 q2 q3 => by
    rw [f2 q (by omega), a2 q q1 q3]
  refine ⟨fun q hq => g2 q (by omega) (by omega) (by omega), fun B K' hK hK2 hB hW => ?_⟩
  have pl : RC M2 (x + 45 + 2 + 21 * ((o + c) % 14)) A := RC_fr a3 (fun q q1 q2 => f2 q (by omega))
  have old : ∀ j, j < 14 → j ≠ (o + c) % 14 → ∀ B : Pg, RC M (x + 45 + 2 + 21 * j) B → RC M2 (x + 45 + 2 + 21 * j) B := fun j hj hn B hB =>
    RC_fr hB (fun q q1 q2 => g2 q (by omega) (by omega) (by omega))
  have e1 : M2 (x + 45) 1 = nI o' := by rw [f2 _ (by omega)]; exact a5
  have e2 : M2 (x + 45) 2 = nI c' := by rw [f2 _ (by omega)]; exact a6
  refine ⟨⟨t1, by rw [g2 _ (by omega) (by omega) (by omega)]; exact t2, fun j hj => by rw [g2 _ (by omega) (by omega) (by omega)]; exact t3 j hj⟩, hB, hW, ?_, fun s hs => ?_⟩
  · show HL K' M2 (x + 45) (if R.2.1.1 < 14 then R.2.1.1 + 1 else 14) _
    rw [hc]
    rcases a4 with ⟨c1, rfl, rfl⟩ | ⟨rfl, rfl, rfl⟩
    · rw [if_pos c1]
      refine ⟨by omega, o', o1, e1, e2, fun k hk => ?_⟩
      show RC M2 _ (if R.2.1.1 < 14 then (if k = R.2.1.1 then A else R.2.1.2 k) else _) ∧ WS K' (if R.2.1.1 < 14 then (if k = R.2.1.1 then A else R.2.1.2 k) else _)
      rw [hc, if_pos c1]
      by_cases e : k = c
      · subst e
        rw [if_pos rfl]
        exact ⟨pl, WS_mono h3 hK hK2⟩
      · rw [if_neg e]
        exact ⟨old _ (Nat.mod_lt _ (by decide)) (by omega) _ (o4 k (by omega)).1, WS_mono (o4 k (by omega)).2 hK hK2⟩
    · rw [if_neg (by decide)]
      refine ⟨by decide, (o + 1) % 14, Nat.mod_lt _ (by decide), e1, e2, fun k hk => ?_⟩
      show RC M2 _ (if R.2.1.1 < 14 then _ else (if k = 13 then A else R.2.1.2 (k + 1))) ∧ WS K' (if R.2.1.1 < 14 then _ else (if k = 13 then A else R.2.1.2 (k + 1)))
      rw [hc, if_neg (by decide)]
      by_cases e : k = 13
      · subst e
        rw [if_pos rfl, show ((o + 1) % 14 + 13) % 14 = (o + 14) % 14 from by omega]
        exact ⟨pl, WS_mono h3 hK hK2⟩
      · rw [if_neg e, show ((o + 1) % 14 + k) % 14 = (o + (k + 1)) % 14 from by omega]
        exact ⟨old _ (Nat.mod_lt _ (by decide)) (by omega) _ (o4 (k + 1) (by omega)).1, WS_mono (o4 (k + 1) (by omega)).2 hK hK2⟩
  · rcases h5 s hs with ⟨g1, g3⟩ | ⟨B, g1, g3, g4, g5⟩
    · exact Or.inl ⟨g1, by rw [g2 _ (by omega) (by omega) (by omega)]; exact g3⟩
    · exact Or.inr ⟨B, g1, by rw [g2 _ (by omega) (by omega) (by omega)]; exact g3, RC_fr g4 (fun q q1 q2 => g2 q (by omega) (by omega) (by omega)), WS_mono g5 hK hK2⟩
end
