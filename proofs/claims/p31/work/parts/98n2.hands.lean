section
variable {F x K : Nat} {M : zMi} {A B : Pg} {R : Rs} {s z : Nat} {a w d v4 v7 : Int32}
/-- the object between two of the law's looks, with its state in slot 0 -/
def Oh (K : Nat) (M : zMi) (x : Nat) (A : Pg) (R : Rs) : Prop := Ob K M x A R ∧ R.2.2 0 = some A
theorem l_h1152 (h : Oh K M x A R) (hF : 101 ≤ F) (hd : d = A 3) : Go (f_L_hands_1152 F x a d 1 M) M x K A (rClr R) 1 := by
  subst hd
  unfold f_L_hands_1152
  refine Go_ifn (by decide) (Go_bind (t_resY (s := 0) (B := A) h.1 hF (by decide) h.2) (fun _ h => Go_if rfl ?_))
  exact Go_bind (t_undoN h rfl) (fun _ h => Go_if rfl (Go_id h))
theorem Oh_n {M' : zMi} (h : Oh K M x A R) (h' : Ob K M' x A (rClr R)) : Oh K M' x A (rClr R) := ⟨h', h.2⟩
/-- two forecasts, compared -/
theorem btr_ah {b t : Nat} (h : Oh K M x A R) (hK : K + 99 < 1000000) (hb : b < 4) (ht : t < 4) (hb5 : nI b < A 5) (ht5 : nI t < A 5) (cb : A (59 + 8 * b + 5) = 0 ∧ A 7 ≠ A 4) (ct : A (59 + 8 * t + 5) = 0 ∧ A 7 ≠ A 4) (hq : btr A b t) : aAh (dFill t A) 60 0 < aAh (dFill b A) 60 0 ∨ (aAh (dFill b A) 60 0 = aAh (dFill t A) 60 0 ∧ (aAh (dFill b A) 60 2 < aAh (dFill t A) 60 2 ∨ (aAh (dFill b A) 60 2 = aAh (dFill t A) 60 2 ∧ b ≤ t))) := by
  have hW := h.1.2.2.1
  have sd : ∀ s, s < 4 → nI s < A 5 → (A (59 + 8 * s + 5) = 0 ∧ A 7 ≠ A 4) → (aAh (dFill s A) 60 0 = bTr (fun _ => A) s 17 - A 17) ∧ aAh (dFill s A) 60 2 = bTr (fun _ => A) s 19 - A 19 ∧ 0 ≤ bTr (fun _ => A) s 19 ∧ bTr (fun _ => A) s 19 ≤ 400040000 := fun s hs h5 c => by
    have e19 : dFill s A 19 = A 19 := by
      unfold dFill dSend dTake
      rw [pU_n (by omega), pU_n (by omega), pU_n (by omega), pU_n (by omega)]
    have ww : WS K (dFill s A) := by
      have cap := (hW.2.2.1 s hs h5).1
      obtain ⟨-, -, ⟨ab0, ab1⟩, -⟩ := hW.1.2.2.2.2.2.2.2 s hs
      have q2 := hW.1.2.2.1.2.1
      have ub : 0 ≤ dFillU s A ∧ dFillU s A ≤ A 2 ∧ dFillU s A ≤ A (59 + 8 * s) - A (59 + 8 * s + 4) := by
        unfold dFillU zmin
        split <;> grind
      refine WS_send (WS_take hW hs h5 ub) hs ?_ ?_
      · rw [dTake_n (by decide) (by omega)]; exact h5
      · rw [dTake_n (by omega) (by omega)]; exact c.1
    have q := (WS_days (n := 60) ww (by omega)).2.2.2.2.2.1
    have m := nI_mono (show 400 * (K + 60) ≤ 400040000 by omega) (by decide)
    refine ⟨?_, ?_, ?_, ?_⟩
    · unfold aAh; rw [if_pos rfl, dFill_17 hs]; rfl
    · unfold aAh; rw [if_neg (by decide), if_neg (by decide), if_pos rfl, e19]; rfl
    · show 0 ≤ dDays 60 (dFill s A) 19
      have := q.1; have := q.2.1; grind
    · show dDays 60 (dFill s A) 19 ≤ nI 400040000
      have := q.2.2; grind
  obtain ⟨e1, e2, e3, e4⟩ := sd b hb hb5 cb
  obtain ⟨g1, g2, g3, g4⟩ := sd t ht ht5 ct
  have q := hW.2.2.2.2.2.1
  have m := nI_mono (show 400 * K ≤ 400040000 by omega) (by decide)
  have q1 : 0 ≤ A 19 := by have := q.1; have := q.2.1; grind
  have q2 : A 19 ≤ 400040000 := by
    show A 19 ≤ nI 400040000
    have := q.2.2; grind
  unfold btr at hq
  rw [e1, e2, g1, g2]
  generalize bTr (fun _ => A) t 17 - A 17 = p1 at *
  generalize bTr (fun _ => A) b 17 - A 17 = p2 at *
  generalize bTr (fun _ => A) t 19 = q3 at *
  generalize bTr (fun _ => A) b 19 = q4 at *
  rcases hq with y | ⟨y, y1 | ⟨y1, y2⟩⟩
  · exact Or.inl y
  · exact Or.inr ⟨y.symm, Or.inl (by grind)⟩
  · exact Or.inr ⟨y.symm, Or.inr ⟨by rw [y1], y2⟩⟩
theorem l_h1047 {f : Nat} {w : Int32} (h : Oh K M x A R) (hF : 101 ≤ F) (hK : K + 99 < 1000000) (hd : d = A 3) (h5 : A 5 = nI f) (f4 : f ≤ 4) (hs : s < f) (hw : w = A (59 + 8 * s + 5)) : Go (f_L_hands_1047 F x a d (nI s) w (aBs A f) 1 M) M x K A (rClr R) 1 := by
  unfold f_L_hands_1047
  rcases aBs_sp (A := A) f4 with e | ⟨b, b1, b2, b3, b4⟩
  · exact Go_if e (l_h1152 h hF hd)
  · refine Go_ifn (by rw [b2]; exact n9 (by omega)) ?_
    by_cases k : w = 0
    · refine Go_if k (Go_ifn (by decide) ?_)
      rw [hw] at k
      have ct : A (59 + 8 * s + 5) = 0 ∧ A 7 ≠ A 4 := ⟨k, b3.2⟩
      have hb5 : nI b < A 5 := by rw [h5]; exact nI_lt (by omega) (by omega)
      have hs5 : nI s < A 5 := by rw [h5]; exact nI_lt (by omega) (by omega)
      have q := btr_ah h hK (by omega) (by omega) hb5 hs5 b3 ct (b4 s hs k)
      have af := fun (t : Nat) (w : Int32) (M : zMi) (ht : t < 4) (ht5 : nI t < A 5) (c : A (59 + 8 * t + 5) = 0 ∧ A 7 ≠ A 4) (hw : 0 ≤ w ∧ w ≤ 4) (g : Oh K M x A (rClr R)) => l_after (F := F) (d := d) g.1 g.2 hF hK ht ht5 c hw hd
      have af0 := fun (t : Nat) (w : Int32) (ht : t < 4) (ht5 : nI t < A 5) (c : A (59 + 8 * t + 5) = 0 ∧ A 7 ≠ A 4) (hw : 0 ≤ w ∧ w ≤ 4) => l_after (F := F) (d := d) h.1 h.2 hF hK ht ht5 c hw hd
      rw [b2]
      refine Go_bind (af0 b 0 (by omega) hb5 b3 (by decide)) (fun _ h' => ?_)
      have g := Oh_n h h'
      refine Go_bind (af s 0 _ (by omega) hs5 ct (by decide) g) (fun _ h' => ?_)
      have g := Oh_n g h'
      by_cases k1 : aAh (dFill s A) 60 0 < aAh (dFill b A) 60 0
      · exact Go_if k1 (l_h1152 (R := rClr R) g hF hd)
      · obtain ⟨q1, q2⟩ := q.resolve_left k1
        refine Go_ifn k1 (Go_if q1 ?_)
        refine Go_bind (af b 2 _ (by omega) hb5 b3 (by decide) g) (fun _ h' => ?_)
        have g := Oh_n g h'
        refine Go_bind (af s 2 _ (by omega) hs5 ct (by decide) g) (fun _ h' => ?_)
        have g := Oh_n g h'
        by_cases k2 : aAh (dFill b A) 60 2 < aAh (dFill s A) 60 2
        · exact Go_if k2 (l_h1152 (R := rClr R) g hF hd)
        · obtain ⟨q3, q4⟩ := q2.resolve_left k2
          refine Go_ifn k2 ?_
          refine Go_bind (af b 2 _ (by omega) hb5 b3 (by decide) g) (fun _ h' => ?_)
          have g := Oh_n g h'
          refine Go_bind (af s 2 _ (by omega) hs5 ct (by decide) g) (fun _ h' => ?_)
          have g := Oh_n g h'
          exact Go_if q3 (Go_ifn (nI_nlt q4 (by omega)) (l_h1152 (R := rClr R) g hF hd))
    · exact Go_ifn k (l_h1152 h hF hd)
theorem l_h1007 {f : Nat} {w : Int32} (h : Oh K M x A R) (hF : 101 ≤ F) (hK : K + 99 < 1000000) (hd : d = A 3) (h4 : v4 = A 4) (h7 : v7 = A 7) (h5 : A 5 = nI f) (f4 : f ≤ 4) (hs : s < f) (hw : w = A (59 + 8 * s + 5)) : Go (f_L_hands_1007 F x a d v4 (nI s) v7 w 1 M) M x K A (rClr R) 1 := by
  have hA := h.1.2.2.1.1
  have q7 := hA.2.2.1.2.2.2.2.2.1
  unfold f_L_hands_1007
  refine Go_bind (t_bs h.1 hF (by omega) h5 f4) (fun _ h' => Go_ifn (by decide) ?_)
  have g : Oh K _ x A R := ⟨h', h.2⟩
  rcases aBs_sp (A := A) f4 with e | ⟨b, b1, b2, b3, b4⟩
  · exact Go_if e (l_h1047 g hF hK hd h5 f4 hs hw)
  · have hb5 : nI b < A 5 := by rw [h5]; exact nI_lt (by omega) (by omega)
    refine Go_ifn (by rw [b2]; exact n9 (by omega)) ?_
    refine Go_rd (v := A (59 + 8 * b + 5)) (by rw [b2]; exact (t_s5 (F := F) h' (by omega) hb5).2.2.1) (Go_if b3.1 (Go_if ?_ (l_h1047 g hF hK hd h5 f4 hs hw)))
    rw [h4, h7]
    have := b3.2
    grind
theorem l_h991 {f : Nat} {w : Int32} (h : Ob K M x B R) (hS : R.2.2 0 = some A) (hF : 101 ≤ F) (hK : K + 99 < 1000000) (hd : d = A 3) (h4 : v4 = A 4) (h7 : v7 = A 7) (h5 : A 5 = nI f) (f4 : f ≤ 4) (hs : s < f) (hw : w = A (59 + 8 * s + 5)) : Go (f_L_hands_991 F x a d v4 (nI s) v7 w M) M x K A (rClr R) 1 := by
  unfold f_L_hands_991
  refine Go_bind (t_resY (s := 0) (B := A) h hF (by decide) hS) (fun _ h' => Go_if hd.symm ?_)
  exact l_h1007 (R := rClr R) ⟨h', hS⟩ hF hK hd h4 h7 h5 f4 hs hw
theorem l_h918 {f : Nat} {w v : Int32} (h : Oh K M x A R) (hF : 1573 < F) (hK : K + 99 < 1000000) (hd : d = A 3) (h4 : v4 = A 4) (h7 : v7 = A 7) (h5 : A 5 = nI f) (f4 : f ≤ 4) (hs : s < f) (hw : w = A (59 + 8 * s + 5)) (hz : z < 9) (hz4 : nI z < A 4) (hx : exP A z v) : Go (f_L_hands_918 F x a d v4 (nI s) (nI z) v7 w v 1 M) M x K A (rClr R) 1 := by
  have hA := h.1.2.2.1.1
  obtain ⟨e, D, ds, e9, e2, hD, hv, hn⟩ := hx
  unfold f_L_hands_918
  by_cases c : 0 < v
  · have k : ds ≤ D := by
      by_cases k : ds ≤ D
      · exact k
      · rw [if_neg k] at hv; rw [hv] at c; exact absurd c (by decide)
    rw [if_pos k] at hv
    have ds0 : 0 < ds := by
      by_cases k : ds = 0
      · rw [hv, k] at c; exact absurd c (by decide)
      · omega
    have ok : ∀ d, 1 ≤ d → d ≤ D → (1 ≤ nI d ∧ nI d ≤ 99) ∧ ¬ 999 < A (23 + 4 * z + 2) + nI d ∧ ¬ A (23 + 4 * z + 2) + nI d < 0 := fun d d1 d2 => by
      refine ⟨⟨nI_le (a := 1) d1 (by omega), nI_le (b := 99) (by omega) (by decide)⟩, ?_, ?_⟩
      · rw [e2, nI_add]; exact nI_nlt (a := 999) (b := e + d) (by omega) (by omega)
      · rw [e2, nI_add]; exact nI_nlt (b := 0) (by omega) (by omega)
    have un : ∀ d, d ≤ D → (dUn (nI z) 400 0 (dExt z (nI d) A) = -9 ↔ d < ds) := hn
    have hz4' : ∀ d, 0 ≤ nI z ∧ nI z ≤ dExt z (nI d) A 4 - 1 := fun d => by
      rw [show dExt z (nI d) A 4 = A 4 by unfold dExt; rw [pU_n (by omega), pU_n (by omega)]]
      exact zIn hA hz hz4
    rw [hv] at c ⊢
    obtain ⟨o1, o2, o3⟩ := ok ds ds0 k
    refine Go_if c (Go_ifn (by decide) ?_)
    refine Go_bind (t_extY h.1 (by omega) (by omega) hz hz4 o1 o2) (fun _ h1 => Go_ifn o3 ?_)
    refine Go_bind (t_daY h1 hF (by omega) (hz4' ds)) (fun _ h2 => Go_ifn (fun y => absurd ((un ds k).mp y) (Nat.lt_irrefl _)) ?_)
    refine Go_bind (t_resY (s := 0) (B := A) h2 (by omega) (by decide) h.2) (fun _ h3 => Go_if hd.symm ?_)
    by_cases k1 : nI ds = 1
    · exact Go_if k1 (l_h991 (R := rClr R) h3 h.2 (by omega) hK hd h4 h7 h5 f4 hs hw)
    · refine Go_ifn k1 ?_
      have ds1 : 2 ≤ ds := by
        by_cases k2 : ds = 1
        · exact absurd (by rw [k2]; rfl) k1
        · omega
      obtain ⟨ds', rfl⟩ : ∃ m, ds = m + 1 := ⟨ds - 1, by omega⟩
      obtain ⟨p1, p2, p3⟩ := ok ds' (by omega) (by omega)
      rw [nI_pred]
      refine Go_bind (t_extY h3 (by omega) (by omega) hz hz4 p1 p2) (fun _ h1 => Go_ifn p3 ?_)
      refine Go_bind (t_daY h1 hF (by omega) (hz4' ds')) (fun _ h2 => Go_if ((un ds' (by omega)).mpr (by omega)) ?_)
      exact l_h991 (R := rPush A (rClr (rPush A R))) h2 h.2 (by omega) hK hd h4 h7 h5 f4 hs hw
  · exact Go_ifn c (l_h1007 h (by omega) hK hd h4 h7 h5 f4 hs hw)
end
