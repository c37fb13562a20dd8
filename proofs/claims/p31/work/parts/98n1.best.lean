section
variable {F x K : Nat} {M : zMi} {A B : Pg} {R : Rs} {s : Nat} {w : Int32}
theorem dTake_0 : dTake s 0 A = A := by
  funext k
  unfold dTake pU
  by_cases c : k = 59 + 8 * s + 4
  · rw [if_pos c, c]; grind
  · rw [if_neg c]
    by_cases d : k = 2
    · rw [if_pos d, d]; grind
    · rw [if_neg d]
theorem l_aft53 {t : Int32} (h : Ob K M x A R) (hS : R.2.2 0 = some B) (hF : 101 ≤ F) (hK : K + 99 < 1000000) (hs : s < 4) (hp : nI s < A 5) (c : A (59 + 8 * s + 5) = 0 ∧ A 7 ≠ A 4) (h0 : 0 ≤ t) (hw : 0 ≤ w ∧ w ≤ 4) : Go (f_L_after_53 F x (nI s) w (B 3) t M) M x K B (rClr R) (aAh (dSend s A) 60 w) := by
  have q7 := WF_7 h.2.2.1.1
  unfold f_L_after_53
  refine Go_bind (t_sendY h hF (by omega) hs hp c) (fun _ h => ?_)
  refine Go_bind (t_ahY (d := 60) h hF hK (by decide) hw) (fun _ h => Go_ifn (by grind) (Go_if (by grind) ?_))
  refine Go_bind (t_resY (s := 0) (B := B) h hF (by decide) hS) (fun _ h => Go_if rfl (Go_id h))
theorem l_aft35 {u : Int32} (h : Ob K M x A R) (hS : R.2.2 0 = some B) (hF : 101 ≤ F) (hK : K + 99 < 1000000) (hs : s < 4) (hp : nI s < A 5) (c : A (59 + 8 * s + 5) = 0 ∧ A 7 ≠ A 4) (hu : u = dFillU s A) (hw : 0 ≤ w ∧ w ≤ 4) : Go (f_L_after_35 F x (nI s) w (B 3) u M) M x K B (rClr R) (aAh (dFill s A) 60 w) := by
  have hA := h.2.2.1.1
  have cap := (h.2.2.1.2.2.1 s hs hp).1
  obtain ⟨-, -, ⟨ab0, ab1⟩, -⟩ := hA.2.2.2.2.2.2.2 s hs
  have q2 := hA.2.2.1.2.1
  have ub : 0 ≤ u ∧ u ≤ A 2 ∧ u ≤ A (59 + 8 * s) - A (59 + 8 * s + 4) := by
    rw [hu]; unfold dFillU zmin
    split <;> grind
  unfold f_L_after_35
  by_cases d : u = 0
  · have e : dFill s A = dSend s A := by unfold dFill; rw [← hu, d, dTake_0]
    rw [e]
    exact Go_if d (l_aft53 h hS hF hK hs hp c (by decide) hw)
  · refine Go_ifn d ?_
    have hc : canT s u A := ⟨c.1, by grind, by grind⟩
    refine Go_bind (t_takeY h hF (by omega) hs hp ⟨by grind, by grind⟩ hc) (fun _ h => ?_)
    rw [show dFill s A = dSend s (dTake s u A) by unfold dFill; rw [hu]]
    refine l_aft53 (R := rPush A R) h hS hF hK hs ?_ ⟨?_, ?_⟩ (by grind) hw
    · rw [dTake_n (by decide) (by omega)]; exact hp
    · rw [dTake_n (by omega) (by omega)]; exact c.1
    · rw [dTake_n (by decide) (by omega), dTake_n (by decide) (by omega)]; exact c.2
/-- a number 60 days after a ship is filled and sent -/
theorem l_after {d : Int32} (h : Ob K M x A R) (hS : R.2.2 0 = some A) (hF : 101 ≤ F) (hK : K + 99 < 1000000) (hs : s < 4) (hp : nI s < A 5) (c : A (59 + 8 * s + 5) = 0 ∧ A 7 ≠ A 4) (hw : 0 ≤ w ∧ w ≤ 4) (hd : d = A 3) : Go (f_L_after F x (nI s) w d M) M x K A (rClr R) (aAh (dFill s A) 60 w) := by
  obtain ⟨⟨s0, -, -, -⟩, s4, -, -, -⟩ := t_s5 (F := F) h hs hp
  obtain ⟨-, ⟨b4, -, -, -⟩, -, -⟩ := t_b h hF
  subst hd
  unfold f_L_after
  refine Go_rd s0 (Go_rd s4 (Go_bnd (Go_rd b4 ?_)))
  by_cases k : A (59 + 8 * s) - A (59 + 8 * s + 4) < A 2
  · exact Go_if k (l_aft35 h hS hF hK hs hp c (by unfold dFillU zmin; rw [if_pos k]) hw)
  · exact Go_ifn k (Go_rd b4 (l_aft35 h hS hF hK hs hp c (by unfold dFillU zmin; rw [if_neg k]) hw))
/-- one ship's forecast is no worse than another's -/
def btr (A : Pg) (b t : Nat) : Prop := bTr (fun _ => A) t 17 - A 17 < bTr (fun _ => A) b 17 - A 17 ∨ (bTr (fun _ => A) t 17 - A 17 = bTr (fun _ => A) b 17 - A 17 ∧ (bTr (fun _ => A) b 19 < bTr (fun _ => A) t 19 ∨ (bTr (fun _ => A) b 19 = bTr (fun _ => A) t 19 ∧ b ≤ t)))
theorem dBest_sp {f : Nat} {j : Nat} : ∀ {s : Nat} {v1 v2 v3 : Int32}, s + j = f → ((v1 = -9 ∧ ∀ t, t < s → ¬ (A (59 + 8 * t + 5) = 0 ∧ A 7 ≠ A 4)) ∨ ∃ b, b < s ∧ v1 = nI b ∧ v2 = bTr (fun _ => A) b 17 - A 17 ∧ v3 = bTr (fun _ => A) b 19 ∧ (A (59 + 8 * b + 5) = 0 ∧ A 7 ≠ A 4) ∧ ∀ t, t < s → A (59 + 8 * t + 5) = 0 → btr A b t) → f ≤ 4 →
    dBest A (fun _ => A) j s v1 v2 v3 = -9 ∨ ∃ b, b < f ∧ dBest A (fun _ => A) j s v1 v2 v3 = nI b ∧ (A (59 + 8 * b + 5) = 0 ∧ A 7 ≠ A 4) ∧ ∀ t, t < f → A (59 + 8 * t + 5) = 0 → btr A b t := by
  induction j with
  | zero =>
    intro s v1 v2 v3 hj hi hf
    have : s = f := by omega
    subst this
    rcases hi with ⟨h1, -⟩ | ⟨b, b1, b2, -, -, b5, b6⟩
    · exact Or.inl h1
    · exact Or.inr ⟨b, b1, b2, b5, b6⟩
  | succ j ih =>
    intro s v1 v2 v3 hj hi hf
    unfold dBest
    by_cases k : A (59 + 8 * s + 5) = 0 ∧ A 7 ≠ A 4
    · rw [if_pos k]
      by_cases k2 : v1 = -9 ∨ v2 < bTr (fun _ => A) s 17 - A 17 ∨ (bTr (fun _ => A) s 17 - A 17 = v2 ∧ bTr (fun _ => A) s 19 < v3)
      · rw [if_pos k2]
        refine ih (by omega) (Or.inr ⟨s, by omega, rfl, rfl, rfl, k, fun t ht h0 => ?_⟩) hf
        by_cases e : t = s
        · subst e; exact Or.inr ⟨rfl, Or.inr ⟨rfl, Nat.le_refl _⟩⟩
        · rcases hi with ⟨h1, h2⟩ | ⟨b, b1, b2, b3, b4, b5, b6⟩
          · exact absurd ⟨h0, k.2⟩ (h2 t (by omega))
          · have y := b6 t (by omega) h0
            have k3 := k2.resolve_left (by rw [b2]; exact n9 (by omega))
            rw [b3, b4] at k3
            unfold btr at y ⊢
            generalize bTr (fun _ => A) s 17 - A 17 = p1 at *
            generalize bTr (fun _ => A) t 17 - A 17 = p2 at *
            generalize bTr (fun _ => A) b 17 - A 17 = p3 at *
            generalize bTr (fun _ => A) s 19 = q1 at *
            generalize bTr (fun _ => A) t 19 = q2 at *
            generalize bTr (fun _ => A) b 19 = q3 at *
            rcases k3 with k3 | ⟨k3, k4⟩ <;> rcases y with y | ⟨y, y1 | ⟨y1, y2⟩⟩
            · exact Or.inl (by grind)
            · exact Or.inl (by grind)
            · exact Or.inl (by grind)
            · exact Or.inl (by grind)
            · exact Or.inr ⟨by grind, Or.inl (by grind)⟩
            · exact Or.inr ⟨by grind, Or.inl (by grind)⟩
      · rw [if_neg k2]
        refine ih (by omega) (Or.inr ?_) hf
        rcases hi with ⟨h1, h2⟩ | ⟨b, b1, b2, b3, b4, b5, b6⟩
        · exact absurd (Or.inl h1) k2
        · refine ⟨b, by omega, b2, b3, b4, b5, fun t ht h0 => ?_⟩
          by_cases e : t = s
          · subst e
            unfold btr
            rw [b3, b4] at k2
            generalize bTr (fun _ => A) t 17 - A 17 = p1 at *
            generalize bTr (fun _ => A) b 17 - A 17 = p3 at *
            generalize bTr (fun _ => A) t 19 = q1 at *
            generalize bTr (fun _ => A) b 19 = q3 at *
            have k3 : ¬ p3 < p1 := fun y => k2 (Or.inr (Or.inl y))
            by_cases k4 : p1 = p3
            · have k5 : ¬ q1 < q3 := fun y => k2 (Or.inr (Or.inr ⟨k4, y⟩))
              by_cases k6 : q3 = q1
              · exact Or.inr ⟨k4, Or.inr ⟨k6, by omega⟩⟩
              · exact Or.inr ⟨k4, Or.inl (by grind)⟩
            · exact Or.inl (by grind)
          · exact b6 t (by omega) h0
    · rw [if_neg k]
      refine ih (by omega) ?_ hf
      rcases hi with ⟨h1, h2⟩ | ⟨b, b1, b2, b3, b4, b5, b6⟩
      · refine Or.inl ⟨h1, fun t ht => ?_⟩
        by_cases e : t = s
        · subst e; exact k
        · exact h2 t (by omega)
      · refine Or.inr ⟨b, by omega, b2, b3, b4, b5, fun t ht h0 => ?_⟩
        by_cases e : t = s
        · subst e; exact absurd ⟨h0, b5.2⟩ k
        · exact b6 t (by omega) h0
theorem aBs_sp {f : Nat} (hf : f ≤ 4) : aBs A f = -9 ∨ ∃ b, b < f ∧ aBs A f = nI b ∧ (A (59 + 8 * b + 5) = 0 ∧ A 7 ≠ A 4) ∧ ∀ t, t < f → A (59 + 8 * t + 5) = 0 → btr A b t :=
  dBest_sp (s := 0) (by omega) (Or.inl ⟨rfl, fun t ht => absurd ht (Nat.not_lt_zero _)⟩) hf
theorem dExt_0 {z : Nat} : dExt z 0 A = A := by
  funext k
  unfold dExt pU
  by_cases c : k = 21
  · rw [if_pos c, c]; grind
  · rw [if_neg c]
    by_cases d : k = 23 + 4 * z + 2
    · rw [if_pos d, d]; grind
    · rw [if_neg d]
end
