section
variable {F x a K : Nat} {M N : zMi} {A : Pg} {R : Rs} {g h s t : Nat}
theorem Suc_of {r : Int32} (hh : h < 10) (hs : s < 10) (ht : t < 1000) (hg : g = 10000 * h + 1000 * s + t) (k : ∀ (a : Nat) (M : zMi), RC M a A → ∃ M', sucB F a (nI h) (nI s) (nI t) M = some (r, M') ∧ fr a M M') : Suc F A g r := by
  intro a M hR
  rw [c_suc (by omega), show g / 10000 = h from by omega, show g / 1000 % 10 = s from by omega, show g % 1000 = t from by omega]
  exact k a M hR
theorem suc_0 (ht : t < 1000) : Suc F A t 0 := Suc_of (h := 0) (s := 0) (by decide) (by decide) ht (by omega) (fun a M _ => by
  refine ⟨M, ?_, fr_r⟩
  unfold sucB
  rw [if_neg (show ¬ nI 0 = 1 by decide), if_neg (show ¬ nI 0 = 2 by decide), if_neg (show ¬ nI 0 = 3 by decide), if_neg (show ¬ nI 0 = 4 by decide), if_neg (show ¬ nI 0 = 5 by decide), if_neg (show ¬ nI 0 = 6 by decide), if_neg (show ¬ nI 0 = 7 by decide), if_neg (show ¬ nI 0 = 8 by decide), if_neg (show ¬ nI 0 = 9 by decide)])
theorem suc_1 (hA : WF K A) (hs : s < 4) (hp : nI s < A 5) (ht : t < 1000) (c : t = 0 ∨ ¬ canT s (nI t) A) : Suc F A (10000 + 1000 * s + t) 0 := Suc_of (h := 1) (s := s) (t := t) (by decide) (by omega) ht (by omega) (fun a M hR => by
  refine ⟨M, ?_, fr_r⟩
  have e : f_X5_canLoadOnto F a (a + 17 + s) (nI t) M = some 0 := by
    by_cases t0 : t = 0
    · subst t0
      unfold f_X5_canLoadOnto
      rw [if_pos (show nI 0 < 1 by decide)]
    · rcases c_canTake (F := F) (u := nI t) hR hs (nI_le (a := 1) (by omega) (by omega)) with ⟨c3, e3⟩ | ⟨c3, e3⟩
      · exact absurd c3 (c.resolve_left t0)
      · exact e3
  unfold sucB f_X2_takes
  rw [if_pos (show nI 1 = 1 from rfl), c_shipS hR hA.1 hs hp, cal_s, zo_s, zo_s, e, cal_s, if_pos rfl, cal_s, show zb (0 : Int32) = true from rfl, grd_t])
theorem suc_2 (hA : WF K A) (hs : s < 4) (hp : nI s < A 5) : Suc F A (20000 + 1000 * s) (if A (59 + 8 * s + 5) = 0 ∧ A 7 ≠ A 4 then 1 else 0) := Suc_of (h := 2) (s := s) (t := 0) (by decide) (by omega) (by decide) (by omega) (fun a M hR => by
  have e := c_canSend (F := F) hR hs hA.2.2.1.2.2.2.2.2.1.2
  unfold sucB f_X2_sends
  rw [if_neg (show ¬ nI 2 = 1 by decide), if_pos (show nI 2 = 2 from rfl), if_pos (show nI 0 = 0 from rfl), c_shipS hR hA.1 hs hp, cal_s, zo_s, zo_s, e, cal_s]
  by_cases c : A (59 + 8 * s + 5) = 0 ∧ A 7 ≠ A 4
  · obtain ⟨M2, b1, b2, b3⟩ := c_send (F := F) hR hs
    rw [if_pos c, if_neg (show ¬ (1 : Int32) = 0 by decide), b1, cal_s, cal_s]
    exact ⟨M2, if_neg (show ¬ (1 : Int32) = 0 by decide), b2⟩
  · rw [if_neg c, if_pos rfl, cal_s]
    exact ⟨M, if_pos rfl, fr_r⟩)
theorem suc_2t (hs : s < 10) (ht : t < 1000) (t0 : 0 < t) : Suc F A (20000 + 1000 * s + t) 0 := Suc_of (h := 2) (s := s) (t := t) (by decide) (by omega) ht (by omega) (fun a M hR => by
  refine ⟨M, ?_, fr_r⟩
  unfold sucB
  rw [if_neg (show ¬ nI 2 = 1 by decide), if_pos (show nI 2 = 2 from rfl), if_neg (nI_ne0 t0 (by omega))])
theorem suc_2n (hs : s < 10) (hp : ¬ nI s < A 5) : Suc F A (20000 + 1000 * s) 0 := Suc_of (h := 2) (s := s) (t := 0) (by decide) (by omega) (by decide) (by omega) (fun a M hR => by
  refine ⟨M, ?_, fr_r⟩
  unfold sucB f_X2_sends
  rw [if_neg (show ¬ nI 2 = 1 by decide), if_pos (show nI 2 = 2 from rfl), if_pos (show nI 0 = 0 from rfl), c_shipN hR (Or.inr hp), cal_s, zo_n, zo_n, cal_s]
  exact if_pos rfl)
theorem suc_3 (hA : WF K A) (hs : s < 4) (hp : nI s < A 5) : Suc F A (30000 + 1000 * s) (if A (59 + 8 * s + 5) = 2 ∨ A (59 + 8 * s + 5) = 3 then 1 else 0) := Suc_of (h := 3) (s := s) (t := 0) (by decide) (by omega) (by decide) (by omega) (fun a M hR => by
  have e := c_canRecall (F := F) hR hs
  unfold sucB f_X2_recalls
  rw [if_neg (show ¬ nI 3 = 1 by decide), if_neg (show ¬ nI 3 = 2 by decide), if_pos (show nI 3 = 3 from rfl), if_pos (show nI 0 = 0 from rfl), c_shipS hR hA.1 hs hp, cal_s, zo_s, zo_s, e, cal_s]
  by_cases c : A (59 + 8 * s + 5) = 2 ∨ A (59 + 8 * s + 5) = 3
  · obtain ⟨M2, b1, b2, b3⟩ := c_recall (F := F) hR hA hs c
    rw [if_pos c, if_neg (show ¬ (1 : Int32) = 0 by decide), b1, cal_s, cal_s]
    exact ⟨M2, if_neg (show ¬ (1 : Int32) = 0 by decide), b2⟩
  · rw [if_neg c, if_pos rfl, cal_s]
    exact ⟨M, if_pos rfl, fr_r⟩)
theorem suc_40 (hA : WF K A) : Suc F A 40000 0 := Suc_of (h := 4) (s := 0) (t := 0) (by decide) (by decide) (by decide) (by omega) (fun a M hR => by
  have e : f_X5_canProlong F a (a + 8 + 0) (nI 0) M = some 0 := by
    unfold f_X5_canProlong
    rw [if_pos (show nI 0 < 1 by decide)]
  refine ⟨M, ?_, fr_r⟩
  unfold sucB f_X2_extendsPermit
  rw [if_neg (show ¬ nI 4 = 1 by decide), if_neg (show ¬ nI 4 = 2 by decide), if_neg (show ¬ nI 4 = 3 by decide), if_pos (show nI 4 = 4 from rfl), if_pos (show nI 0 < 100 by decide), c_zoneS (z := 0) hR (by decide) (z_0 hA), cal_s, zo_s, zo_s, e, cal_s, if_pos rfl, cal_s]
  exact if_pos rfl)
theorem suc_4t : Suc F A 40100 0 := Suc_of (h := 4) (s := 0) (t := 100) (by decide) (by decide) (by decide) (by omega) (fun a M hR => by
  refine ⟨M, ?_, fr_r⟩
  unfold sucB
  rw [if_neg (show ¬ nI 4 = 1 by decide), if_neg (show ¬ nI 4 = 2 by decide), if_neg (show ¬ nI 4 = 3 by decide), if_pos (show nI 4 = 4 from rfl), if_neg (show ¬ nI 100 < 100 by decide)])
theorem suc_4n (hs : s < 10) (hp : ¬ nI s < A 4) : Suc F A (40001 + 1000 * s) 0 := Suc_of (h := 4) (s := s) (t := 1) (by decide) (by omega) (by decide) (by omega) (fun a M hR => by
  refine ⟨M, ?_, fr_r⟩
  unfold sucB f_X2_extendsPermit
  rw [if_neg (show ¬ nI 4 = 1 by decide), if_neg (show ¬ nI 4 = 2 by decide), if_neg (show ¬ nI 4 = 3 by decide), if_pos (show nI 4 = 4 from rfl), if_pos (show nI 1 < 100 by decide), c_zoneN hR (Or.inr hp), cal_s, zo_n, zo_n, cal_s]
  exact if_pos rfl)
theorem suc_50 : Suc F A 50000 0 := Suc_of (h := 5) (s := 0) (t := 0) (by decide) (by decide) (by decide) (by omega) (fun a M hR => by
  refine ⟨M, ?_, fr_r⟩
  unfold sucB
  rw [if_neg (show ¬ nI 5 = 1 by decide), if_neg (show ¬ nI 5 = 2 by decide), if_neg (show ¬ nI 5 = 3 by decide), if_neg (show ¬ nI 5 = 4 by decide), if_pos (show nI 5 = 5 from rfl), if_pos (show nI 0 = 0 from rfl), if_pos (show nI 0 < 1 by decide)])
theorem suc_5 (hA : WF K A) (hK : K < 1000000) (hF : 101 ≤ F) : Suc F A 50099 1 := Suc_of (h := 5) (s := 0) (t := 99) (by decide) (by decide) (by decide) (by omega) (fun a M hR => by
  obtain ⟨M2, b1, b2, b3⟩ := c_days (F := F) (n := 99) hF hR hA (by omega) (by omega) (by omega)
  refine ⟨M2, ?_, b2⟩
  unfold sucB
  rw [if_neg (show ¬ nI 5 = 1 by decide), if_neg (show ¬ nI 5 = 2 by decide), if_neg (show ¬ nI 5 = 3 by decide), if_neg (show ¬ nI 5 = 4 by decide), if_pos (show nI 5 = 5 from rfl), if_pos (show nI 0 = 0 from rfl), if_neg (show ¬ nI 99 < 1 by decide), if_neg (show ¬ 99 < nI 99 by decide), b1, cal_s])
theorem suc_6 : Suc F A 60000 0 := Suc_of (h := 6) (s := 0) (t := 0) (by decide) (by decide) (by decide) (by omega) (fun a M hR => by
  refine ⟨M, ?_, fr_r⟩
  unfold sucB f_X2_buys f_X5_canPurchase
  rw [if_neg (show ¬ nI 6 = 1 by decide), if_neg (show ¬ nI 6 = 2 by decide), if_neg (show ¬ nI 6 = 3 by decide), if_neg (show ¬ nI 6 = 4 by decide), if_neg (show ¬ nI 6 = 5 by decide), if_pos (show nI 6 = 6 from rfl), if_pos (show nI 0 = 0 from rfl), if_pos (show nI 0 < 1 by decide), cal_s, if_pos rfl, cal_s]
  exact if_pos rfl)
theorem suc_7 {f l : Nat} (hf : f < 10) (hl : l < 99) (h7 : A 7 = nI f) (h8 : A 8 = nI l) : Suc F A (70000 + 1000 * f + l) 1 ∧ Suc F A (70001 + 1000 * f + l) 0 := by
  refine ⟨Suc_of (h := 7) (s := f) (t := l) (by decide) hf (by omega) (by omega) (fun a M hR => ?_), Suc_of (h := 7) (s := f) (t := l + 1) (by decide) hf (by omega) (by omega) (fun a M hR => ?_)⟩
  · have r7 : M a 9 = A 7 := hR.1.2.2.2.2.1
    have r8 : M a 10 = A 8 := hR.1.2.2.2.2.2.1
    refine ⟨M, ?_, fr_r⟩
    unfold sucB
    rw [if_neg (show ¬ nI 7 = 1 by decide), if_neg (show ¬ nI 7 = 2 by decide), if_neg (show ¬ nI 7 = 3 by decide), if_neg (show ¬ nI 7 = 4 by decide), if_neg (show ¬ nI 7 = 5 by decide), if_neg (show ¬ nI 7 = 6 by decide), if_pos (show nI 7 = 7 from rfl), if_pos (show nI l < 100 from nI_lt (b := 100) (by omega) (by decide)), r7, if_pos h7, r8, if_pos h8]
  · have r7 : M a 9 = A 7 := hR.1.2.2.2.2.1
    have r8 : M a 10 = A 8 := hR.1.2.2.2.2.2.1
    refine ⟨M, ?_, fr_r⟩
    unfold sucB
    rw [if_neg (show ¬ nI 7 = 1 by decide), if_neg (show ¬ nI 7 = 2 by decide), if_neg (show ¬ nI 7 = 3 by decide), if_neg (show ¬ nI 7 = 4 by decide), if_neg (show ¬ nI 7 = 5 by decide), if_neg (show ¬ nI 7 = 6 by decide), if_pos (show nI 7 = 7 from rfl), if_pos (show nI (l + 1) < 100 from nI_lt (b := 100) (by omega) (by decide)), r7, if_pos h7, r8, if_neg (fun q => by rw [h8] at q; have := (nI_eq (a := l) (b := l + 1) (by omega) (by omega)).mp q; omega)]
theorem suc_8 {w : Nat} (hA : WF K A) (hs : s < 4) (hp : nI s < A 5) (hw : w < 5) (h5 : A (59 + 8 * s + 5) = nI w) : Suc F A (80000 + 1000 * s + w) 1 ∧ Suc F A (80005 + 1000 * s) 0 := by
  refine ⟨Suc_of (h := 8) (s := s) (t := w) (by decide) (by omega) (by omega) (by omega) (fun a M hR => ?_), Suc_of (h := 8) (s := s) (t := 5) (by decide) (by omega) (by omega) (by omega) (fun a M hR => ?_)⟩
  · refine ⟨M, ?_, fr_r⟩
    unfold sucB f_X2_isAt
    rw [if_neg (show ¬ nI 8 = 1 by decide), if_neg (show ¬ nI 8 = 2 by decide), if_neg (show ¬ nI 8 = 3 by decide), if_neg (show ¬ nI 8 = 4 by decide), if_neg (show ¬ nI 8 = 5 by decide), if_neg (show ¬ nI 8 = 6 by decide), if_neg (show ¬ nI 8 = 7 by decide), if_pos (show nI 8 = 8 from rfl), if_pos (show nI w < 10 from nI_lt (b := 10) (by omega) (by decide)), c_shipS hR hA.1 hs hp, cal_s, zo_s, zo_s, RC_s hR hs (by decide), if_pos h5, cal_s, if_neg (show ¬ (1 : Int32) = 0 by decide)]
  · refine ⟨M, ?_, fr_r⟩
    unfold sucB f_X2_isAt
    rw [if_neg (show ¬ nI 8 = 1 by decide), if_neg (show ¬ nI 8 = 2 by decide), if_neg (show ¬ nI 8 = 3 by decide), if_neg (show ¬ nI 8 = 4 by decide), if_neg (show ¬ nI 8 = 5 by decide), if_neg (show ¬ nI 8 = 6 by decide), if_neg (show ¬ nI 8 = 7 by decide), if_pos (show nI 8 = 8 from rfl), if_pos (show nI 5 < 10 by decide), c_shipS hR hA.1 hs hp, cal_s, zo_s, zo_s, RC_s hR hs (by decide), if_neg (fun q => by rw [h5] at q; have := (nI_eq (a := w) (b := 5) (by omega) (by omega)).mp q; omega), cal_s, if_pos rfl]
theorem suc_9 {r : Nat} (hr : r < 7) (h9 : A 9 = nI r) : Suc F A (90000 + r) 1 ∧ Suc F A 90007 0 := by
  refine ⟨Suc_of (h := 9) (s := 0) (t := r) (by decide) (by decide) (by omega) (by omega) (fun a M hR => ?_), Suc_of (h := 9) (s := 0) (t := 7) (by decide) (by decide) (by omega) (by omega) (fun a M hR => ?_)⟩
  · have r9 : M a 11 = A 9 := hR.1.2.2.2.2.2.2
    refine ⟨M, ?_, fr_r⟩
    unfold sucB
    rw [if_neg (show ¬ nI 9 = 1 by decide), if_neg (show ¬ nI 9 = 2 by decide), if_neg (show ¬ nI 9 = 3 by decide), if_neg (show ¬ nI 9 = 4 by decide), if_neg (show ¬ nI 9 = 5 by decide), if_neg (show ¬ nI 9 = 6 by decide), if_neg (show ¬ nI 9 = 7 by decide), if_neg (show ¬ nI 9 = 8 by decide), if_pos (show nI 9 = 9 from rfl), if_pos (show nI 0 = 0 from rfl), if_pos (show nI r < 10 from nI_lt (b := 10) (by omega) (by decide)), r9, if_pos h9]
  · have r9 : M a 11 = A 9 := hR.1.2.2.2.2.2.2
    refine ⟨M, ?_, fr_r⟩
    unfold sucB
    rw [if_neg (show ¬ nI 9 = 1 by decide), if_neg (show ¬ nI 9 = 2 by decide), if_neg (show ¬ nI 9 = 3 by decide), if_neg (show ¬ nI 9 = 4 by decide), if_neg (show ¬ nI 9 = 5 by decide), if_neg (show ¬ nI 9 = 6 by decide), if_neg (show ¬ nI 9 = 7 by decide), if_neg (show ¬ nI 9 = 8 by decide), if_pos (show nI 9 = 9 from rfl), if_pos (show nI 0 = 0 from rfl), if_pos (show nI 7 < 10 by decide), r9, if_neg (fun q => by rw [h9] at q; have := (nI_eq (a := r) (b := 7) (by omega) (by omega)).mp q; omega)]
theorem dPre_k {q k : Nat} (hA : WF K A) (hk : k = 3 ∨ k = 17) : dPre q A k = A k := by
  obtain ⟨f, f0, f4, hf⟩ := wFl_N hA.1
  have hm : q / 8 % ix (A 5) < 4 := by rw [hf, ixN (by omega)]; exact Nat.lt_of_lt_of_le (Nat.mod_lt _ f0) f4
  unfold dPre
  split
  · rw [pU_n (by omega)]
  · split
    · split
      · unfold dFill dSend dTake
        rw [pU_n (by omega), pU_n (by omega), pU_n (by omega), pU_n (by omega)]
      · rfl
    · rfl
theorem dSim_f {j : Nat} : ∀ {K t : Nat} {sd : Int64} {A : Pg}, WF K A → K + j ≤ 800000000 → A 3 = nI t → WF (K + j) (dSim j sd A) ∧ dSim j sd A 3 = nI (t + j) ∧ A 17 ≤ dSim j sd A 17 := by
  induction j with
  | zero => intro K t sd A hA _ h3; exact ⟨hA, h3, by show A 17 ≤ A 17; grind⟩
  | succ j ih =>
    intro K t sd A hA hK h3
    have hP := WF_pre (q := rqN (sd * (6364136223846793005 : Int64) + (1442695040888963407 : Int64))) hA
    have h17 := dDay_17 hP
    rw [dPre_k hA (Or.inr rfl)] at h17
    have e3 : dDay (dPre (rqN (sd * (6364136223846793005 : Int64) + (1442695040888963407 : Int64))) A) 3 = nI (t + 1) := by
      rw [dDay_3, dPre_k hA (Or.inl rfl), h3, ad1]
    obtain ⟨g1, g2, g3⟩ := ih (sd := sd * (6364136223846793005 : Int64) + (1442695040888963407 : Int64)) (WF_dday hP (by omega)) (by omega) e3
    unfold dSim
    refine ⟨by rw [show K + (j + 1) = K + 1 + j from by omega]; exact g1, by rw [show t + (j + 1) = t + 1 + j from by omega]; exact g2, by grind⟩
end
