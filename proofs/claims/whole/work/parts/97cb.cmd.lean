section
def sucB (F : Nat) (p0 : Nat) (h x1 x2 : Int32) (M : zMi) : Option (Int32 × zMi) := (if h = 1 then cal (f_X5_shipNumbered F p0 x1 M) (fun r3 => zopt r3 (cal (f_X2_takes F p0 none x2 M) (fun r5 => grd (zb r5.1) (some (r5.1, r5.2)))) (fun q4 => cal (f_X2_takes F p0 (some q4) x2 M) (fun r6 => grd (zb r6.1) (some (r6.1, r6.2))))) else (if h = 2 then (if x2 = (0 : Int32) then cal (f_X5_shipNumbered F p0 x1 M) (fun r7 => zopt r7 (cal (f_X2_sends F p0 none M) (fun r9 => (if r9.1 = (0 : Int32) then some ((0 : Int32), r9.2) else some ((1 : Int32), r9.2)))) (fun q8 => cal (f_X2_sends F p0 (some q8) M) (fun r10 => (if r10.1 = (0 : Int32) then some ((0 : Int32), r10.2) else some ((1 : Int32), r10.2))))) else some ((0 : Int32), M)) else (if h = 3 then (if x2 = (0 : Int32) then cal (f_X5_shipNumbered F p0 x1 M) (fun r11 => zopt r11 (cal (f_X2_recalls F p0 none M) (fun r13 => (if r13.1 = (0 : Int32) then some ((0 : Int32), r13.2) else some ((1 : Int32), r13.2)))) (fun q12 => cal (f_X2_recalls F p0 (some q12) M) (fun r14 => (if r14.1 = (0 : Int32) then some ((0 : Int32), r14.2) else some ((1 : Int32), r14.2))))) else some ((0 : Int32), M)) else (if h = 4 then (if x2 < (100 : Int32) then cal (f_X5_zoneNumbered F p0 x1 M) (fun r15 => zopt r15 (cal (f_X2_extendsPermit F p0 none x2 M) (fun r17 => (if r17.1 = (0 : Int32) then some ((0 : Int32), r17.2) else some ((1 : Int32), r17.2)))) (fun q16 => cal (f_X2_extendsPermit F p0 (some q16) x2 M) (fun r18 => (if r18.1 = (0 : Int32) then some ((0 : Int32), r18.2) else some ((1 : Int32), r18.2))))) else some ((0 : Int32), M)) else (if h = 5 then (if x1 = (0 : Int32) then (if x2 < (1 : Int32) then some ((0 : Int32), M) else (if (99 : Int32) < x2 then some ((0 : Int32), M) else cal (f_X5_passDays F p0 x2 M) (fun r19 => some ((1 : Int32), r19)))) else some ((0 : Int32), M)) else (if h = 6 then (if x1 = (0 : Int32) then cal (f_X2_buys F p0 x2 M) (fun r20 => (if r20.1 = (0 : Int32) then some ((0 : Int32), r20.2) else some ((1 : Int32), r20.2))) else some ((0 : Int32), M)) else (if h = 7 then (if x2 < (100 : Int32) then (if (M p0 9) = x1 then (if (M p0 10) = x2 then some ((1 : Int32), M) else some ((0 : Int32), M)) else some ((0 : Int32), M)) else some ((0 : Int32), M)) else (if h = 8 then (if x2 < (10 : Int32) then cal (f_X5_shipNumbered F p0 x1 M) (fun r21 => zopt r21 (cal (f_X2_isAt F none x2 M) (fun r23 => (if r23 = (0 : Int32) then some ((0 : Int32), M) else some ((1 : Int32), M)))) (fun q22 => cal (f_X2_isAt F (some q22) x2 M) (fun r24 => (if r24 = (0 : Int32) then some ((0 : Int32), M) else some ((1 : Int32), M))))) else some ((0 : Int32), M)) else (if h = 9 then (if x1 = (0 : Int32) then (if x2 < (10 : Int32) then (if (M p0 11) = x2 then some ((1 : Int32), M) else some ((0 : Int32), M)) else some ((0 : Int32), M)) else some ((0 : Int32), M)) else some ((0 : Int32), M))))))))))
def doB (F : Nat) (p0 : Nat) (p1 p2 p3 p4 x1 r2 : Int32) (M : zMi) : Option (Int32 × zMi) := (if p1 = 1 then (if r2 = (0 : Int32) then some ((0 : Int32), M) else (if x1 = (0 : Int32) then some ((0 : Int32), M) else cal (f_X11_canTake F (p0 + 4) p2 x1 M) (fun r3 => (if r3 = (0 : Int32) then some ((0 : Int32), M) else cal (f_X11_takeOn F (p0 + 4) p2 x1 M) (fun r4 => some ((1 : Int32), r4)))))) else (if p1 = 2 then (if x1 = (0 : Int32) then (if r2 = (0 : Int32) then some ((0 : Int32), M) else cal (f_X11_canSend F (p0 + 4) p2 M) (fun r5 => (if r5 = (0 : Int32) then some ((0 : Int32), M) else cal (f_X11_sendOn F (p0 + 4) p2 M) (fun r6 => (if (0 : Int32) < r6.1 then some ((1 : Int32), r6.2) else some ((0 : Int32), r6.2)))))) else some ((0 : Int32), M)) else (if p1 = 3 then (if x1 = (0 : Int32) then (if r2 = (0 : Int32) then some ((0 : Int32), M) else cal (f_X11_canRecall F (p0 + 4) p2 M) (fun r7 => (if r7 = (0 : Int32) then some ((0 : Int32), M) else cal (f_X11_recallOn F (p0 + 4) p2 M) (fun r8 => (if (0 : Int32) < r8.1 then some ((1 : Int32), r8.2) else some ((0 : Int32), r8.2)))))) else some ((0 : Int32), M)) else (if p1 = 4 then (if p3 = (0 : Int32) then (if p4 = (0 : Int32) then some ((0 : Int32), M) else cal (f_X11_isZone F (p0 + 4) p2 M) (fun r9 => (if r9 = (0 : Int32) then some ((0 : Int32), M) else cal (f_X11_canExtend F (p0 + 4) p2 p4 M) (fun r10 => (if r10 = (0 : Int32) then some ((0 : Int32), M) else cal (f_X11_extendOn F (p0 + 4) p2 p4 M) (fun r11 => some ((1 : Int32), r11))))))) else some ((0 : Int32), M)) else (if p1 = 5 then (if p2 = (0 : Int32) then (if p3 = (0 : Int32) then (if (0 : Int32) < p4 then cal (f_X11_daysOn F (p0 + 4) p4 M) (fun r12 => (if r12.1 < (0 : Int32) then some ((0 : Int32), r12.2) else some ((1 : Int32), r12.2))) else some ((0 : Int32), M)) else some ((0 : Int32), M)) else some ((0 : Int32), M)) else (if p1 = 6 then (if p2 = (0 : Int32) then (if x1 = (0 : Int32) then some ((0 : Int32), M) else (if (9999 : Int32) < ((M (p0 + 4) 2) + x1) then some ((0 : Int32), M) else cal (f_X11_buyOn F (p0 + 4) x1 M) (fun r13 => some ((1 : Int32), r13)))) else some ((0 : Int32), M)) else (if p1 = 7 then (if p3 = (0 : Int32) then (if (M (p0 + 4) 7) = p2 then (if (M (p0 + 4) 8) = p4 then some ((1 : Int32), M) else some ((0 : Int32), M)) else some ((0 : Int32), M)) else some ((0 : Int32), M)) else (if p1 = 8 then (if p3 = (0 : Int32) then (if p4 < (5 : Int32) then (if r2 = (0 : Int32) then some ((0 : Int32), M) else cal (f_X11_shipAt F p2 M) (fun r14 => grd (inb (r14 + (5 : Int32)) 121) ((if (M (p0 + 4) (ix (r14 + (5 : Int32)))) = p4 then some ((1 : Int32), M) else some ((0 : Int32), M))))) else some ((0 : Int32), M)) else some ((0 : Int32), M)) else (if p1 = 9 then (if p2 = (0 : Int32) then (if p3 = (0 : Int32) then (if p4 < (10 : Int32) then (if (M (p0 + 4) 9) = p4 then some ((1 : Int32), M) else some ((0 : Int32), M)) else some ((0 : Int32), M)) else some ((0 : Int32), M)) else some ((0 : Int32), M)) else some ((0 : Int32), M))))))))))
variable {F x a b K : Nat} {M N : zMi} {A : Pg}
theorem c_suc {g : Nat} (hg : g < 100000) : f_X2_succeeds F a (nI g) M = sucB F a (nI (g / 10000)) (nI (g / 1000 % 10)) (nI (g % 1000)) M := by
  unfold f_X2_succeeds sucB
  rw [show (1000 : Int32) = nI 1000 from rfl, show (10000 : Int32) = nI 10000 from rfl, show (10 : Int32) = nI 10 from rfl, pk_rem (a := g) (d := 1000) (by omega) (by decide) (by decide), pk_div (a := g) (d := 1000) (by omega) (by decide) (by decide), pk_div (a := g) (d := 10000) (by omega) (by decide) (by decide), pk_rem (a := g / 1000) (d := 10) (by omega) (by decide) (by decide), bnd_e, bnd_e]
theorem iShip {s : Nat} (h : wFl A) (hs : s < 10) : (0 ≤ nI s ∧ nI s ≤ A 5 - 1) ↔ nI s < A 5 := by
  have q5 : 1 ≤ A 5 ∧ A 5 ≤ 4 := by rcases h.1 with q | q | q | q <;> rw [q] <;> decide
  have h0 : 0 ≤ nI s := nI_pos' (by omega)
  have h1 : nI s ≤ 9 := nI_le (b := 9) (by omega) (by decide)
  constructor
  · intro y; grind
  · intro y; exact ⟨h0, by grind⟩
theorem iZone {s : Nat} (hA : WF K A) (hs : s < 10) : (0 ≤ nI s ∧ nI s ≤ A 4 - 1) ↔ nI s < A 4 := by
  have q4 := hA.2.2.1.2.2.2.1
  have h0 : 0 ≤ nI s := nI_pos' (by omega)
  have h1 : nI s ≤ 9 := nI_le (b := 9) (by omega) (by decide)
  constructor
  · intro y; grind
  · intro y; exact ⟨h0, by grind⟩
theorem lt4 {s : Nat} (h : wFl A) (hs : s < 10) (c : nI s < A 5) : s < 4 := by
  obtain ⟨f, f0, f4, h5⟩ := wFl_N h
  rw [h5] at c
  have := (nI_ltI (a := s) (b := f) (by omega) (by omega)).mp c
  omega
theorem lt9 {s : Nat} (hA : WF K A) (hs : s < 10) (c : nI s < A 4) : s < 9 := by
  obtain ⟨f, f9, f0, h4⟩ := wZ_N hA
  rw [h4] at c
  have := (nI_ltI (a := s) (b := f) (by omega) (by omega)).mp c
  omega
theorem do_st {p1 : Int32} {s u w t : Nat} (h : wFl A) (hs : s < 10) (ht : 100 * u + w = t) : f_X11_does F b p1 (nI s) (nI u) (nI w) (pR N (b + 4) A) = doB F b p1 (nI s) (nI u) (nI w) (nI t) (if nI s < A 5 then 1 else 0) (pR N (b + 4) A) := by
  unfold f_X11_does
  rw [bnd_e, m_isShip, cal_s, show (100 : Int32) * nI u + nI w = nI t from by rw [show (100 : Int32) = nI 100 from rfl, nI_mul, nI_add, ht]]
  have e : (if 0 ≤ nI s ∧ nI s ≤ pR N (b + 4) A (b + 4) 5 - 1 then (1 : Int32) else 0) = if nI s < A 5 then 1 else 0 := by
    rw [pR_s]
    by_cases c : nI s < A 5
    · rw [if_pos c, if_pos ((iShip h hs).mpr c)]
    · rw [if_neg c, if_neg (fun y => c ((iShip h hs).mp y))]
  rw [e]
  rfl
/-- a command of a script, in both -/
def cmdOk (F a b K : Nat) (hh s u w t : Nat) (M : zMi) (A : Pg) : Prop := ∃ r M' B, sucB F a (nI hh) (nI s) (nI t) M = some (r, M') ∧ fr a M M' ∧ RC M' a B ∧ WF (K + 99) B ∧ ∀ N, doB F b (nI hh) (nI s) (nI u) (nI w) (nI t) (if nI s < A 5 then 1 else 0) (pR N (b + 4) A) = some (r, pR N (b + 4) B)
theorem cmd_no {hh s u w t : Nat} (h : RC M a A) (hA : WF K A) (hK : K < 900000000) (e1 : sucB F a (nI hh) (nI s) (nI t) M = some (0, M)) (e2 : ∀ N, doB F b (nI hh) (nI s) (nI u) (nI w) (nI t) (if nI s < A 5 then 1 else 0) (pR N (b + 4) A) = some (0, pR N (b + 4) A)) : cmdOk F a b K hh s u w t M A :=
  ⟨0, M, A, e1, fr_r, h, WF_mono hA (by omega) (by omega), e2⟩
theorem cmd_ye {hh s u w t : Nat} {M' : zMi} {B : Pg} (hA : WF K B) (hK : K < 900000000) (hf : fr a M M') (h : RC M' a B) (e1 : sucB F a (nI hh) (nI s) (nI t) M = some (1, M')) (e2 : ∀ N, doB F b (nI hh) (nI s) (nI u) (nI w) (nI t) (if nI s < A 5 then 1 else 0) (pR N (b + 4) A) = some (1, pR N (b + 4) B)) : cmdOk F a b K hh s u w t M A :=
  ⟨1, M', B, e1, hf, h, WF_mono hA (by omega) (by omega), e2⟩

theorem cmd_1 {s u w t : Nat} (h : RC M a A) (hA : WF K A) (hK : K < 900000000) (hF : 101 ≤ F) (hs : s < 10) (hu : u < 10) (hw : w < 100) (ht : 100 * u + w = t) : cmdOk F a b K 1 s u w t M A := by
  by_cases cs : nI s < A 5
  · have hs4 := lt4 hA.1 hs cs
    by_cases c0 : t = 0
    · refine cmd_no h hA hK ?_ (fun N => ?_)
      · unfold sucB f_X2_takes f_X5_canLoadOnto
        rw [if_pos (show nI 1 = 1 from rfl), c_shipS h hA.1 hs4 cs, cal_s, zo_s, zo_s, c0, if_pos (show nI 0 < 1 by decide), cal_s, if_pos rfl, cal_s, show zb ((0 : Int32), M).1 = true from rfl, grd_t]
      · unfold doB
        rw [if_pos (show nI 1 = 1 from rfl), if_pos cs, if_neg (show ¬ (1 : Int32) = 0 by decide), c0, if_pos (show nI 0 = 0 from rfl)]
    · have t1 : (1 : Int32) ≤ nI t := nI_le (a := 1) (by omega) (by omega)
      rcases c_canTake (F := F) h hs4 t1 with ⟨c3, e3⟩ | ⟨c3, e3⟩
      · obtain ⟨M2, b1, b2, b3⟩ := c_take (F := F) (u := nI t) h hs4
        refine cmd_ye (WF_take hA hs4 cs ⟨by grind, by have := c3.2.1; grind, by have := c3.2.2; grind⟩) hK b2 b3 ?_ (fun N => ?_)
        · unfold sucB f_X2_takes
          rw [if_pos (show nI 1 = 1 from rfl), c_shipS h hA.1 hs4 cs, cal_s, zo_s, zo_s, e3, cal_s, if_neg (show ¬ (1 : Int32) = 0 by decide), b1, cal_s, cal_s, show zb ((1 : Int32), M2).1 = true from rfl, grd_t]
        · have mc := (m_canTake (F := F) (u := nI t) (N := pR N (b + 4) A) (r := b + 4) pR_s hs4).1 c3
          unfold doB
          rw [if_pos (show nI 1 = 1 from rfl), if_pos cs, if_neg (show ¬ (1 : Int32) = 0 by decide), if_neg (show ¬ nI t = 0 from nI_ne0 (by omega) (by omega)), mc, cal_s, if_neg (show ¬ (1 : Int32) = 0 by decide), m_take hs4, cal_s]
      · refine cmd_no h hA hK ?_ (fun N => ?_)
        · unfold sucB f_X2_takes
          rw [if_pos (show nI 1 = 1 from rfl), c_shipS h hA.1 hs4 cs, cal_s, zo_s, zo_s, e3, cal_s, if_pos rfl, cal_s, show zb ((0 : Int32), M).1 = true from rfl, grd_t]
        · have mc := (m_canTake (F := F) (u := nI t) (N := pR N (b + 4) A) (r := b + 4) pR_s hs4).2 c3
          unfold doB
          rw [if_pos (show nI 1 = 1 from rfl), if_pos cs, if_neg (show ¬ (1 : Int32) = 0 by decide), if_neg (show ¬ nI t = 0 from nI_ne0 (by omega) (by omega)), mc, cal_s, if_pos rfl]
  · refine cmd_no h hA hK ?_ (fun N => ?_)
    · unfold sucB f_X2_takes
      rw [if_pos (show nI 1 = 1 from rfl), c_shipN h (Or.inr cs), cal_s, zo_n, zo_n, cal_s, show zb ((0 : Int32), M).1 = true from rfl, grd_t]
    · unfold doB
      rw [if_pos (show nI 1 = 1 from rfl), if_neg cs, if_pos rfl]
theorem cmd_2 {s u w t : Nat} (h : RC M a A) (hA : WF K A) (hK : K < 900000000) (hF : 101 ≤ F) (hs : s < 10) (hu : u < 10) (hw : w < 100) (ht : 100 * u + w = t) : cmdOk F a b K 2 s u w t M A := by
  by_cases c0 : t = 0
  · by_cases cs : nI s < A 5
    · have hs4 := lt4 hA.1 hs cs
      have cc := c_canSend (F := F) h hs4 hA.2.2.1.2.2.2.2.2.1.2
      by_cases c3 : A (59 + 8 * s + 5) = 0 ∧ A 7 ≠ A 4
      · obtain ⟨M2, b1, b2, b3⟩ := c_send (F := F) h hs4
        rw [if_pos c3] at cc
        refine cmd_ye (WF_send hA hs4 cs c3.1) hK b2 b3 ?_ (fun N => ?_)
        · unfold sucB f_X2_sends
          rw [if_neg (show ¬ nI 2 = 1 by decide), if_pos (show nI 2 = 2 from rfl), c0, if_pos (show nI 0 = 0 from rfl), c_shipS h hA.1 hs4 cs, cal_s, zo_s, zo_s, cc, cal_s, if_neg (show ¬ (1 : Int32) = 0 by decide), b1, cal_s, cal_s, if_neg (show ¬ (1 : Int32) = 0 by decide)]
        · have mc := m_canSend (F := F) (r := b + 4) (M := N) (A := A) hs4
          have q7 := hA.2.2.1.2.2.2.2.2.1
          have q4 := hA.2.2.1.2.2.2.1
          rw [if_pos c3] at mc
          unfold doB
          rw [if_neg (show ¬ nI 2 = 1 by decide), if_pos (show nI 2 = 2 from rfl), c0, if_pos (show nI 0 = 0 from rfl), if_pos cs, if_neg (show ¬ (1 : Int32) = 0 by decide), mc, cal_s, if_neg (show ¬ (1 : Int32) = 0 by decide), m_send hs4, cal_s]
          dsimp only
          rw [if_pos (show 0 < A 7 + 1 by grind)]
      · rw [if_neg c3] at cc
        refine cmd_no h hA hK ?_ (fun N => ?_)
        · unfold sucB f_X2_sends
          rw [if_neg (show ¬ nI 2 = 1 by decide), if_pos (show nI 2 = 2 from rfl), c0, if_pos (show nI 0 = 0 from rfl), c_shipS h hA.1 hs4 cs, cal_s, zo_s, zo_s, cc, cal_s, if_pos rfl, cal_s, if_pos rfl]
        · have mc := m_canSend (F := F) (r := b + 4) (M := N) (A := A) hs4
          rw [if_neg c3] at mc
          unfold doB
          rw [if_neg (show ¬ nI 2 = 1 by decide), if_pos (show nI 2 = 2 from rfl), c0, if_pos (show nI 0 = 0 from rfl), if_pos cs, if_neg (show ¬ (1 : Int32) = 0 by decide), mc, cal_s, if_pos rfl]
    · refine cmd_no h hA hK ?_ (fun N => ?_)
      · unfold sucB f_X2_sends
        rw [if_neg (show ¬ nI 2 = 1 by decide), if_pos (show nI 2 = 2 from rfl), c0, if_pos (show nI 0 = 0 from rfl), c_shipN h (Or.inr cs), cal_s, zo_n, zo_n, cal_s, if_pos rfl]
      · unfold doB
        rw [if_neg (show ¬ nI 2 = 1 by decide), if_pos (show nI 2 = 2 from rfl), c0, if_pos (show nI 0 = 0 from rfl), if_neg cs, if_pos rfl]
  · have t0 : ¬ nI t = 0 := nI_ne0 (by omega) (by omega)
    refine cmd_no h hA hK ?_ (fun N => ?_)
    · unfold sucB
      rw [if_neg (show ¬ nI 2 = 1 by decide), if_pos (show nI 2 = 2 from rfl), if_neg t0]
    · unfold doB
      rw [if_neg (show ¬ nI 2 = 1 by decide), if_pos (show nI 2 = 2 from rfl), if_neg t0]
theorem cmd_3 {s u w t : Nat} (h : RC M a A) (hA : WF K A) (hK : K < 900000000) (hF : 101 ≤ F) (hs : s < 10) (hu : u < 10) (hw : w < 100) (ht : 100 * u + w = t) : cmdOk F a b K 3 s u w t M A := by
  by_cases c0 : t = 0
  · by_cases cs : nI s < A 5
    · have hs4 := lt4 hA.1 hs cs
      have cc := c_canRecall (F := F) h hs4
      by_cases c3 : A (59 + 8 * s + 5) = 2 ∨ A (59 + 8 * s + 5) = 3
      · obtain ⟨M2, b1, b2, b3⟩ := c_recall (F := F) h hA hs4 c3
        rw [if_pos c3] at cc
        refine cmd_ye (WF_recall hA hs4 c3) hK b2 b3 ?_ (fun N => ?_)
        · unfold sucB f_X2_recalls
          rw [if_neg (show ¬ nI 3 = 1 by decide), if_neg (show ¬ nI 3 = 2 by decide), if_pos (show nI 3 = 3 from rfl), c0, if_pos (show nI 0 = 0 from rfl), c_shipS h hA.1 hs4 cs, cal_s, zo_s, zo_s, cc, cal_s, if_neg (show ¬ (1 : Int32) = 0 by decide), b1, cal_s, cal_s, if_neg (show ¬ (1 : Int32) = 0 by decide)]
        · have mc := m_canRecall (F := F) (r := b + 4) (N := pR N (b + 4) A) (A := A) pR_s hs4
          have q7 := hA.2.2.1.2.2.2.2.2.1
          have q4 := hA.2.2.1.2.2.2.1
          rw [if_pos c3] at mc
          unfold doB
          rw [if_neg (show ¬ nI 3 = 1 by decide), if_neg (show ¬ nI 3 = 2 by decide), if_pos (show nI 3 = 3 from rfl), c0, if_pos (show nI 0 = 0 from rfl), if_pos cs, if_neg (show ¬ (1 : Int32) = 0 by decide), mc, cal_s, if_neg (show ¬ (1 : Int32) = 0 by decide), m_recall hs4 (by omega) hA.2.1, cal_s]
          dsimp only
          rw [if_pos (show 0 < dWay A by unfold dWay; split <;> grind)]
      · rw [if_neg c3] at cc
        refine cmd_no h hA hK ?_ (fun N => ?_)
        · unfold sucB f_X2_recalls
          rw [if_neg (show ¬ nI 3 = 1 by decide), if_neg (show ¬ nI 3 = 2 by decide), if_pos (show nI 3 = 3 from rfl), c0, if_pos (show nI 0 = 0 from rfl), c_shipS h hA.1 hs4 cs, cal_s, zo_s, zo_s, cc, cal_s, if_pos rfl, cal_s, if_pos rfl]
        · have mc := m_canRecall (F := F) (r := b + 4) (N := pR N (b + 4) A) (A := A) pR_s hs4
          rw [if_neg c3] at mc
          unfold doB
          rw [if_neg (show ¬ nI 3 = 1 by decide), if_neg (show ¬ nI 3 = 2 by decide), if_pos (show nI 3 = 3 from rfl), c0, if_pos (show nI 0 = 0 from rfl), if_pos cs, if_neg (show ¬ (1 : Int32) = 0 by decide), mc, cal_s, if_pos rfl]
    · refine cmd_no h hA hK ?_ (fun N => ?_)
      · unfold sucB f_X2_recalls
        rw [if_neg (show ¬ nI 3 = 1 by decide), if_neg (show ¬ nI 3 = 2 by decide), if_pos (show nI 3 = 3 from rfl), c0, if_pos (show nI 0 = 0 from rfl), c_shipN h (Or.inr cs), cal_s, zo_n, zo_n, cal_s, if_pos rfl]
      · unfold doB
        rw [if_neg (show ¬ nI 3 = 1 by decide), if_neg (show ¬ nI 3 = 2 by decide), if_pos (show nI 3 = 3 from rfl), c0, if_pos (show nI 0 = 0 from rfl), if_neg cs, if_pos rfl]
  · have t0 : ¬ nI t = 0 := nI_ne0 (by omega) (by omega)
    refine cmd_no h hA hK ?_ (fun N => ?_)
    · unfold sucB
      rw [if_neg (show ¬ nI 3 = 1 by decide), if_neg (show ¬ nI 3 = 2 by decide), if_pos (show nI 3 = 3 from rfl), if_neg t0]
    · unfold doB
      rw [if_neg (show ¬ nI 3 = 1 by decide), if_neg (show ¬ nI 3 = 2 by decide), if_pos (show nI 3 = 3 from rfl), if_neg t0]
theorem cmd_4 {s u w t : Nat} (h : RC M a A) (hA : WF K A) (hK : K < 900000000) (hF : 101 ≤ F) (hs : s < 10) (hu : u < 10) (hw : w < 100) (ht : 100 * u + w = t) : cmdOk F a b K 4 s u w t M A := by
  by_cases cu : u = 0
  · have tw : t = w := by omega
    subst tw
    have t99 : nI t < 100 := nI_lt (b := 100) (by omega) (by decide)
    have u0 : nI u = 0 := by rw [cu]; rfl
    by_cases c0 : t = 0
    · have e1 : ∀ (q : Nat), f_X5_canProlong F a q (nI t) M = some 0 := fun q => by
        unfold f_X5_canProlong
        rw [c0, if_pos (show nI 0 < 1 by decide)]
      refine cmd_no h hA hK ?_ (fun N => ?_)
      · unfold sucB f_X2_extendsPermit
        rw [if_neg (show ¬ nI 4 = 1 by decide), if_neg (show ¬ nI 4 = 2 by decide), if_neg (show ¬ nI 4 = 3 by decide), if_pos (show nI 4 = 4 from rfl), if_pos t99]
        by_cases cz : nI s < A 4
        · rw [c_zoneS h (lt9 hA hs cz) cz, cal_s, zo_s, zo_s, e1, cal_s, if_pos rfl, cal_s, if_pos rfl]
        · rw [c_zoneN h (Or.inr cz), cal_s, zo_n, zo_n, cal_s, if_pos rfl]
      · unfold doB
        rw [if_neg (show ¬ nI 4 = 1 by decide), if_neg (show ¬ nI 4 = 2 by decide), if_neg (show ¬ nI 4 = 3 by decide), if_pos (show nI 4 = 4 from rfl), if_pos u0, c0, if_pos (show nI 0 = 0 from rfl)]
    · have t1 : (1 : Int32) ≤ nI t := nI_le (a := 1) (by omega) (by omega)
      have t0 : ¬ nI t = 0 := nI_ne0 (by omega) (by omega)
      by_cases cz : nI s < A 4
      · have hz := lt9 hA hs cz
        have cc := c_canExt (F := F) h hz cz t1
        obtain ⟨w0, w1, w2, w3⟩ := hA.2.2.2.2.2.2.1 s hz cz
        by_cases c3 : 999 < A (23 + 4 * s + 2) + nI t
        · rw [if_pos c3] at cc
          refine cmd_no h hA hK ?_ (fun N => ?_)
          · unfold sucB f_X2_extendsPermit
            rw [if_neg (show ¬ nI 4 = 1 by decide), if_neg (show ¬ nI 4 = 2 by decide), if_neg (show ¬ nI 4 = 3 by decide), if_pos (show nI 4 = 4 from rfl), if_pos t99, c_zoneS h hz cz, cal_s, zo_s, zo_s, cc, cal_s, if_pos rfl, cal_s, if_pos rfl]
          · have mc := m_canExt (F := F) (r := b + 4) (N := pR N (b + 4) A) (A := A) (d := nI t) pR_s hz
            rw [if_pos c3] at mc
            unfold doB
            rw [if_neg (show ¬ nI 4 = 1 by decide), if_neg (show ¬ nI 4 = 2 by decide), if_neg (show ¬ nI 4 = 3 by decide), if_pos (show nI 4 = 4 from rfl), if_pos u0, if_neg t0, m_isZone, pR_s, cal_s, if_pos ((iZone hA hs).mpr cz), if_neg (show ¬ (1 : Int32) = 0 by decide), mc, cal_s, if_pos rfl]
        · rw [if_neg c3] at cc
          obtain ⟨M2, b1, b2, b3⟩ := c_ext (F := F) (d := nI t) h hz cz
          have t2 : nI t ≤ 99 := nI_le (b := 99) (by omega) (by decide)
          refine cmd_ye (WF_ext hA hz ⟨by grind, by grind⟩) hK b2 b3 ?_ (fun N => ?_)
          · unfold sucB f_X2_extendsPermit
            rw [if_neg (show ¬ nI 4 = 1 by decide), if_neg (show ¬ nI 4 = 2 by decide), if_neg (show ¬ nI 4 = 3 by decide), if_pos (show nI 4 = 4 from rfl), if_pos t99, c_zoneS h hz cz, cal_s, zo_s, zo_s, cc, cal_s, if_neg (show ¬ (1 : Int32) = 0 by decide), b1, cal_s, cal_s, if_neg (show ¬ (1 : Int32) = 0 by decide)]
          · have mc := m_canExt (F := F) (r := b + 4) (N := pR N (b + 4) A) (A := A) (d := nI t) pR_s hz
            rw [if_neg c3] at mc
            unfold doB
            rw [if_neg (show ¬ nI 4 = 1 by decide), if_neg (show ¬ nI 4 = 2 by decide), if_neg (show ¬ nI 4 = 3 by decide), if_pos (show nI 4 = 4 from rfl), if_pos u0, if_neg t0, m_isZone, pR_s, cal_s, if_pos ((iZone hA hs).mpr cz), if_neg (show ¬ (1 : Int32) = 0 by decide), mc, cal_s, if_neg (show ¬ (1 : Int32) = 0 by decide), m_ext hz, cal_s]
      · refine cmd_no h hA hK ?_ (fun N => ?_)
        · unfold sucB f_X2_extendsPermit
          rw [if_neg (show ¬ nI 4 = 1 by decide), if_neg (show ¬ nI 4 = 2 by decide), if_neg (show ¬ nI 4 = 3 by decide), if_pos (show nI 4 = 4 from rfl), if_pos t99, c_zoneN h (Or.inr cz), cal_s, zo_n, zo_n, cal_s, if_pos rfl]
        · unfold doB
          rw [if_neg (show ¬ nI 4 = 1 by decide), if_neg (show ¬ nI 4 = 2 by decide), if_neg (show ¬ nI 4 = 3 by decide), if_pos (show nI 4 = 4 from rfl), if_pos u0, if_neg t0, m_isZone, pR_s, cal_s, if_neg (fun y => cz ((iZone hA hs).mp y)), if_pos rfl]
  · refine cmd_no h hA hK ?_ (fun N => ?_)
    · unfold sucB
      rw [if_neg (show ¬ nI 4 = 1 by decide), if_neg (show ¬ nI 4 = 2 by decide), if_neg (show ¬ nI 4 = 3 by decide), if_pos (show nI 4 = 4 from rfl), if_neg (show ¬ nI t < 100 from nI_nlt (b := 100) (by omega) (by omega))]
    · unfold doB
      rw [if_neg (show ¬ nI 4 = 1 by decide), if_neg (show ¬ nI 4 = 2 by decide), if_neg (show ¬ nI 4 = 3 by decide), if_pos (show nI 4 = 4 from rfl), if_neg (show ¬ nI u = 0 from nI_ne0 (by omega) (by omega))]
theorem cmd_5 {s u w t : Nat} (h : RC M a A) (hA : WF K A) (hK : K < 900000000) (hF : 101 ≤ F) (hs : s < 10) (hu : u < 10) (hw : w < 100) (ht : 100 * u + w = t) : cmdOk F a b K 5 s u w t M A := by
  by_cases c : s = 0 ∧ u = 0 ∧ 1 ≤ w
  · obtain ⟨rfl, rfl, w1⟩ := c
    have tw : t = w := by omega
    subst tw
    obtain ⟨M2, b1, b2, b3⟩ := c_days (F := F) (n := t) hF h hA (by omega) (by omega) (by omega)
    have hW := WF_days (n := t) hA (by omega)
    refine ⟨1, M2, dDays t A, ?_, b2, b3, WF_mono hW (by omega) (by omega), fun N => ?_⟩
    · unfold sucB
      rw [if_neg (show ¬ nI 5 = 1 by decide), if_neg (show ¬ nI 5 = 2 by decide), if_neg (show ¬ nI 5 = 3 by decide), if_neg (show ¬ nI 5 = 4 by decide), if_pos (show nI 5 = 5 from rfl), if_pos (show nI 0 = 0 from rfl), if_neg (show ¬ nI t < 1 from nI_nlt (b := 1) (by omega) (by omega)), if_neg (show ¬ 99 < nI t from nI_nlt (a := 99) (by omega) (by omega)), b1, cal_s]
    · have md := m_days (F := F) (r := b + 4) (M := N) (A := A) (n := t) hF hA (by omega) (by omega) (by omega)
      have g := WF_17m (n := t) hA (by omega)
      unfold doB
      rw [if_neg (show ¬ nI 5 = 1 by decide), if_neg (show ¬ nI 5 = 2 by decide), if_neg (show ¬ nI 5 = 3 by decide), if_neg (show ¬ nI 5 = 4 by decide), if_pos (show nI 5 = 5 from rfl), if_pos (show nI 0 = 0 from rfl), if_pos (show nI 0 = 0 from rfl), if_pos (show 0 < nI t from nI_lt (a := 0) (by omega) (by omega)), md, cal_s]
      dsimp only
      rw [if_neg g]
  · refine cmd_no h hA hK ?_ (fun N => ?_)
    · unfold sucB
      rw [if_neg (show ¬ nI 5 = 1 by decide), if_neg (show ¬ nI 5 = 2 by decide), if_neg (show ¬ nI 5 = 3 by decide), if_neg (show ¬ nI 5 = 4 by decide), if_pos (show nI 5 = 5 from rfl)]
      by_cases c1 : s = 0
      · rw [if_pos (show nI s = 0 by rw [c1]; rfl)]
        by_cases c2 : t < 1
        · rw [if_pos (show nI t < 1 from nI_lt (b := 1) c2 (by decide))]
        · rw [if_neg (show ¬ nI t < 1 from nI_nlt (b := 1) (by omega) (by omega)), if_pos (show 99 < nI t from nI_lt (a := 99) (by omega) (by omega))]
      · rw [if_neg (show ¬ nI s = 0 from nI_ne0 (by omega) (by omega))]
    · unfold doB
      rw [if_neg (show ¬ nI 5 = 1 by decide), if_neg (show ¬ nI 5 = 2 by decide), if_neg (show ¬ nI 5 = 3 by decide), if_neg (show ¬ nI 5 = 4 by decide), if_pos (show nI 5 = 5 from rfl)]
      by_cases c1 : s = 0
      · rw [if_pos (show nI s = 0 by rw [c1]; rfl)]
        by_cases c2 : u = 0
        · rw [if_pos (show nI u = 0 by rw [c2]; rfl), if_neg (show ¬ 0 < nI w from nI_nlt (a := 0) (by omega) (by omega))]
        · rw [if_neg (show ¬ nI u = 0 from nI_ne0 (by omega) (by omega))]
      · rw [if_neg (show ¬ nI s = 0 from nI_ne0 (by omega) (by omega))]
theorem cmd_6 {s u w t : Nat} (h : RC M a A) (hA : WF K A) (hK : K < 900000000) (hF : 101 ≤ F) (hs : s < 10) (hu : u < 10) (hw : w < 100) (ht : 100 * u + w = t) : cmdOk F a b K 6 s u w t M A := by
  have q2 := hA.2.2.1.2.1
  by_cases c1 : s = 0
  · have s0 : nI s = 0 := by rw [c1]; rfl
    by_cases c0 : t = 0
    · refine cmd_no h hA hK ?_ (fun N => ?_)
      · unfold sucB f_X2_buys f_X5_canPurchase
        rw [if_neg (show ¬ nI 6 = 1 by decide), if_neg (show ¬ nI 6 = 2 by decide), if_neg (show ¬ nI 6 = 3 by decide), if_neg (show ¬ nI 6 = 4 by decide), if_neg (show ¬ nI 6 = 5 by decide), if_pos (show nI 6 = 6 from rfl), if_pos s0, c0, if_pos (show nI 0 < 1 by decide), cal_s, if_pos rfl, cal_s, if_pos rfl]
      · unfold doB
        rw [if_neg (show ¬ nI 6 = 1 by decide), if_neg (show ¬ nI 6 = 2 by decide), if_neg (show ¬ nI 6 = 3 by decide), if_neg (show ¬ nI 6 = 4 by decide), if_neg (show ¬ nI 6 = 5 by decide), if_pos (show nI 6 = 6 from rfl), if_pos s0, c0, if_pos (show nI 0 = 0 from rfl)]
    · have t0 : ¬ nI t = 0 := nI_ne0 (by omega) (by omega)
      have t1 : ¬ nI t < 1 := nI_nlt (b := 1) (by omega) (by omega)
      have t2 : nI t ≤ 999 := nI_le (b := 999) (by omega) (by decide)
      by_cases c3 : 9999 < A 2 + nI t
      · have e1 : f_X5_canPurchase F a (nI t) M = some 0 := by
          unfold f_X5_canPurchase
          rw [if_neg t1, h.1.2.2.1, if_pos c3]
        refine cmd_no h hA hK ?_ (fun N => ?_)
        · unfold sucB f_X2_buys
          rw [if_neg (show ¬ nI 6 = 1 by decide), if_neg (show ¬ nI 6 = 2 by decide), if_neg (show ¬ nI 6 = 3 by decide), if_neg (show ¬ nI 6 = 4 by decide), if_neg (show ¬ nI 6 = 5 by decide), if_pos (show nI 6 = 6 from rfl), if_pos s0, e1, cal_s, if_pos rfl, cal_s, if_pos rfl]
        · unfold doB
          rw [if_neg (show ¬ nI 6 = 1 by decide), if_neg (show ¬ nI 6 = 2 by decide), if_neg (show ¬ nI 6 = 3 by decide), if_neg (show ¬ nI 6 = 4 by decide), if_neg (show ¬ nI 6 = 5 by decide), if_pos (show nI 6 = 6 from rfl), if_pos s0, if_neg t0, pR_s, if_pos c3]
      · have e1 : f_X5_canPurchase F a (nI t) M = some 1 := by
          unfold f_X5_canPurchase
          rw [if_neg t1, h.1.2.2.1, if_neg c3]
        obtain ⟨M2, b1, b2, b3⟩ := c_buy (F := F) (u := nI t) h
        refine cmd_ye (WF_buy hA (by grind)) hK b2 b3 ?_ (fun N => ?_)
        · unfold sucB f_X2_buys
          rw [if_neg (show ¬ nI 6 = 1 by decide), if_neg (show ¬ nI 6 = 2 by decide), if_neg (show ¬ nI 6 = 3 by decide), if_neg (show ¬ nI 6 = 4 by decide), if_neg (show ¬ nI 6 = 5 by decide), if_pos (show nI 6 = 6 from rfl), if_pos s0, e1, cal_s, if_neg (show ¬ (1 : Int32) = 0 by decide), b1, cal_s, cal_s, if_neg (show ¬ (1 : Int32) = 0 by decide)]
        · unfold doB
          rw [if_neg (show ¬ nI 6 = 1 by decide), if_neg (show ¬ nI 6 = 2 by decide), if_neg (show ¬ nI 6 = 3 by decide), if_neg (show ¬ nI 6 = 4 by decide), if_neg (show ¬ nI 6 = 5 by decide), if_pos (show nI 6 = 6 from rfl), if_pos s0, if_neg t0, pR_s, if_neg c3, m_buy, cal_s]
  · have s0 : ¬ nI s = 0 := nI_ne0 (by omega) (by omega)
    refine cmd_no h hA hK ?_ (fun N => ?_)
    · unfold sucB
      rw [if_neg (show ¬ nI 6 = 1 by decide), if_neg (show ¬ nI 6 = 2 by decide), if_neg (show ¬ nI 6 = 3 by decide), if_neg (show ¬ nI 6 = 4 by decide), if_neg (show ¬ nI 6 = 5 by decide), if_pos (show nI 6 = 6 from rfl), if_neg s0]
    · unfold doB
      rw [if_neg (show ¬ nI 6 = 1 by decide), if_neg (show ¬ nI 6 = 2 by decide), if_neg (show ¬ nI 6 = 3 by decide), if_neg (show ¬ nI 6 = 4 by decide), if_neg (show ¬ nI 6 = 5 by decide), if_pos (show nI 6 = 6 from rfl), if_neg s0]
theorem cmd_7 {s u w t : Nat} (h : RC M a A) (hA : WF K A) (hK : K < 900000000) (hF : 101 ≤ F) (hs : s < 10) (hu : u < 10) (hw : w < 100) (ht : 100 * u + w = t) : cmdOk F a b K 7 s u w t M A := by
  have r7 : M a 9 = A 7 := h.1.2.2.2.2.1
  have r8 : M a 10 = A 8 := h.1.2.2.2.2.2.1
  by_cases cu : u = 0
  · have tw : t = w := by omega
    subst tw
    have t99 : nI t < 100 := nI_lt (b := 100) (by omega) (by decide)
    have u0 : nI u = 0 := by rw [cu]; rfl
    by_cases c1 : A 7 = nI s
    · by_cases c2 : A 8 = nI t
      · refine cmd_ye hA hK fr_r h ?_ (fun N => ?_)
        · unfold sucB
          rw [if_neg (show ¬ nI 7 = 1 by decide), if_neg (show ¬ nI 7 = 2 by decide), if_neg (show ¬ nI 7 = 3 by decide), if_neg (show ¬ nI 7 = 4 by decide), if_neg (show ¬ nI 7 = 5 by decide), if_neg (show ¬ nI 7 = 6 by decide), if_pos (show nI 7 = 7 from rfl), if_pos t99, r7, if_pos c1, r8, if_pos c2]
        · unfold doB
          rw [if_neg (show ¬ nI 7 = 1 by decide), if_neg (show ¬ nI 7 = 2 by decide), if_neg (show ¬ nI 7 = 3 by decide), if_neg (show ¬ nI 7 = 4 by decide), if_neg (show ¬ nI 7 = 5 by decide), if_neg (show ¬ nI 7 = 6 by decide), if_pos (show nI 7 = 7 from rfl), if_pos u0, pR_s, if_pos c1, if_pos c2]
      · refine cmd_no h hA hK ?_ (fun N => ?_)
        · unfold sucB
          rw [if_neg (show ¬ nI 7 = 1 by decide), if_neg (show ¬ nI 7 = 2 by decide), if_neg (show ¬ nI 7 = 3 by decide), if_neg (show ¬ nI 7 = 4 by decide), if_neg (show ¬ nI 7 = 5 by decide), if_neg (show ¬ nI 7 = 6 by decide), if_pos (show nI 7 = 7 from rfl), if_pos t99, r7, if_pos c1, r8, if_neg c2]
        · unfold doB
          rw [if_neg (show ¬ nI 7 = 1 by decide), if_neg (show ¬ nI 7 = 2 by decide), if_neg (show ¬ nI 7 = 3 by decide), if_neg (show ¬ nI 7 = 4 by decide), if_neg (show ¬ nI 7 = 5 by decide), if_neg (show ¬ nI 7 = 6 by decide), if_pos (show nI 7 = 7 from rfl), if_pos u0, pR_s, if_pos c1, if_neg c2]
    · refine cmd_no h hA hK ?_ (fun N => ?_)
      · unfold sucB
        rw [if_neg (show ¬ nI 7 = 1 by decide), if_neg (show ¬ nI 7 = 2 by decide), if_neg (show ¬ nI 7 = 3 by decide), if_neg (show ¬ nI 7 = 4 by decide), if_neg (show ¬ nI 7 = 5 by decide), if_neg (show ¬ nI 7 = 6 by decide), if_pos (show nI 7 = 7 from rfl), if_pos t99, r7, if_neg c1]
      · unfold doB
        rw [if_neg (show ¬ nI 7 = 1 by decide), if_neg (show ¬ nI 7 = 2 by decide), if_neg (show ¬ nI 7 = 3 by decide), if_neg (show ¬ nI 7 = 4 by decide), if_neg (show ¬ nI 7 = 5 by decide), if_neg (show ¬ nI 7 = 6 by decide), if_pos (show nI 7 = 7 from rfl), if_pos u0, pR_s, if_neg c1]
  · refine cmd_no h hA hK ?_ (fun N => ?_)
    · unfold sucB
      rw [if_neg (show ¬ nI 7 = 1 by decide), if_neg (show ¬ nI 7 = 2 by decide), if_neg (show ¬ nI 7 = 3 by decide), if_neg (show ¬ nI 7 = 4 by decide), if_neg (show ¬ nI 7 = 5 by decide), if_neg (show ¬ nI 7 = 6 by decide), if_pos (show nI 7 = 7 from rfl), if_neg (show ¬ nI t < 100 from nI_nlt (b := 100) (by omega) (by omega))]
    · unfold doB
      rw [if_neg (show ¬ nI 7 = 1 by decide), if_neg (show ¬ nI 7 = 2 by decide), if_neg (show ¬ nI 7 = 3 by decide), if_neg (show ¬ nI 7 = 4 by decide), if_neg (show ¬ nI 7 = 5 by decide), if_neg (show ¬ nI 7 = 6 by decide), if_pos (show nI 7 = 7 from rfl), if_neg (show ¬ nI u = 0 from nI_ne0 (by omega) (by omega))]
theorem cmd_8 {s u w t : Nat} (h : RC M a A) (hA : WF K A) (hK : K < 900000000) (hF : 101 ≤ F) (hs : s < 10) (hu : u < 10) (hw : w < 100) (ht : 100 * u + w = t) : cmdOk F a b K 8 s u w t M A := by
  by_cases cu : u = 0 ∧ w < 10
  · have tw : t = w := by omega
    subst tw
    have t9 : nI t < 10 := nI_lt (b := 10) (by omega) (by decide)
    have u0 : nI u = 0 := by rw [cu.1]; rfl
    by_cases cs : nI s < A 5
    · have hs4 := lt4 hA.1 hs cs
      have r5 : M (a + 17 + s) 5 = A (59 + 8 * s + 5) := RC_s h hs4 (by decide)
      have q5 := (hA.2.2.2.2.2.2.2 s hs4).2.2.2
      by_cases c3 : A (59 + 8 * s + 5) = nI t
      · have t5 : nI t < 5 := by rw [← c3]; grind
        refine cmd_ye hA hK fr_r h ?_ (fun N => ?_)
        · unfold sucB f_X2_isAt
          rw [if_neg (show ¬ nI 8 = 1 by decide), if_neg (show ¬ nI 8 = 2 by decide), if_neg (show ¬ nI 8 = 3 by decide), if_neg (show ¬ nI 8 = 4 by decide), if_neg (show ¬ nI 8 = 5 by decide), if_neg (show ¬ nI 8 = 6 by decide), if_neg (show ¬ nI 8 = 7 by decide), if_pos (show nI 8 = 8 from rfl), if_pos t9, c_shipS h hA.1 hs4 cs, cal_s, zo_s, zo_s, r5, if_pos c3, cal_s, if_neg (show ¬ (1 : Int32) = 0 by decide)]
        · unfold doB
          rw [if_neg (show ¬ nI 8 = 1 by decide), if_neg (show ¬ nI 8 = 2 by decide), if_neg (show ¬ nI 8 = 3 by decide), if_neg (show ¬ nI 8 = 4 by decide), if_neg (show ¬ nI 8 = 5 by decide), if_neg (show ¬ nI 8 = 6 by decide), if_neg (show ¬ nI 8 = 7 by decide), if_pos (show nI 8 = 8 from rfl), if_pos u0, if_pos t5, if_pos cs, if_neg (show ¬ (1 : Int32) = 0 by decide), m_shipAt, cal_s, ad5, inbN (by omega) (by omega), grd_t, ixN (by omega), pR_s, if_pos c3]
      · refine cmd_no h hA hK ?_ (fun N => ?_)
        · unfold sucB f_X2_isAt
          rw [if_neg (show ¬ nI 8 = 1 by decide), if_neg (show ¬ nI 8 = 2 by decide), if_neg (show ¬ nI 8 = 3 by decide), if_neg (show ¬ nI 8 = 4 by decide), if_neg (show ¬ nI 8 = 5 by decide), if_neg (show ¬ nI 8 = 6 by decide), if_neg (show ¬ nI 8 = 7 by decide), if_pos (show nI 8 = 8 from rfl), if_pos t9, c_shipS h hA.1 hs4 cs, cal_s, zo_s, zo_s, r5, if_neg c3, cal_s, if_pos rfl]
        · unfold doB
          rw [if_neg (show ¬ nI 8 = 1 by decide), if_neg (show ¬ nI 8 = 2 by decide), if_neg (show ¬ nI 8 = 3 by decide), if_neg (show ¬ nI 8 = 4 by decide), if_neg (show ¬ nI 8 = 5 by decide), if_neg (show ¬ nI 8 = 6 by decide), if_neg (show ¬ nI 8 = 7 by decide), if_pos (show nI 8 = 8 from rfl), if_pos u0]
          by_cases t5 : nI t < 5
          · rw [if_pos t5, if_pos cs, if_neg (show ¬ (1 : Int32) = 0 by decide), m_shipAt, cal_s, ad5, inbN (by omega) (by omega), grd_t, ixN (by omega), pR_s, if_neg c3]
          · rw [if_neg t5]
    · refine cmd_no h hA hK ?_ (fun N => ?_)
      · unfold sucB f_X2_isAt
        rw [if_neg (show ¬ nI 8 = 1 by decide), if_neg (show ¬ nI 8 = 2 by decide), if_neg (show ¬ nI 8 = 3 by decide), if_neg (show ¬ nI 8 = 4 by decide), if_neg (show ¬ nI 8 = 5 by decide), if_neg (show ¬ nI 8 = 6 by decide), if_neg (show ¬ nI 8 = 7 by decide), if_pos (show nI 8 = 8 from rfl), if_pos t9, c_shipN h (Or.inr cs), cal_s, zo_n, zo_n, cal_s, if_pos rfl]
      · unfold doB
        rw [if_neg (show ¬ nI 8 = 1 by decide), if_neg (show ¬ nI 8 = 2 by decide), if_neg (show ¬ nI 8 = 3 by decide), if_neg (show ¬ nI 8 = 4 by decide), if_neg (show ¬ nI 8 = 5 by decide), if_neg (show ¬ nI 8 = 6 by decide), if_neg (show ¬ nI 8 = 7 by decide), if_pos (show nI 8 = 8 from rfl), if_pos u0, if_neg cs, if_pos rfl]
        split <;> rfl
  · refine cmd_no h hA hK ?_ (fun N => ?_)
    · unfold sucB
      rw [if_neg (show ¬ nI 8 = 1 by decide), if_neg (show ¬ nI 8 = 2 by decide), if_neg (show ¬ nI 8 = 3 by decide), if_neg (show ¬ nI 8 = 4 by decide), if_neg (show ¬ nI 8 = 5 by decide), if_neg (show ¬ nI 8 = 6 by decide), if_neg (show ¬ nI 8 = 7 by decide), if_pos (show nI 8 = 8 from rfl), if_neg (show ¬ nI t < 10 from nI_nlt (b := 10) (by omega) (by omega))]
    · unfold doB
      rw [if_neg (show ¬ nI 8 = 1 by decide), if_neg (show ¬ nI 8 = 2 by decide), if_neg (show ¬ nI 8 = 3 by decide), if_neg (show ¬ nI 8 = 4 by decide), if_neg (show ¬ nI 8 = 5 by decide), if_neg (show ¬ nI 8 = 6 by decide), if_neg (show ¬ nI 8 = 7 by decide), if_pos (show nI 8 = 8 from rfl)]
      by_cases c1 : u = 0
      · rw [if_pos (show nI u = 0 by rw [c1]; rfl), if_neg (show ¬ nI w < 5 from nI_nlt (b := 5) (by omega) (by omega))]
      · rw [if_neg (show ¬ nI u = 0 from nI_ne0 (by omega) (by omega))]
theorem cmd_9 {s u w t : Nat} (h : RC M a A) (hA : WF K A) (hK : K < 900000000) (hF : 101 ≤ F) (hs : s < 10) (hu : u < 10) (hw : w < 100) (ht : 100 * u + w = t) : cmdOk F a b K 9 s u w t M A := by
  have r9 : M a 11 = A 9 := h.1.2.2.2.2.2.2
  by_cases cu : s = 0 ∧ u = 0 ∧ w < 10
  · have tw : t = w := by omega
    subst tw
    have t9 : nI t < 10 := nI_lt (b := 10) (by omega) (by decide)
    have u0 : nI u = 0 := by rw [cu.2.1]; rfl
    have s0 : nI s = 0 := by rw [cu.1]; rfl
    by_cases c3 : A 9 = nI t
    · refine cmd_ye hA hK fr_r h ?_ (fun N => ?_)
      · unfold sucB
        rw [if_neg (show ¬ nI 9 = 1 by decide), if_neg (show ¬ nI 9 = 2 by decide), if_neg (show ¬ nI 9 = 3 by decide), if_neg (show ¬ nI 9 = 4 by decide), if_neg (show ¬ nI 9 = 5 by decide), if_neg (show ¬ nI 9 = 6 by decide), if_neg (show ¬ nI 9 = 7 by decide), if_neg (show ¬ nI 9 = 8 by decide), if_pos (show nI 9 = 9 from rfl), if_pos s0, if_pos t9, r9, if_pos c3]
      · unfold doB
        rw [if_neg (show ¬ nI 9 = 1 by decide), if_neg (show ¬ nI 9 = 2 by decide), if_neg (show ¬ nI 9 = 3 by decide), if_neg (show ¬ nI 9 = 4 by decide), if_neg (show ¬ nI 9 = 5 by decide), if_neg (show ¬ nI 9 = 6 by decide), if_neg (show ¬ nI 9 = 7 by decide), if_neg (show ¬ nI 9 = 8 by decide), if_pos (show nI 9 = 9 from rfl), if_pos s0, if_pos u0, if_pos t9, pR_s, if_pos c3]
    · refine cmd_no h hA hK ?_ (fun N => ?_)
      · unfold sucB
        rw [if_neg (show ¬ nI 9 = 1 by decide), if_neg (show ¬ nI 9 = 2 by decide), if_neg (show ¬ nI 9 = 3 by decide), if_neg (show ¬ nI 9 = 4 by decide), if_neg (show ¬ nI 9 = 5 by decide), if_neg (show ¬ nI 9 = 6 by decide), if_neg (show ¬ nI 9 = 7 by decide), if_neg (show ¬ nI 9 = 8 by decide), if_pos (show nI 9 = 9 from rfl), if_pos s0, if_pos t9, r9, if_neg c3]
      · unfold doB
        rw [if_neg (show ¬ nI 9 = 1 by decide), if_neg (show ¬ nI 9 = 2 by decide), if_neg (show ¬ nI 9 = 3 by decide), if_neg (show ¬ nI 9 = 4 by decide), if_neg (show ¬ nI 9 = 5 by decide), if_neg (show ¬ nI 9 = 6 by decide), if_neg (show ¬ nI 9 = 7 by decide), if_neg (show ¬ nI 9 = 8 by decide), if_pos (show nI 9 = 9 from rfl), if_pos s0, if_pos u0, if_pos t9, pR_s, if_neg c3]
  · refine cmd_no h hA hK ?_ (fun N => ?_)
    · unfold sucB
      rw [if_neg (show ¬ nI 9 = 1 by decide), if_neg (show ¬ nI 9 = 2 by decide), if_neg (show ¬ nI 9 = 3 by decide), if_neg (show ¬ nI 9 = 4 by decide), if_neg (show ¬ nI 9 = 5 by decide), if_neg (show ¬ nI 9 = 6 by decide), if_neg (show ¬ nI 9 = 7 by decide), if_neg (show ¬ nI 9 = 8 by decide), if_pos (show nI 9 = 9 from rfl)]
      by_cases c1 : s = 0
      · rw [if_pos (show nI s = 0 by rw [c1]; rfl), if_neg (show ¬ nI t < 10 from nI_nlt (b := 10) (by omega) (by omega))]
      · rw [if_neg (show ¬ nI s = 0 from nI_ne0 (by omega) (by omega))]
    · unfold doB
      rw [if_neg (show ¬ nI 9 = 1 by decide), if_neg (show ¬ nI 9 = 2 by decide), if_neg (show ¬ nI 9 = 3 by decide), if_neg (show ¬ nI 9 = 4 by decide), if_neg (show ¬ nI 9 = 5 by decide), if_neg (show ¬ nI 9 = 6 by decide), if_neg (show ¬ nI 9 = 7 by decide), if_neg (show ¬ nI 9 = 8 by decide), if_pos (show nI 9 = 9 from rfl)]
      by_cases c1 : s = 0
      · rw [if_pos (show nI s = 0 by rw [c1]; rfl)]
        by_cases c2 : u = 0
        · rw [if_pos (show nI u = 0 by rw [c2]; rfl), if_neg (show ¬ nI w < 10 from nI_nlt (b := 10) (by omega) (by omega))]
        · rw [if_neg (show ¬ nI u = 0 from nI_ne0 (by omega) (by omega))]
      · rw [if_neg (show ¬ nI s = 0 from nI_ne0 (by omega) (by omega))]
theorem cmd_0 {s u w t : Nat} (h : RC M a A) (hA : WF K A) (hK : K < 900000000) (hF : 101 ≤ F) (hs : s < 10) (hu : u < 10) (hw : w < 100) (ht : 100 * u + w = t) : cmdOk F a b K 0 s u w t M A := by
  refine cmd_no h hA hK ?_ (fun N => ?_)
  · unfold sucB
    rw [if_neg (show ¬ nI 0 = 1 by decide), if_neg (show ¬ nI 0 = 2 by decide), if_neg (show ¬ nI 0 = 3 by decide), if_neg (show ¬ nI 0 = 4 by decide), if_neg (show ¬ nI 0 = 5 by decide), if_neg (show ¬ nI 0 = 6 by decide), if_neg (show ¬ nI 0 = 7 by decide), if_neg (show ¬ nI 0 = 8 by decide), if_neg (show ¬ nI 0 = 9 by decide)]
  · unfold doB
    rw [if_neg (show ¬ nI 0 = 1 by decide), if_neg (show ¬ nI 0 = 2 by decide), if_neg (show ¬ nI 0 = 3 by decide), if_neg (show ¬ nI 0 = 4 by decide), if_neg (show ¬ nI 0 = 5 by decide), if_neg (show ¬ nI 0 = 6 by decide), if_neg (show ¬ nI 0 = 7 by decide), if_neg (show ¬ nI 0 = 8 by decide), if_neg (show ¬ nI 0 = 9 by decide)]
end
