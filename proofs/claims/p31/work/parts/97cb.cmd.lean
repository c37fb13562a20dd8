section
def sucB (F : Nat) (p0 : Nat) (h x1 x2 : Int32) (M : zMi) : Option (Int32 × zMi) := (if h = 1 then cal (f_X5_shipNumbered F p0 x1 M) (fun r3 => zopt r3 (cal (f_X2_takes F p0 none x2 M) (fun r5 => grd (zb r5.1) (some (r5.1, r5.2)))) (fun q4 => cal (f_X2_takes F p0 (some q4) x2 M) (fun r6 => grd (zb r6.1) (some (r6.1, r6.2))))) else (if h = 2 then (if x2 = (0 : Int32) then cal (f_X5_shipNumbered F p0 x1 M) (fun r7 => zopt r7 (cal (f_X2_sends F p0 none M) (fun r9 => (if r9.1 = (0 : Int32) then some ((0 : Int32), r9.2) else some ((1 : Int32), r9.2)))) (fun q8 => cal (f_X2_sends F p0 (some q8) M) (fun r10 => (if r10.1 = (0 : Int32) then some ((0 : Int32), r10.2) else some ((1 : Int32), r10.2))))) else some ((0 : Int32), M)) else (if h = 3 then (if x2 = (0 : Int32) then cal (f_X5_shipNumbered F p0 x1 M) (fun r11 => zopt r11 (cal (f_X2_recalls F p0 none M) (fun r13 => (if r13.1 = (0 : Int32) then some ((0 : Int32), r13.2) else some ((1 : Int32), r13.2)))) (fun q12 => cal (f_X2_recalls F p0 (some q12) M) (fun r14 => (if r14.1 = (0 : Int32) then some ((0 : Int32), r14.2) else some ((1 : Int32), r14.2))))) else some ((0 : Int32), M)) else (if h = 4 then (if x2 < (100 : Int32) then cal (f_X5_zoneNumbered F p0 x1 M) (fun r15 => zopt r15 (cal (f_X2_extendsPermit F p0 none x2 M) (fun r17 => (if r17.1 = (0 : Int32) then some ((0 : Int32), r17.2) else some ((1 : Int32), r17.2)))) (fun q16 => cal (f_X2_extendsPermit F p0 (some q16) x2 M) (fun r18 => (if r18.1 = (0 : Int32) then some ((0 : Int32), r18.2) else some ((1 : Int32), r18.2))))) else some ((0 : Int32), M)) else (if h = 5 then (if x1 = (0 : Int32) then (if x2 < (1 : Int32) then some ((0 : Int32), M) else (if (99 : Int32) < x2 then some ((0 : Int32), M) else cal (f_X5_passDays F p0 x2 M) (fun r19 => some ((1 : Int32), r19)))) else some ((0 : Int32), M)) else (if h = 6 then (if x1 = (0 : Int32) then cal (f_X2_buys F p0 x2 M) (fun r20 => (if r20.1 = (0 : Int32) then some ((0 : Int32), r20.2) else some ((1 : Int32), r20.2))) else some ((0 : Int32), M)) else (if h = 7 then (if x2 < (100 : Int32) then (if (M p0 9) = x1 then (if (M p0 10) = x2 then some ((1 : Int32), M) else some ((0 : Int32), M)) else some ((0 : Int32), M)) else some ((0 : Int32), M)) else (if h = 8 then (if x2 < (10 : Int32) then cal (f_X5_shipNumbered F p0 x1 M) (fun r21 => zopt r21 (cal (f_X2_isAt F none x2 M) (fun r23 => (if r23 = (0 : Int32) then some ((0 : Int32), M) else some ((1 : Int32), M)))) (fun q22 => cal (f_X2_isAt F (some q22) x2 M) (fun r24 => (if r24 = (0 : Int32) then some ((0 : Int32), M) else some ((1 : Int32), M))))) else some ((0 : Int32), M)) else (if h = 9 then (if x1 = (0 : Int32) then (if x2 < (10 : Int32) then (if (M p0 11) = x2 then some ((1 : Int32), M) else some ((0 : Int32), M)) else some ((0 : Int32), M)) else some ((0 : Int32), M)) else some ((0 : Int32), M))))))))))
variable {F x a b K : Nat} {M N : zMi} {A : Pg}
theorem c_suc {g : Nat} (hg : g < 100000) : f_X2_succeeds F a (nI g) M = sucB F a (nI (g / 10000)) (nI (g / 1000 % 10)) (nI (g % 1000)) M := by
  unfold f_X2_succeeds sucB
  rw [show (1000 : Int32) = nI 1000 from rfl, show (10000 : Int32) = nI 10000 from rfl, show (10 : Int32) = nI 10 from rfl, pk_rem (a := g) (d := 1000) (by omega) (by decide) (by decide), pk_div (a := g) (d := 1000) (by omega) (by decide) (by decide), pk_div (a := g) (d := 10000) (by omega) (by decide) (by decide), pk_rem (a := g / 1000) (d := 10) (by omega) (by decide) (by decide), bnd_e, bnd_e]
theorem iShip {s : Nat} (h : wFl A) (hs : s < 10) : (0 ≤ nI s ∧ nI s ≤ A 5 - 1) ↔ nI s < A 5 := by
  have q5 : 1 ≤ A 5 ∧ A 5 ≤ 4 := by rcases h.1 with q | q | q | q <;> rw [q] <;> decide
  have h0 : 0 ≤ nI s := nI_pos' (by omega)
  have h1 : nI s ≤ 9 := nI_le (b := 9) (by omega) (by decide)
  constructor
  · intro y; grind
  · intro y; exact ⟨h0, by grind⟩
theorem iZone {s : Nat} (hA : WF K A) (hs : s < 10) : (0 ≤ nI s ∧ nI s ≤ A 4 - 1) ↔ nI s < A 4 := by
  have q4 := hA.2.2.1.2.2.2.1
  have h0 : 0 ≤ nI s := nI_pos' (by omega)
  have h1 : nI s ≤ 9 := nI_le (b := 9) (by omega) (by decide)
  constructor
  · intro y; grind
  · intro y; exact ⟨h0, by grind⟩
theorem lt4 {s : Nat} (h : wFl A) (hs : s < 10) (c : nI s < A 5) : s < 4 := by
  obtain ⟨f, f0, f4, h5⟩ := wFl_N h
  rw [h5] at c
  have := (nI_ltI (a := s) (b := f) (by omega) (by omega)).mp c
  omega
theorem lt9 {s : Nat} (hA : WF K A) (hs : s < 10) (c : nI s < A 4) : s < 9 := by
  obtain ⟨f, f9, f0, h4⟩ := wZ_N hA
  rw [h4] at c
  have := (nI_ltI (a := s) (b := f) (by omega) (by omega)).mp c
  omega
end
