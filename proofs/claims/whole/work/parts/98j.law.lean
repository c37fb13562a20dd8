section
variable {F x b o K len : Nat} {M : zMi} {X : zMl} {xs : Nat → Int32}
theorem law_case {k : Int32 → zMi → zMl → Option Int32} {v4 : Int32} (h : INV K M x b) (hb : b = x + 386) (hK7 : K < 700000000) (hF : 1573 < F) (g1 : inb (v4 + 1) len = true) (g2 : inb (v4 + 2) len = true) (g3 : inb (v4 + 3) len = true) : goes K x b k v4 (f_L_law_sw F len xs x b o k v4 M X) := by
  have hK9 : K < 1000000000 := by omega
  unfold f_L_law_sw
  by_cases c0 : (xs (ix v4) &&& (31 : Int32)) = 0
  · rw [if_pos c0]; exact case_append h hb hK7 g1
  rw [if_neg c0]
  by_cases c1 : (xs (ix v4) &&& (31 : Int32)) = 1
  · rw [if_pos c1]; exact case_clear h hb hK7
  rw [if_neg c1]
  by_cases c2 : (xs (ix v4) &&& (31 : Int32)) = 2
  · rw [if_pos c2]; exact case_err h hb hK7 hF
  rw [if_neg c2]
  by_cases c3 : (xs (ix v4) &&& (31 : Int32)) = 3
  · rw [if_pos c3]; exact case_load h hb hK7 hF
  rw [if_neg c3]
  by_cases c4 : (xs (ix v4) &&& (31 : Int32)) = 4
  · rw [if_pos c4]; exact case_about h hb hK7 hF g1
  rw [if_neg c4]
  by_cases c5 : (xs (ix v4) &&& (31 : Int32)) = 5
  · rw [if_pos c5]; exact case_zone h hb hK7 g1 g2
  rw [if_neg c5]
  by_cases c6 : (xs (ix v4) &&& (31 : Int32)) = 6
  · rw [if_pos c6]; exact case_ship h hb hK7 g1 g2
  rw [if_neg c6]
  by_cases c7 : (xs (ix v4) &&& (31 : Int32)) = 7
  · rw [if_pos c7]; exact case_waves h hb hK9 g1
  rw [if_neg c7]
  by_cases c8 : (xs (ix v4) &&& (31 : Int32)) = 8
  · rw [if_pos c8]; exact case_account h hb hK7 hF g1
  rw [if_neg c8]
  by_cases c9 : (xs (ix v4) &&& (31 : Int32)) = 9
  · rw [if_pos c9]; exact case_take h hb hK7 hF g1 g2
  rw [if_neg c9]
  by_cases c10 : (xs (ix v4) &&& (31 : Int32)) = 10
  · rw [if_pos c10]; exact case_send h hb hK7 hF g1
  rw [if_neg c10]
  by_cases c11 : (xs (ix v4) &&& (31 : Int32)) = 11
  · rw [if_pos c11]; exact case_recall h hb hK7 hF g1
  rw [if_neg c11]
  by_cases c12 : (xs (ix v4) &&& (31 : Int32)) = 12
  · rw [if_pos c12]; exact case_extend h hb hK7 hF g1 g2
  rw [if_neg c12]
  by_cases c13 : (xs (ix v4) &&& (31 : Int32)) = 13
  · rw [if_pos c13]; exact case_buy h hb hK9 hF g1
  rw [if_neg c13]
  by_cases c14 : (xs (ix v4) &&& (31 : Int32)) = 14
  · rw [if_pos c14]; exact case_setWaves h hb hK7 hF g1 g2
  rw [if_neg c14]
  by_cases c15 : (xs (ix v4) &&& (31 : Int32)) = 15
  · rw [if_pos c15]; exact case_pass h hb hK7 hF g1
  rw [if_neg c15]
  by_cases c16 : (xs (ix v4) &&& (31 : Int32)) = 16
  · rw [if_pos c16]; exact case_undo h hb hK7 hF
  rw [if_neg c16]
  by_cases c17 : (xs (ix v4) &&& (31 : Int32)) = 17
  · rw [if_pos c17]; exact case_needs h hb hK7 g1 g2
  rw [if_neg c17]
  by_cases c18 : (xs (ix v4) &&& (31 : Int32)) = 18
  · rw [if_pos c18]; exact case_reach h hb hK7 hF g1 g2
  rw [if_neg c18]
  by_cases c19 : (xs (ix v4) &&& (31 : Int32)) = 19
  · rw [if_pos c19]; exact case_calmDays h hb hK7 hF g1 g2
  rw [if_neg c19]
  by_cases c20 : (xs (ix v4) &&& (31 : Int32)) = 20
  · rw [if_pos c20]; exact case_ahead h hb hK7 hF g1 g2
  rw [if_neg c20]
  by_cases c21 : (xs (ix v4) &&& (31 : Int32)) = 21
  · rw [if_pos c21]; exact case_doneAfter h hb hK7 hF g1
  rw [if_neg c21]
  by_cases c22 : (xs (ix v4) &&& (31 : Int32)) = 22
  · rw [if_pos c22]; exact case_best h hb hK7 hF
  rw [if_neg c22]
  by_cases c23 : (xs (ix v4) &&& (31 : Int32)) = 23
  · rw [if_pos c23]; exact case_ext h hb hK7 hF g1
  rw [if_neg c23]
  by_cases c24 : (xs (ix v4) &&& (31 : Int32)) = 24
  · rw [if_pos c24]; exact case_script h hb hK7 hF g1 g2 g3
  rw [if_neg c24]
  by_cases c25 : (xs (ix v4) &&& (31 : Int32)) = 25
  · rw [if_pos c25]; exact case_simulate h hb hK7 hF g1 g2 g3
  rw [if_neg c25]
  by_cases c26 : (xs (ix v4) &&& (31 : Int32)) = 26
  · rw [if_pos c26]; exact case_save h hb hK7 hF g1
  rw [if_neg c26]
  by_cases c27 : (xs (ix v4) &&& (31 : Int32)) = 27
  · rw [if_pos c27]; exact case_restore h hb hK7 hF g1
  rw [if_neg c27]
  exact ⟨M, X, rfl, INV_mono h (by omega) (by omega)⟩
theorem law_loop (hlen : len ≤ 2048) (hF : 1573 < F) (hb : b = x + 386) {fu : Nat} : ∀ {i : Nat} {M : zMi} {X : zMl}, i + fu = 513 → i ≤ 512 → INV (99 * i) M x b → f_L_law_loop F len xs x b o fu (nI (4 * i)) M X = some 1 := by
  induction fu with
  | zero => intro i M X hi h5; omega
  | succ n ih =>
    intro i M X hi h5 h
    rw [f_L_law_loop]
    by_cases c : Int32.ofNat len - (4 : Int32) < nI (4 * i)
    · rw [if_pos c]
    · have hl : 4 * i + 4 ≤ len := by
        apply Decidable.byContradiction
        intro y
        apply c
        show nI len - nI 4 < nI (4 * i)
        by_cases l4 : len < 4
        · have := pk_sneg (a := len) (b := 4) (by decide) l4
          have h0 : 0 ≤ nI (4 * i) := nI_pos' (by omega)
          grind
        · rw [pk_sub (by omega)]; exact nI_lt (by omega) (by omega)
      have e1 : nI (4 * i) + (1 : Int32) = nI (4 * i + 1) := ad1 _
      have e2 : nI (4 * i) + (2 : Int32) = nI (4 * i + 2) := ad2 _
      have e3 : nI (4 * i) + (3 : Int32) = nI (4 * i + 3) := ad3 _
      rw [if_neg c, inbN (by omega) (by omega), grd_t]
      obtain ⟨M', X', r1, r2⟩ := law_case (F := F) (o := o) (len := len) (xs := xs) (X := X) (v4 := nI (4 * i)) (k := f_L_law_loop F len xs x b o n) h hb (by omega) hF (by rw [e1]; exact inbN (by omega) (by omega)) (by rw [e2]; exact inbN (by omega) (by omega)) (by rw [e3]; exact inbN (by omega) (by omega))
      rw [r1, ad4]
      exact ih (i := i + 1) (by omega) (by omega) r2
theorem whole_pure (len x : Nat) (xs : Nat → Int32) (M : zMi) (X : zMl) (h : len ≤ 2048) : f_L_law 6000 len xs x M X = some 1 := by
  obtain ⟨N1, N2, a1, a2, a3⟩ := INV_start (F := 6000) (x := x) (M := nM M x) (by decide)
  unfold f_L_law
  rw [bnd_e, a1, cal_s, bnd_e, a2, cal_s, bnd_e]
  exact law_loop (i := 0) h (by decide) rfl (by decide) (by decide) a3
end
