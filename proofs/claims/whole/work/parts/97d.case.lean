section
variable {F x a b o K len : Nat} {M N : zMi} {X : zMl} {xs : Nat → Int32} {A : Pg}
theorem cmd_g {g : Nat} (h : RC M a A) (hA : WF K A) (hK : K < 900000000) (hF : 101 ≤ F) (hg : g < 100000) : ∃ r M' B, f_X2_succeeds F a (nI g) M = some (r, M') ∧ fr a M M' ∧ RC M' a B ∧ WF (K + 99) B ∧ ∀ N, f_X11_does F b (nI g / (10000 : Int32)) ((nI g / (1000 : Int32)) - (nI g / (1000 : Int32)) / (10 : Int32) * (10 : Int32)) ((nI g / (100 : Int32)) - (nI g / (100 : Int32)) / (10 : Int32) * (10 : Int32)) (nI g - nI g / (100 : Int32) * (100 : Int32)) (pR N (b + 4) A) = some (r, pR N (b + 4) B) := by
  have hs : g / 1000 % 10 < 10 := Nat.mod_lt _ (by decide)
  have hu : g / 100 % 10 < 10 := Nat.mod_lt _ (by decide)
  have hw : g % 100 < 100 := Nat.mod_lt _ (by decide)
  have ht : 100 * (g / 100 % 10) + g % 100 = g % 1000 := by omega
  have key : cmdOk F a b K (g / 10000) (g / 1000 % 10) (g / 100 % 10) (g % 100) (g % 1000) M A := by
    have hc : g / 10000 = 0 ∨ g / 10000 = 1 ∨ g / 10000 = 2 ∨ g / 10000 = 3 ∨ g / 10000 = 4 ∨ g / 10000 = 5 ∨ g / 10000 = 6 ∨ g / 10000 = 7 ∨ g / 10000 = 8 ∨ g / 10000 = 9 := by omega
    rcases hc with e | e | e | e | e | e | e | e | e | e <;> rw [e]
    · exact cmd_0 h hA hK hF hs hu hw ht
    · exact cmd_1 h hA hK hF hs hu hw ht
    · exact cmd_2 h hA hK hF hs hu hw ht
    · exact cmd_3 h hA hK hF hs hu hw ht
    · exact cmd_4 h hA hK hF hs hu hw ht
    · exact cmd_5 h hA hK hF hs hu hw ht
    · exact cmd_6 h hA hK hF hs hu hw ht
    · exact cmd_7 h hA hK hF hs hu hw ht
    · exact cmd_8 h hA hK hF hs hu hw ht
    · exact cmd_9 h hA hK hF hs hu hw ht
  obtain ⟨r, M', B, k1, k2, k3, k4, k5⟩ := key
  refine ⟨r, M', B, by rw [c_suc hg]; exact k1, k2, k3, k4, fun N => ?_⟩
  rw [show (1000 : Int32) = nI 1000 from rfl, show (10000 : Int32) = nI 10000 from rfl, show (10 : Int32) = nI 10 from rfl, show (100 : Int32) = nI 100 from rfl, pk_rem (a := g) (d := 100) (by omega) (by decide) (by decide), pk_div (a := g) (d := 1000) (by omega) (by decide) (by decide), pk_div (a := g) (d := 10000) (by omega) (by decide) (by decide), pk_div (a := g) (d := 100) (by omega) (by decide) (by decide), pk_rem (a := g / 1000) (d := 10) (by omega) (by decide) (by decide), pk_rem (a := g / 100) (d := 10) (by omega) (by decide) (by decide), do_st hA.1 hs ht]
  exact k5 N
theorem c_wlL {p0 : Int64} {j : Nat} : ∀ {i v fu : Nat}, v < 2 ^ 63 → i + j < 1000000 → j < fu → f_X2_withoutLast_5 F p0 (nI (i + j)) fu (lN v) (nI i) M = some (lN (v / 100000 ^ j)) := by
  induction j with
  | zero =>
    intro i v fu hv hij hf
    obtain ⟨n, rfl⟩ : ∃ n, fu = n + 1 := ⟨fu - 1, by omega⟩
    rw [f_X2_withoutLast_5, if_neg (nI_nlt (a := i) (b := i + 0) (by omega) (by omega))]
    simp
  | succ j ih =>
    intro i v fu hv hij hf
    obtain ⟨n, rfl⟩ : ∃ n, fu = n + 1 := ⟨fu - 1, by omega⟩
    rw [f_X2_withoutLast_5, if_pos (nI_lt (a := i) (b := i + (j + 1)) (by omega) (by omega)), show (100000 : Int64) = lN 100000 from rfl, pk_lDiv hv (by decide) (by decide), bnd_e, ad1, show i + (j + 1) = (i + 1) + j from by omega, ih (i := i + 1) (v := v / 100000) (fu := n) (Nat.lt_of_le_of_lt (Nat.div_le_self _ _) hv) (by omega) (by omega), Nat.div_div_eq_div_mul, Nat.pow_succ, Nat.mul_comm 100000]
theorem c_wl {s j : Nat} (hs : s < 2 ^ 63) (hj : j < 100) (hF : 101 ≤ F) : f_X2_withoutLast F (lN s) (nI j) M = some (lN (s / 100000 ^ j)) := by
  have := c_wlL (F := F) (M := M) (p0 := lN s) (j := j) (i := 0) (v := s) (fu := F) hs (by omega) (by omega)
  rw [Nat.zero_add] at this
  exact this
theorem pw5 {j : Nat} (hj : j ≤ 3) : 0 < 100000 ^ j ∧ 100000 ^ j < 2 ^ 60 := by
  have : j = 0 ∨ j = 1 ∨ j = 2 ∨ j = 3 := by omega
  rcases this with rfl | rfl | rfl | rfl <;> decide
theorem rs_loop {s n : Nat} (hs : s < 2 ^ 63) (hn : n ≤ 3) (hF : 101 ≤ F) {j : Nat} : ∀ {i K fu fu2 : Nat} {M : zMi} {T : Pg}, i + j = n → K < 800000000 + 99 * i → j < fu → j < fu2 → RC M (x + 24) T → WF K T → ∃ v M', f_X10_runScript_47 F x (nI n) (lN s) fu (nI i) M = some (.inr v, M') ∧ fr (x + 24) M M' ∧ ∀ N, ∃ B, f_X11_runScript_84 F b (nI n) (lN s) fu2 (lN (100000 ^ j)) (lN (s % 100000 ^ j)) (nI i) (pR N (b + 4) T) = some (v, pR N (b + 4) B) := by
  induction j with
  | zero =>
    intro i K fu fu2 M T hij hK hf hf2 hR hW
    obtain ⟨m, rfl⟩ : ∃ m, fu = m + 1 := ⟨fu - 1, by omega⟩
    obtain ⟨m2, rfl⟩ : ∃ m, fu2 = m + 1 := ⟨fu2 - 1, by omega⟩
    have : i = n := by omega
    subst this
    rw [f_X10_runScript_47, if_neg (nI_nlt (a := i) (b := i) (by omega) (by omega))]
    refine ⟨-9, M, rfl, fr_r, fun N => ⟨T, ?_⟩⟩
    rw [f_X11_runScript_84, if_neg (nI_nlt (a := i) (b := i) (by omega) (by omega))]
  | succ j ih =>
    intro i K fu fu2 M T hij hK hf hf2 hR hW
    obtain ⟨m, rfl⟩ : ∃ m, fu = m + 1 := ⟨fu - 1, by omega⟩
    obtain ⟨m2, rfl⟩ : ∃ m, fu2 = m + 1 := ⟨fu2 - 1, by omega⟩
    have hp := pw5 (j := j) (by omega)
    have hg : s / 100000 ^ j % 100000 < 100000 := Nat.mod_lt _ (by decide)
    have hd : s / 100000 ^ j < 2 ^ 63 := Nat.lt_of_le_of_lt (Nat.div_le_self _ _) hs
    obtain ⟨r, M1, B1, k1, k2, k3, k4, k5⟩ := cmd_g (F := F) (b := b) (a := x + 24) (g := s / 100000 ^ j % 100000) hR hW (by omega) hF hg
    have en : nI n - 1 - nI i = nI j := by
      obtain ⟨n', rfl⟩ : ∃ n', n = n' + 1 := ⟨n - 1, by omega⟩
      rw [nI_pred, pk_sub (by omega)]
      congr 1
      omega
    rw [f_X10_runScript_47, if_pos (nI_lt (a := i) (b := n) (by omega) (by omega)), en, c_wl hs (by omega) hF, cal_s, show (100000 : Int64) = lN 100000 from rfl, pk_lRem hd (by decide) (by decide), lN_i, bnd_e, k1, cal_s]
    have hsm : s % 100000 ^ (j + 1) < 2 ^ 63 := Nat.lt_of_le_of_lt (Nat.mod_le _ _) hs
    have e1 : lN (100000 ^ (j + 1)) / lN 100000 = lN (100000 ^ j) := by
      rw [pk_lDiv (by have := pw5 (j := j + 1) (by omega); omega) (by decide) (by decide), Nat.pow_succ, Nat.mul_div_cancel _ (by decide)]
    have e2 : lN (s % 100000 ^ (j + 1)) / lN (100000 ^ j) = lN (s / 100000 ^ j % 100000) := by
      rw [pk_lDiv hsm hp.1 (by omega), Nat.pow_succ, Nat.mod_mul_right_div_self]
    have e3 : lN (s % 100000 ^ (j + 1)) - lN (s / 100000 ^ j % 100000) * lN (100000 ^ j) = lN (s % 100000 ^ j) := by
      rw [← e2, pk_lRem hsm hp.1 (by omega), Nat.mod_mod_of_dvd _ (Nat.pow_dvd_pow _ (by omega))]
    have e4 : (!decide (lN (100000 ^ j) = 0)) = true := by
      have : ¬ lN (100000 ^ j) = 0 := fun y => by
        have := (pk_lEQ (a := 100000 ^ j) (b := 0) (by omega) (by decide)).mp y
        omega
      simp [this]
    have st : ∀ N, f_X11_runScript_84 F b (nI n) (lN s) (m2 + 1) (lN (100000 ^ (j + 1))) (lN (s % 100000 ^ (j + 1))) (nI i) (pR N (b + 4) T) = if r = 0 then some (nI i, pR N (b + 4) B1) else f_X11_runScript_84 F b (nI n) (lN s) m2 (lN (100000 ^ j)) (lN (s % 100000 ^ j)) (nI (i + 1)) (pR N (b + 4) B1) := fun N => by
      rw [f_X11_runScript_84, if_pos (nI_lt (a := i) (b := n) (by omega) (by omega)), show (100000 : Int64) = lN 100000 from rfl, e1, bnd_e, e4, grd_t, e2, lN_i, bnd_e, grd_t, e3, bnd_e, k5 N, cal_s, ad1]
    by_cases c : r = 0
    · rw [if_pos c]
      refine ⟨nI i, M1, rfl, k2, fun N => ⟨B1, ?_⟩⟩
      rw [st N, if_pos c]
    · rw [if_neg c, ad1]
      obtain ⟨v, M2, i1, i2, i3⟩ := ih (i := i + 1) (K := K + 99) (fu := m) (fu2 := m2) (by omega) (by omega) (by omega) (by omega) k3 k4
      refine ⟨v, M2, i1, fr_t k2 i2, fun N => ?_⟩
      obtain ⟨B, i4⟩ := i3 N
      refine ⟨B, ?_⟩
      rw [st N, if_neg c]
      exact i4
theorem rs_all {n : Nat} {p2 : Int64} (h1 : 1 ≤ n) (h3 : n ≤ 3) : f_X11_runScript F b (nI n) p2 M = f_X11_runScript_25 F b (nI n) p2 (lN (100000 ^ n)) M := by
  have : n = 1 ∨ n = 2 ∨ n = 3 := by omega
  unfold f_X11_runScript
  rcases this with rfl | rfl | rfl
  · rw [if_pos (show nI 1 = 1 from rfl)]; rfl
  · rw [if_neg (show ¬ nI 2 = 1 by decide), if_pos (show nI 2 = 2 from rfl)]; rfl
  · rw [if_neg (show ¬ nI 3 = 1 by decide), if_neg (show ¬ nI 3 = 2 by decide)]; rfl
theorem rs_57 {n : Int32} {p2 v : Int64} : f_X11_runScript_57 F b n p2 v 1 M = some (0, wI M b 0 1) := by
  unfold f_X11_runScript_57
  rw [m_r1 (by decide), cal_s, if_neg (show ¬ (1 : Int32) = 0 by decide)]
theorem rs_n {p : Int32} {p2 v : Int64} (c : ¬ (1 ≤ p ∧ p ≤ 3)) : f_X11_runScript F b p p2 M = some (0, wI M b 0 1) := by
  have k : ∀ w, f_X11_runScript_25 F b p p2 w M = some (0, wI M b 0 1) := fun w => by
    unfold f_X11_runScript_25
    rw [m_in13, cal_s, if_neg c, if_pos rfl, rs_57]
  unfold f_X11_runScript
  rw [k, k, k]
  repeat' split
  all_goals rfl
theorem case_script {k : Int32 → zMi → zMl → Option Int32} {v4 : Int32} (h : INV K M x b) (hb : b = x + 386) (hK : K < 700000000) (hF : 1573 < F) (hg1 : inb (v4 + 1) len = true) (hg2 : inb (v4 + 2) len = true) (hg3 : inb (v4 + 3) len = true) : goes K x b k v4 (f_L_law_1463 F len xs x b o k v4 M X) := by
  generalize hp : xs (ix (v4 + (1 : Int32))) = p
  generalize hs : ((((xs (ix (v4 + (2 : Int32))))).toInt64 <<< (((32 : Int32)).toInt64 &&& 63)) ||| (((xs (ix (v4 + (3 : Int32))))).toInt64 &&& (4294967295 : Int64))) = sd
  unfold f_L_law_1463 f_L_runScript f_X10_runScript
  rw [hg1, hg2, hg3, grd_t, grd_t, grd_t, hp, hs, c_rr]
  by_cases c : 1 ≤ p ∧ p ≤ 3
  · obtain ⟨n, hn3, rfl⟩ := exN (n := 3) (x := p) (by grind) c.2 (by decide)
    have hn1 : 1 ≤ n := (nI_leI (a := 1) (b := n) (by decide) (by omega)).mp c.1
    have hpn := pw5 (j := n) hn3
    have e1 : lN (100000 ^ n) - 1 = lN (100000 ^ n - 1) := lN_sub (b := 1) hpn.1
    rw [if_pos c, calp_r]
    by_cases c0 : sd < 0
    · rw [if_pos ((lg_cmp_lt sd 0).mpr c0), calw_l, if_pos rfl, cal_s, grd_t, grd_t, grd_t]
      dsimp only
      rw [rs_all hn1 hn3]
      unfold f_X11_runScript_25
      rw [m_in13, cal_s, if_pos c, if_neg (show ¬ (1 : Int32) = 0 by decide), m_in, cal_s, if_neg (show ¬ (0 ≤ sd ∧ sd ≤ lN (100000 ^ n) - 1) from fun y => Int64.not_le.mpr c0 y.1), if_pos rfl, rs_57]
      exact rd_ok (v := 0) h hb (by omega) (fun q => absurd q (by decide))
    · obtain ⟨s, hs63, rfl⟩ := pk_lOf c0
      have hw := c_wl (F := F) (M := M) (j := n) hs63 (by omega) (by omega)
      have hq : s / 100000 ^ n < 2 ^ 63 := Nat.lt_of_le_of_lt (Nat.div_le_self _ _) hs63
      rw [if_neg (fun y => c0 ((lg_cmp_lt _ 0).mp y)), hw, cal_s]
      by_cases c1 : s < 100000 ^ n
      · have z0 : s / 100000 ^ n = 0 := Nat.div_eq_of_lt c1
        obtain ⟨M1, T, a1, a2, a3, a4, a5, a6⟩ := INV_tr (F := F) h hb (by omega) (by omega)
        obtain ⟨v, M2, b1, b2, b3⟩ := rs_loop (F := F) (x := x) (b := b) (s := s) (n := n) hs63 hn3 (by omega) (j := n) (i := 0) (K := K) (fu := F) (fu2 := F) (by omega) (by omega) (by omega) (by omega) a3 a4
        obtain ⟨d1, d2, d3⟩ := a6 M2 b2
        obtain ⟨B, b4⟩ := b3 (wI M2 b 0 0)
        rw [Nat.mod_eq_of_lt c1] at b4
        rw [z0, if_neg (fun y => absurd ((lg_cmp_gt _ _).mp y) (by decide)), a1, cal_s, show f_X10_runScript_47 F x (nI n) (lN s) F (0 : Int32) M1 = f_X10_runScript_47 F x (nI n) (lN s) F (nI 0) M1 from rfl, b1, calw_r, bnd_e, cal_s, grd_t, grd_t, grd_t]
        dsimp only
        rw [rs_all hn1 hn3]
        unfold f_X11_runScript_25 f_X11_runScript_57
        rw [m_in13, cal_s, if_pos c, if_neg (show ¬ (1 : Int32) = 0 by decide), m_in, cal_s, e1, if_pos (show 0 ≤ lN s ∧ lN s ≤ lN (100000 ^ n - 1) from ⟨(pk_lLE (a := 0) (by decide) hs63).mpr (by omega), (pk_lLE hs63 (by omega)).mpr (by omega)⟩), if_neg (show ¬ (1 : Int32) = 0 by decide)]
        rw [m_r0, cal_s, if_pos rfl]
        dsimp only
        rw [d1, cal_s, show f_X11_runScript_84 F b (nI n) (lN s) F (lN (100000 ^ n)) (lN s) (0 : Int32) (pR (wI M2 b 0 0) (b + 4) T) = f_X11_runScript_84 F b (nI n) (lN s) F (lN (100000 ^ n)) (lN s) (nI 0) (pR (wI M2 b 0 0) (b + 4) T) from rfl, b4]
        exact ac_ok (by rw [pR_n (by omega)]; simp [wI]) (d3 _) (fun _ => wL_s)
      · have q1 : 0 < s / 100000 ^ n := Nat.div_pos (by omega) hpn.1
        rw [if_pos (show 0 < lg_cmp (lN (s / 100000 ^ n)) 0 from (lg_cmp_gt _ _).mpr ((pk_lLT (a := 0) (by decide) hq).mpr q1)), calw_l, if_pos rfl, cal_s, grd_t, grd_t, grd_t]
        dsimp only
        rw [rs_all hn1 hn3]
        unfold f_X11_runScript_25
        rw [m_in13, cal_s, if_pos c, if_neg (show ¬ (1 : Int32) = 0 by decide), m_in, cal_s, e1, if_neg (show ¬ (0 ≤ lN s ∧ lN s ≤ lN (100000 ^ n - 1)) from fun y => by have := (pk_lLE (a := s) (b := 100000 ^ n - 1) hs63 (by omega)).mp y.2; omega), if_pos rfl, rs_57]
        exact rd_ok (v := 0) h hb (by omega) (fun q => absurd q (by decide))
  · rw [if_neg c, calp_l, calw_l, if_pos rfl, cal_s, grd_t, grd_t, grd_t]
    dsimp only
    rw [rs_n (v := 0) c]
    exact rd_ok (v := 0) h hb (by omega) (fun q => absurd q (by decide))
end
