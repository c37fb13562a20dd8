section
theorem wb_tb (n : Nat) : (lN n).toBitVec = BitVec.ofNat 64 n := rfl
theorem wb_inj {a b : Int64} (h : a.toBitVec = b.toBitVec) : a = b := Int64.toBitVec_inj.mp h
theorem wb_tn {n : Nat} (h : n < 2 ^ 64) : (lN n).toBitVec.toNat = n := by rw [wb_tb, BitVec.toNat_ofNat, Nat.mod_eq_of_lt h]
theorem wb_of (x : Int64) : ∃ n, n < 2 ^ 64 ∧ x = lN n := ⟨x.toBitVec.toNat, x.toBitVec.isLt, wb_inj (by rw [wb_tb]; simp)⟩
theorem wb_cu : ∀ k, k < 64 → ((nI k).toInt64.toUInt64 &&& Int64.toUInt64 63) = UInt64.ofNat k := by decide +kernel
theorem wb_shr {n k : Nat} (hn : n < 2 ^ 64) (hk : k < 64) : ((lN n).toUInt64 >>> ((nI k).toInt64.toUInt64 &&& Int64.toUInt64 63)).toInt64 = lN (n / 2 ^ k) := by
  rw [wb_cu k hk]
  apply wb_inj
  apply BitVec.eq_of_toNat_eq
  show ((lN n).toUInt64 >>> UInt64.ofNat k).toNat = (BitVec.ofNat 64 _).toNat
  have h1 : (UInt64.ofNat k).toNat = k := by
    show (BitVec.ofNat 64 k).toNat = k
    rw [BitVec.toNat_ofNat, Nat.mod_eq_of_lt (by omega)]
  have h2 : (lN n).toUInt64.toNat = n := wb_tn hn
  rw [UInt64.toNat_shiftRight, h1, h2, Nat.mod_eq_of_lt hk, Nat.shiftRight_eq_div_pow, BitVec.toNat_ofNat, Nat.mod_eq_of_lt (Nat.lt_of_le_of_lt (Nat.div_le_self _ _) hn)]
/-- the number that a round is drawn from -/
theorem rq_ex (x : Int64) : ∃ q : Nat, q < 2147483648 ∧ (((x).toUInt64 >>> (((33 : Int32)).toInt64.toUInt64 &&& Int64.toUInt64 63)).toInt64).toInt32 = nI q := by
  obtain ⟨n, hn, rfl⟩ := wb_of x
  have h : n / 2 ^ 33 < 2147483648 := by
    rw [Nat.div_lt_iff_lt_mul (by decide)]
    exact hn
  refine ⟨n / 2 ^ 33, h, ?_⟩
  rw [show (33 : Int32) = nI 33 from rfl, wb_shr hn (by decide), lN_i]
variable {F b K : Nat} {M : zMi} {A : Pg}
theorem m_round {p1 x : Int64} {p2 : Int32} {n q : Nat} {v6 : Int32} (hv : v6 < p2) (hq : q < 2147483648) (hx : (((x * (6364136223846793005 : Int64)) + (1442695040888963407 : Int64)).toUInt64 >>> (((33 : Int32)).toInt64.toUInt64 &&& Int64.toUInt64 63)).toInt64.toInt32 = nI q) (hA : WF K A) (hK : K < 900000000) (hF : 101 ≤ F) :
    f_X11_simulate_45 F b p1 p2 (n + 1) x v6 (pR M (b + 4) A) = f_X11_simulate_45 F b p1 p2 n ((x * (6364136223846793005 : Int64)) + (1442695040888963407 : Int64)) (v6 + 1) (pR M (b + 4) (dDay (dPre q A))) := by
  obtain ⟨f, f0, f4, hf⟩ := wFl_N hA.1
  obtain ⟨w, w0, w1, hw⟩ := WF_6 hA
  have hP := WF_pre (q := q) hA
  have m8 : nI q - nI q / 8 * 8 = nI (q % 8) := pk_rem (d := 8) hq (by decide) (by decide)
  have m10 : nI q / 2048 - nI q / 2048 / 10 * 10 = nI (q / 2048 % 10) := by
    rw [show nI q / 2048 = nI (q / 2048) from pk_div (d := 2048) hq (by decide) (by decide)]
    exact pk_rem (d := 10) (by omega) (by decide) (by decide)
  have mw : nI q / 64 - nI q / 64 / nI w * nI w = nI (q / 64 % w) := by
    rw [show nI q / 64 = nI (q / 64) from pk_div (d := 64) hq (by decide) (by decide)]
    exact pk_rem (by omega) w0 (by omega)
  have mf : nI q / 8 - nI q / 8 / nI f * nI f = nI (q / 8 % f) := by
    rw [show nI q / 8 = nI (q / 8) from pk_div (d := 8) hq (by decide) (by decide)]
    exact pk_rem (by omega) f0 (by omega)
  have hmw : q / 64 % w < w := Nat.mod_lt _ w0
  have hmf : q / 8 % f < f := Nat.mod_lt _ f0
  have hw0 : ¬ nI w = 0 := nI_ne0 w0 (by omega)
  have hf0 : ¬ nI f = 0 := nI_ne0 f0 (by omega)
  have g1 : ∀ k : Option (Int32 × zMi), grd (!decide (nI w = 0)) k = k := fun k => by simp [grd, hw0]
  have g2 : ∀ k : Option (Int32 × zMi), grd (!decide (nI f = 0)) k = k := fun k => by simp [grd, hf0]
  rw [f_X11_simulate_45, if_pos hv, bnd_e, bnd_e, hx, pR_s, hf, hw, g2, g1, bnd_e, m8, m10, mw, mf, a91N, inbN (by omega) (by decide), grd_t, ixN (by omega), bnd_e, pR_w]
  unfold dPre at hP ⊢
  rw [hf, hw, ixN (by omega), ixN (by omega)] at hP ⊢
  by_cases k0 : q % 8 = 0
  · rw [if_pos k0] at hP ⊢
    rw [if_pos (show nI (q % 8) = 0 from by rw [k0]; rfl), m_dayW hF hP (by omega), cal_s]
  · rw [if_neg k0] at hP ⊢
    rw [if_neg (show ¬ nI (q % 8) = 0 from nI_ne0 (by omega) (by omega))]
    by_cases k1 : q % 8 < 3
    · rw [if_pos k1] at hP ⊢
      rw [if_pos (show nI (q % 8) < (3 : Int32) from nI_lt (b := 3) (by omega) (by decide)), m_canSend (by omega), cal_s]
      by_cases k2 : A (59 + 8 * (q / 8 % f) + 5) = 0 ∧ A 7 ≠ A 4
      · rw [if_pos k2] at hP ⊢
        rw [if_pos k2, if_neg (show ¬ (1 : Int32) = 0 by decide), m_fill (by omega), cal_s, m_dayW hF hP (by omega), cal_s]
      · rw [if_neg k2] at hP ⊢
        rw [if_neg k2, if_pos rfl, m_dayW hF hP (by omega), cal_s]
    · rw [if_neg k1] at hP ⊢
      rw [if_neg (show ¬ nI (q % 8) < (3 : Int32) from nI_nlt (b := 3) (by omega) (by omega)), m_dayW hF hP (by omega), cal_s]
end
