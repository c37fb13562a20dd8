section
variable {F a b p n i K : Nat} {M N M' : zMi} {P : Pg} {tx : Nat → Nat}
theorem zone_j {zc : Nat} (hT : TX M p n tx) (hp : p + 1 < a) (hi : i < n) (hz : tx i = 122) (h4 : P 4 = nI zc) (hzc : zc < 9) (hR : RCv M a P) (hF : 101 ≤ F) :
    ∃ i', i' ≤ n ∧ ((∃ M', f_X7_readZone F p a (tS p i 1 M) = some (tS p i' 0 M') ∧ frT p a M M' ∧ ∀ N, TR N b n tx → ∃ P', f_X11_readZone F b (sP b (i + 1) P N) = some (0, sP b i' P' N)) ∨ (∃ M' l f t s, (1 ≤ l ∧ l ≤ 99 ∧ f ≤ 99 ∧ t ≤ 99 ∧ s ≤ 9) ∧ f_X7_readZone F p a (tS p i 1 M) = some (tS p i' 1 M') ∧ frT p a M M' ∧ RCv M' a (zP P zc l f t s) ∧ ∀ N, TR N b n tx → f_X11_readZone F b (sP b (i + 1) P N) = some (1, sP b i' (zP P zc l f t s) N))) := by
  have eL : f_X7_readLetter F p 122 (tS p i 1 M) = some (tS p (i + 1) 1 M) := by
    have := c_let (F := F) (c := 122) (i := i) hT (by omega) (by decide)
    rw [if_pos ⟨hi, hz⟩] at this
    exact this
  have tail : ∀ q (A1 A2 A3 A4 : Int32), ∃ M', cal (f_X5_addZone F a A1 A2 A3 A4 (tS p q 0 M)) (fun r6 => some r6) = some (tS p q 0 M') ∧ frT p a M M' := fun q A1 A2 A3 A4 => by
    obtain ⟨N1, b1, b2⟩ := c_addZt (F := F) (a := a) (M := tS p q 0 M) (v0 := A1) (v1 := A2) (v2 := A3) (v3 := A4)
    refine ⟨N1, ?_, frT_t frT_s (frT_f (by omega) b2)⟩
    rw [b1, cal_s, tS_f (by omega) b2]
  have z2 : ∀ q (y1 y2 : Int32), f_X7_readNumber F p (2 : Int32) y1 y2 (tS p q 0 M) = some (0, tS p q 0 M) := fun q y1 y2 => c_num0 (dg := 2) (by decide) hF
  have z1 : ∀ q (y1 y2 : Int32), f_X7_readNumber F p (1 : Int32) y1 y2 (tS p q 0 M) = some (0, tS p q 0 M) := fun q y1 y2 => c_num0 (dg := 1) (by decide) hF
  have d10 : ((1 : Int32) = 0) = False := eq_false (by decide)
  unfold f_X7_readZone f_X11_readZone
  simp only [eL, cal_s]
  rcases hr1 : rdN n tx 1 99 2 0 (i + 1) with ⟨ok1, l, q1⟩
  have q1n := rd_f hr1 (by omega)
  cases ok1 with
  | false =>
    have e1 : f_X7_readNumber F p 2 1 99 (tS p (i + 1) 1 M) = some (nI l, tS p q1 0 M) := c_nu0 (dg := 2) (lo := 1) (hi := 99) hT hr1 (by decide) (by decide) (by decide) (by omega) hF
    obtain ⟨M', t1, t2⟩ := tail q1 (nI l) 0 0 0
    refine ⟨q1, q1n, Or.inl ⟨M', ?_, t2, fun N hN => ⟨P, ?_⟩⟩⟩
    · simp only [e1, cal_s, z2, z1]; exact t1
    · have m1 : f_X11_put F b (nI (23 + 4 * zc)) 2 1 99 (sP b (i + 1) P N) = some (0, sP b q1 P N) := m_pu0 (dg := 2) (lo := 1) (hi := 99) hN hr1 (by omega) (by decide) (by decide) (by decide) (by decide) (by omega) hF
      simp only [sP_p, h4, m_zoneAt, cal_s, m1, ↓reduceIte]
  | true =>
    have e1 : f_X7_readNumber F p 2 1 99 (tS p (i + 1) 1 M) = some (nI l, tS p q1 1 M) := c_nu1 (dg := 2) (lo := 1) (hi := 99) hT hr1 (by decide) (by decide) (by decide) (by omega) hF
    have m1 : ∀ N, TR N b n tx → f_X11_put F b (nI (23 + 4 * zc)) 2 1 99 (sP b (i + 1) P N) = some (1, sP b q1 (pU P (23 + 4 * zc) (nI l)) N) := fun N hN => m_pu1 (dg := 2) (lo := 1) (hi := 99) hN hr1 (by omega) (by decide) (by decide) (by decide) (by decide) (by omega) hF
    obtain ⟨l1, l9⟩ := rd_b hr1 (by decide)
    rcases hr2 : rdN n tx 0 99 2 0 q1 with ⟨ok2, f, q2⟩
    have q2n := rd_f hr2 q1n
    cases ok2 with
    | false =>
      have e2 : f_X7_readNumber F p 2 0 99 (tS p q1 1 M) = some (nI f, tS p q2 0 M) := c_nu0 (dg := 2) (lo := 0) (hi := 99) hT hr2 (by decide) (by decide) (by decide) q1n hF
      obtain ⟨M', t1, t2⟩ := tail q2 (nI l) (nI f) 0 0
      refine ⟨q2, q2n, Or.inl ⟨M', ?_, t2, fun N hN => ⟨pU P (23 + 4 * zc) (nI l), ?_⟩⟩⟩
      · simp only [e1, e2, cal_s, z2, z1]; exact t1
      · have m2 : f_X11_put F b (nI (23 + 4 * zc + 1)) 2 0 99 (sP b q1 (pU P (23 + 4 * zc) (nI l)) N) = some (0, sP b q2 (pU P (23 + 4 * zc) (nI l)) N) := m_pu0 (dg := 2) (lo := 0) (hi := 99) hN hr2 (by omega) (by decide) (by decide) (by decide) (by decide) q1n hF
        simp only [sP_p, h4, m_zoneAt, cal_s, m1 N hN, d10, if_false, ad1, m2, ↓reduceIte]
    | true =>
      have e2 : f_X7_readNumber F p 2 0 99 (tS p q1 1 M) = some (nI f, tS p q2 1 M) := c_nu1 (dg := 2) (lo := 0) (hi := 99) hT hr2 (by decide) (by decide) (by decide) q1n hF
      have m2 : ∀ N, TR N b n tx → f_X11_put F b (nI (23 + 4 * zc + 1)) 2 0 99 (sP b q1 (pU P (23 + 4 * zc) (nI l)) N) = some (1, sP b q2 (pU (pU P (23 + 4 * zc) (nI l)) (23 + 4 * zc + 1) (nI f)) N) := fun N hN => m_pu1 (dg := 2) (lo := 0) (hi := 99) hN hr2 (by omega) (by decide) (by decide) (by decide) (by decide) q1n hF
      obtain ⟨-, f9⟩ := rd_b hr2 (by decide)
      have vf : pU (pU P (23 + 4 * zc) (nI l)) (23 + 4 * zc + 1) (nI f) (23 + 4 * zc + 1) = nI f := pU_s
      rcases hr3 : rdN n tx f 99 2 0 q2 with ⟨ok3, t, q3⟩
      have q3n := rd_f hr3 q2n
      cases ok3 with
      | false =>
        have e3 : f_X7_readNumber F p 2 (nI f) 99 (tS p q2 1 M) = some (nI t, tS p q3 0 M) := c_nu0 (dg := 2) (lo := f) (hi := 99) hT hr3 (by omega) (by decide) (by decide) q2n hF
        obtain ⟨M', t1, t2⟩ := tail q3 (nI l) (nI f) (nI t) 0
        refine ⟨q3, q3n, Or.inl ⟨M', ?_, t2, fun N hN => ⟨pU (pU P (23 + 4 * zc) (nI l)) (23 + 4 * zc + 1) (nI f), ?_⟩⟩⟩
        · simp only [e1, e2, e3, cal_s, z2, z1]; exact t1
        · have m3 : f_X11_put F b (nI (23 + 4 * zc + 2)) 2 (nI f) 99 (sP b q2 (pU (pU P (23 + 4 * zc) (nI l)) (23 + 4 * zc + 1) (nI f)) N) = some (0, sP b q3 (pU (pU P (23 + 4 * zc) (nI l)) (23 + 4 * zc + 1) (nI f)) N) := m_pu0 (dg := 2) (lo := f) (hi := 99) hN hr3 (by omega) (by omega) (by decide) (by decide) (by decide) q2n hF
          simp (disch := omega) only [sP_p, h4, m_zoneAt, cal_s, m1 N hN, d10, if_false, ad1, ad2, m2 N hN, inbN, grd_t, ixN, vf, m3, ↓reduceIte]
      | true =>
        have e3 : f_X7_readNumber F p 2 (nI f) 99 (tS p q2 1 M) = some (nI t, tS p q3 1 M) := c_nu1 (dg := 2) (lo := f) (hi := 99) hT hr3 (by omega) (by decide) (by decide) q2n hF
        have m3 : ∀ N, TR N b n tx → f_X11_put F b (nI (23 + 4 * zc + 2)) 2 (nI f) 99 (sP b q2 (pU (pU P (23 + 4 * zc) (nI l)) (23 + 4 * zc + 1) (nI f)) N) = some (1, sP b q3 (pU (pU (pU P (23 + 4 * zc) (nI l)) (23 + 4 * zc + 1) (nI f)) (23 + 4 * zc + 2) (nI t)) N) := fun N hN => m_pu1 (dg := 2) (lo := f) (hi := 99) hN hr3 (by omega) (by omega) (by decide) (by decide) (by decide) q2n hF
        obtain ⟨-, t9⟩ := rd_b hr3 (by decide)
        rcases hr4 : rdN n tx 0 9 1 0 q3 with ⟨ok4, s, q4⟩
        have q4n := rd_f hr4 q3n
        cases ok4 with
        | false =>
          have e4 : f_X7_readNumber F p 1 0 9 (tS p q3 1 M) = some (nI s, tS p q4 0 M) := c_nu0 (dg := 1) (lo := 0) (hi := 9) hT hr4 (by decide) (by decide) (by decide) q3n hF
          obtain ⟨M', t1, t2⟩ := tail q4 (nI l) (nI f) (nI t) (nI s)
          refine ⟨q4, q4n, Or.inl ⟨M', ?_, t2, fun N hN => ⟨pU (pU (pU P (23 + 4 * zc) (nI l)) (23 + 4 * zc + 1) (nI f)) (23 + 4 * zc + 2) (nI t), ?_⟩⟩⟩
          · simp only [e1, e2, e3, e4, cal_s, z2, z1]; exact t1
          · have m4 : f_X11_put F b (nI (23 + 4 * zc + 3)) 1 0 9 (sP b q3 (pU (pU (pU P (23 + 4 * zc) (nI l)) (23 + 4 * zc + 1) (nI f)) (23 + 4 * zc + 2) (nI t)) N) = some (0, sP b q4 (pU (pU (pU P (23 + 4 * zc) (nI l)) (23 + 4 * zc + 1) (nI f)) (23 + 4 * zc + 2) (nI t)) N) := m_pu0 (dg := 1) (lo := 0) (hi := 9) hN hr4 (by omega) (by decide) (by decide) (by decide) (by decide) q3n hF
            simp (disch := omega) only [sP_p, h4, m_zoneAt, cal_s, m1 N hN, d10, if_false, ad1, ad2, ad3, m2 N hN, inbN, grd_t, ixN, vf, m3 N hN, m4, ↓reduceIte]
        | true =>
          have e4 : f_X7_readNumber F p 1 0 9 (tS p q3 1 M) = some (nI s, tS p q4 1 M) := c_nu1 (dg := 1) (lo := 0) (hi := 9) hT hr4 (by decide) (by decide) (by decide) q3n hF
          obtain ⟨-, s9⟩ := rd_b hr4 (by decide)
          have hRt : RC (tS p q4 1 M) a (pU P 16 (P 2)) := RC_fr hR (fun q y1 y2 => tS_q (by omega))
          obtain ⟨N1, b1, b2, b3⟩ := c_addZ (F := F) (v0 := nI l) (v1 := nI f) (v2 := nI t) (v3 := nI s) hRt (by rw [pU_n (by omega)]; exact h4) hzc
          refine ⟨q4, q4n, Or.inr ⟨N1, l, f, t, s, ⟨l1, l9, f9, t9, s9⟩, ?_, frT_t frT_s (frT_f (by omega) b2), ?_, fun N hN => ?_⟩⟩
          · simp only [e1, e2, e3, e4, cal_s, b1]; rw [tS_f (by omega) b2]
          · unfold RCv; rw [v_z]; exact b3
          · have m4 : f_X11_put F b (nI (23 + 4 * zc + 3)) 1 0 9 (sP b q3 (pU (pU (pU P (23 + 4 * zc) (nI l)) (23 + 4 * zc + 1) (nI f)) (23 + 4 * zc + 2) (nI t)) N) = some (1, sP b q4 (pU (pU (pU (pU P (23 + 4 * zc) (nI l)) (23 + 4 * zc + 1) (nI f)) (23 + 4 * zc + 2) (nI t)) (23 + 4 * zc + 3) (nI s)) N) := m_pu1 (dg := 1) (lo := 0) (hi := 9) hN hr4 (by omega) (by decide) (by decide) (by decide) (by decide) q3n hF
            have v4 : pU (pU (pU (pU P (23 + 4 * zc) (nI l)) (23 + 4 * zc + 1) (nI f)) (23 + 4 * zc + 2) (nI t)) (23 + 4 * zc + 3) (nI s) 4 = nI zc := by
              rw [pU_n (by omega), pU_n (by omega), pU_n (by omega), pU_n (by omega)]; exact h4
            simp (disch := omega) only [sP_p, h4, m_zoneAt, cal_s, m1 N hN, d10, if_false, ad1, ad2, ad3, m2 N hN, inbN, grd_t, ixN, vf, m3 N hN, m4, v4, bnd_e, sP_wp]
            rfl
theorem ship_j {sc : Nat} (hT : TX M p n tx) (hp : p + 1 < a) (hi : i < n) (hz : tx i = 115) (h5 : P 5 = nI sc) (hsc : sc < 4) (h8 : ∀ k, 4 ≤ k → k < 8 → P (59 + 8 * sc + k) = 0) (hR : RCv M a P) (hF : 101 ≤ F) :
    ∃ i', i' ≤ n ∧ ((∃ M', f_X7_readShip F p a (tS p i 1 M) = some (tS p i' 0 M') ∧ frT p a M M' ∧ ∀ N, TR N b n tx → ∃ P', f_X11_readShip F b (sP b (i + 1) P N) = some (0, sP b i' P' N)) ∨ (∃ M' l f t s, (l ≤ 999 ∧ f ≤ 20) ∧ f_X7_readShip F p a (tS p i 1 M) = some (tS p i' 1 M') ∧ frT p a M M' ∧ RCv M' a (hP P sc l f t s) ∧ ∀ N, TR N b n tx → f_X11_readShip F b (sP b (i + 1) P N) = some (1, sP b i' (hP P sc l f t s) N))) := by
  have eL : f_X7_readLetter F p 115 (tS p i 1 M) = some (tS p (i + 1) 1 M) := by
    have := c_let (F := F) (c := 115) (i := i) hT (by omega) (by decide)
    rw [if_pos ⟨hi, hz⟩] at this
    exact this
  have tail : ∀ q (A1 A2 A3 A4 : Int32), ∃ M', cal (f_X5_addShip F a A1 A2 A3 A4 (tS p q 0 M)) (fun r6 => some r6) = some (tS p q 0 M') ∧ frT p a M M' := fun q A1 A2 A3 A4 => by
    obtain ⟨N1, b1, b2⟩ := c_addSt (F := F) (a := a) (M := tS p q 0 M) (v0 := A1) (v1 := A2) (v2 := A3) (v3 := A4)
    refine ⟨N1, ?_, frT_t frT_s (frT_f (by omega) b2)⟩
    rw [b1, cal_s, tS_f (by omega) b2]
  have z2 : ∀ q (y1 y2 : Int32), f_X7_readNumber F p (2 : Int32) y1 y2 (tS p q 0 M) = some (0, tS p q 0 M) := fun q y1 y2 => c_num0 (dg := 2) (by decide) hF
  have z1 : ∀ q (y1 y2 : Int32), f_X7_readNumber F p (1 : Int32) y1 y2 (tS p q 0 M) = some (0, tS p q 0 M) := fun q y1 y2 => c_num0 (dg := 1) (by decide) hF
  have d10 : ((1 : Int32) = 0) = False := eq_false (by decide)
  unfold f_X7_readShip f_X11_readShip
  simp only [eL, cal_s]
  rcases hr1 : rdN n tx 10 999 3 0 (i + 1) with ⟨ok1, l, q1⟩
  have q1n := rd_f hr1 (by omega)
  cases ok1 with
  | false =>
    have e1 : f_X7_readNumber F p 3 10 999 (tS p (i + 1) 1 M) = some (nI l, tS p q1 0 M) := c_nu0 (dg := 3) (lo := 10) (hi := 999) hT hr1 (by decide) (by decide) (by decide) (by omega) hF
    obtain ⟨M', t1, t2⟩ := tail q1 (nI l) 0 0 0
    refine ⟨q1, q1n, Or.inl ⟨M', ?_, t2, fun N hN => ⟨P, ?_⟩⟩⟩
    · simp only [e1, cal_s, z2, z1]; exact t1
    · have m1 : f_X11_put F b (nI (59 + 8 * sc)) 3 10 999 (sP b (i + 1) P N) = some (0, sP b q1 P N) := m_pu0 (dg := 3) (lo := 10) (hi := 999) hN hr1 (by omega) (by decide) (by decide) (by decide) (by decide) (by omega) hF
      simp only [sP_p, h5, m_shipAt, cal_s, m1, ↓reduceIte]
  | true =>
    have e1 : f_X7_readNumber F p 3 10 999 (tS p (i + 1) 1 M) = some (nI l, tS p q1 1 M) := c_nu1 (dg := 3) (lo := 10) (hi := 999) hT hr1 (by decide) (by decide) (by decide) (by omega) hF
    have m1 : ∀ N, TR N b n tx → f_X11_put F b (nI (59 + 8 * sc)) 3 10 999 (sP b (i + 1) P N) = some (1, sP b q1 (pU P (59 + 8 * sc) (nI l)) N) := fun N hN => m_pu1 (dg := 3) (lo := 10) (hi := 999) hN hr1 (by omega) (by decide) (by decide) (by decide) (by decide) (by omega) hF
    obtain ⟨-, l9⟩ := rd_b hr1 (by decide)
    rcases hr2 : rdN n tx 1 20 2 0 q1 with ⟨ok2, f, q2⟩
    have q2n := rd_f hr2 q1n
    cases ok2 with
    | false =>
      have e2 : f_X7_readNumber F p 2 1 20 (tS p q1 1 M) = some (nI f, tS p q2 0 M) := c_nu0 (dg := 2) (lo := 1) (hi := 20) hT hr2 (by decide) (by decide) (by decide) q1n hF
      obtain ⟨M', t1, t2⟩ := tail q2 (nI l) (nI f) 0 0
      refine ⟨q2, q2n, Or.inl ⟨M', ?_, t2, fun N hN => ⟨pU P (59 + 8 * sc) (nI l), ?_⟩⟩⟩
      · simp only [e1, e2, cal_s, z2, z1]; exact t1
      · have m2 : f_X11_put F b (nI (59 + 8 * sc + 1)) 2 1 20 (sP b q1 (pU P (59 + 8 * sc) (nI l)) N) = some (0, sP b q2 (pU P (59 + 8 * sc) (nI l)) N) := m_pu0 (dg := 2) (lo := 1) (hi := 20) hN hr2 (by omega) (by decide) (by decide) (by decide) (by decide) q1n hF
        simp only [sP_p, h5, m_shipAt, cal_s, m1 N hN, d10, if_false, ad1, m2, ↓reduceIte]
    | true =>
      have e2 : f_X7_readNumber F p 2 1 20 (tS p q1 1 M) = some (nI f, tS p q2 1 M) := c_nu1 (dg := 2) (lo := 1) (hi := 20) hT hr2 (by decide) (by decide) (by decide) q1n hF
      have m2 : ∀ N, TR N b n tx → f_X11_put F b (nI (59 + 8 * sc + 1)) 2 1 20 (sP b q1 (pU P (59 + 8 * sc) (nI l)) N) = some (1, sP b q2 (pU (pU P (59 + 8 * sc) (nI l)) (59 + 8 * sc + 1) (nI f)) N) := fun N hN => m_pu1 (dg := 2) (lo := 1) (hi := 20) hN hr2 (by omega) (by decide) (by decide) (by decide) (by decide) q1n hF
      obtain ⟨-, f9⟩ := rd_b hr2 (by decide)
      rcases hr3 : rdN n tx 1 9 1 0 q2 with ⟨ok3, t, q3⟩
      have q3n := rd_f hr3 q2n
      cases ok3 with
      | false =>
        have e3 : f_X7_readNumber F p 1 1 9 (tS p q2 1 M) = some (nI t, tS p q3 0 M) := c_nu0 (dg := 1) (lo := 1) (hi := 9) hT hr3 (by omega) (by decide) (by decide) q2n hF
        obtain ⟨M', t1, t2⟩ := tail q3 (nI l) (nI f) (nI t) 0
        refine ⟨q3, q3n, Or.inl ⟨M', ?_, t2, fun N hN => ⟨pU (pU P (59 + 8 * sc) (nI l)) (59 + 8 * sc + 1) (nI f), ?_⟩⟩⟩
        · simp only [e1, e2, e3, cal_s, z2, z1]; exact t1
        · have m3 : f_X11_put F b (nI (59 + 8 * sc + 2)) 1 1 9 (sP b q2 (pU (pU P (59 + 8 * sc) (nI l)) (59 + 8 * sc + 1) (nI f)) N) = some (0, sP b q3 (pU (pU P (59 + 8 * sc) (nI l)) (59 + 8 * sc + 1) (nI f)) N) := m_pu0 (dg := 1) (lo := 1) (hi := 9) hN hr3 (by omega) (by omega) (by decide) (by decide) (by decide) q2n hF
          simp (disch := omega) only [sP_p, h5, m_shipAt, cal_s, m1 N hN, d10, if_false, ad1, ad2, m2 N hN, m3, ↓reduceIte]
      | true =>
        have e3 : f_X7_readNumber F p 1 1 9 (tS p q2 1 M) = some (nI t, tS p q3 1 M) := c_nu1 (dg := 1) (lo := 1) (hi := 9) hT hr3 (by omega) (by decide) (by decide) q2n hF
        have m3 : ∀ N, TR N b n tx → f_X11_put F b (nI (59 + 8 * sc + 2)) 1 1 9 (sP b q2 (pU (pU P (59 + 8 * sc) (nI l)) (59 + 8 * sc + 1) (nI f)) N) = some (1, sP b q3 (pU (pU (pU P (59 + 8 * sc) (nI l)) (59 + 8 * sc + 1) (nI f)) (59 + 8 * sc + 2) (nI t)) N) := fun N hN => m_pu1 (dg := 1) (lo := 1) (hi := 9) hN hr3 (by omega) (by omega) (by decide) (by decide) (by decide) q2n hF
        rcases hr4 : rdN n tx 1 99 2 0 q3 with ⟨ok4, s, q4⟩
        have q4n := rd_f hr4 q3n
        cases ok4 with
        | false =>
          have e4 : f_X7_readNumber F p 2 1 99 (tS p q3 1 M) = some (nI s, tS p q4 0 M) := c_nu0 (dg := 2) (lo := 1) (hi := 99) hT hr4 (by decide) (by decide) (by decide) q3n hF
          obtain ⟨M', t1, t2⟩ := tail q4 (nI l) (nI f) (nI t) (nI s)
          refine ⟨q4, q4n, Or.inl ⟨M', ?_, t2, fun N hN => ⟨pU (pU (pU P (59 + 8 * sc) (nI l)) (59 + 8 * sc + 1) (nI f)) (59 + 8 * sc + 2) (nI t), ?_⟩⟩⟩
          · simp only [e1, e2, e3, e4, cal_s, z2, z1]; exact t1
          · have m4 : f_X11_put F b (nI (59 + 8 * sc + 3)) 2 1 99 (sP b q3 (pU (pU (pU P (59 + 8 * sc) (nI l)) (59 + 8 * sc + 1) (nI f)) (59 + 8 * sc + 2) (nI t)) N) = some (0, sP b q4 (pU (pU (pU P (59 + 8 * sc) (nI l)) (59 + 8 * sc + 1) (nI f)) (59 + 8 * sc + 2) (nI t)) N) := m_pu0 (dg := 2) (lo := 1) (hi := 99) hN hr4 (by omega) (by decide) (by decide) (by decide) (by decide) q3n hF
            simp (disch := omega) only [sP_p, h5, m_shipAt, cal_s, m1 N hN, d10, if_false, ad1, ad2, ad3, m2 N hN, m3 N hN, m4, ↓reduceIte]
        | true =>
          have e4 : f_X7_readNumber F p 2 1 99 (tS p q3 1 M) = some (nI s, tS p q4 1 M) := c_nu1 (dg := 2) (lo := 1) (hi := 99) hT hr4 (by decide) (by decide) (by decide) q3n hF
          have hRt : RC (tS p q4 1 M) a (pU P 16 (P 2)) := RC_fr hR (fun q y1 y2 => tS_q (by omega))
          obtain ⟨N1, b1, b2, b3⟩ := c_addS (F := F) (v0 := nI l) (v1 := nI f) (v2 := nI t) (v3 := nI s) hRt (by rw [pU_n (by omega)]; exact h5) hsc (fun k k4 k8 => by rw [pU_n (by omega)]; exact h8 k k4 k8)
          refine ⟨q4, q4n, Or.inr ⟨N1, l, f, t, s, ⟨l9, f9⟩, ?_, frT_t frT_s (frT_f (by omega) b2), ?_, fun N hN => ?_⟩⟩
          · simp only [e1, e2, e3, e4, cal_s, b1]; rw [tS_f (by omega) b2]
          · unfold RCv; rw [v_h]; exact b3
          · have m4 : f_X11_put F b (nI (59 + 8 * sc + 3)) 2 1 99 (sP b q3 (pU (pU (pU P (59 + 8 * sc) (nI l)) (59 + 8 * sc + 1) (nI f)) (59 + 8 * sc + 2) (nI t)) N) = some (1, sP b q4 (pU (pU (pU (pU P (59 + 8 * sc) (nI l)) (59 + 8 * sc + 1) (nI f)) (59 + 8 * sc + 2) (nI t)) (59 + 8 * sc + 3) (nI s)) N) := m_pu1 (dg := 2) (lo := 1) (hi := 99) hN hr4 (by omega) (by decide) (by decide) (by decide) (by decide) q3n hF
            have v4 : pU (pU (pU (pU P (59 + 8 * sc) (nI l)) (59 + 8 * sc + 1) (nI f)) (59 + 8 * sc + 2) (nI t)) (59 + 8 * sc + 3) (nI s) 5 = nI sc := by
              rw [pU_n (by omega), pU_n (by omega), pU_n (by omega), pU_n (by omega)]; exact h5
            simp (disch := omega) only [sP_p, h5, m_shipAt, cal_s, m1 N hN, d10, if_false, ad1, ad2, ad3, m2 N hN, m3 N hN, m4, v4, bnd_e, sP_wp]
            rfl
end
