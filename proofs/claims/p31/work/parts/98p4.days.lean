section
variable {F x K K' : Nat} {M : zMi} {A P : Pg} {R R' R'' : Rs} {p v2 v3 v4 v5 v6 v7 v9 ov : Int32} {k : Int32 → Int32 → Int32 → Int32 → Int32 → Int32 → Int32 → Int32 → zMi → Option (Int32 × zMi)}
theorem z_self {a : Int32} : a - a = 0 := by grind
theorem zp_1 {a : Int32} (h : 1 ≤ a) : 0 ≤ a := by grind
theorem ad_sb {a b : Int32} : a + b - a = b := by grind
theorem l_d374 {S L : Nat} (h : Ob L M x (dDay A) R') (hA : WS K A) (hF : 101 ≤ F) (h5 : A 5 = nI S) (S4 : S ≤ 4) (hov : ov = if A 7 = A 4 then 1 else 0) (nx : Go (k v2 v3 v4 v5 v6 v7 1 (v9 + 1) M) M x K' P R'' 1) : Go (f_L_days_374 F x p k v2 v3 v4 v5 v6 v7 v9 (A 3) (A 7) ov (A 8) (dFi A) (A 10) (A 11) (A 12) (dWav A (A 3)) (cmS A S) (dDay A 17 - A 17) (dDay A 9) 1 M) M x K' P R'' 1 := by
  have hW := hA.1
  obtain ⟨⟨b0, b1, b2, b3⟩, ⟨b4, b5, b6, b7⟩, ⟨b8, b9, b10, b11⟩, b12, b13⟩ := t_b (F := F) h hF
  unfold f_L_days_374
  by_cases c7 : A 7 = A 4
  · rw [if_pos c7] at hov
    obtain ⟨d1, d2⟩ := dDay_over hW c7
    rw [hov, d1, d2, z_self]
    exact Go_ifn (by decide) (Go_ifn (by decide) (Go_if rfl (Go_if rfl nx)))
  · rw [if_neg c7] at hov
    refine Go_if hov ?_
    by_cases cd : dF A = 4
    · have e14 : dFi A = -9 := by unfold dFi; rw [if_pos cd]
      refine Go_if e14 (Go_ifn (by decide) ?_)
      have t : ∀ q : Int32, (dDay A 9 = 6 → dDay A 17 = A 17 ∧ dFi (dDay A) = -9) → Go (f_L_days_440 F x p k v2 v3 v4 v5 v6 v7 v9 (dDay A 17 - A 17) (dDay A 9) q q M) M x K' P R'' 1 := fun q g => by
        unfold f_L_days_440
        refine Go_if rfl ?_
        by_cases c : dDay A 9 = 6
        · obtain ⟨g1, g2⟩ := g c
          rw [g2] at b8
          rw [g1, z_self]
          exact Go_if c (Go_if rfl (Go_rd b8 (Go_if rfl nx)))
        · exact Go_ifn c nx
      rcases cmS_sp (A := A) (i := S) with ⟨e, hn⟩ | ⟨e, t0, t1, t2⟩
      · have hn' : ∀ s, s < 4 → sl A s ≠ 2 := fun s hs => by
          by_cases c : s < S
          · exact hn s c
          · have w := hW.1.2 s hs (by rw [h5]; exact nI_nlt (by omega) (by omega)) 5 (by decide)
            intro y
            have := sl_2.mp y
            rw [w] at this
            rcases this with q | ⟨q, -⟩ <;> exact absurd q (by decide)
        obtain ⟨d1, d2, d3⟩ := dDay_none cd c7 hn'
        refine Go_if d1 ?_
        unfold f_L_days_430
        exact Go_if e (t 1 (fun _ => ⟨d2, d3⟩))
      · have d1 := dDay_come cd c7 ⟨t0, by omega, t2⟩
        refine Go_ifn d1 ?_
        unfold f_L_days_430
        exact Go_ifn (by rw [e]; decide) (t 0 (fun y => absurd y d1))
    · have hs : dF A < 4 := by have := dF_le A; omega
      have e14 : dFi A = nI (dF A) := by unfold dFi; rw [if_neg cd]
      refine Go_ifn (by rw [e14]; exact n9 (by omega)) ?_
      by_cases c2 : A 10 = 2
      · obtain ⟨d1, d2, d3, d4⟩ := dDay_sp2 cd c2
        rw [d2, z_self]
        rw [d3] at b11
        rw [d4] at b12
        refine Go_if c2 (Go_ifn (by decide) (Go_if d1 (Go_if rfl (Go_rd b11 (Go_if rfl (Go_rd b12 ?_))))))
        by_cases c1 : A 11 = 1
        · refine Go_if c1 ?_
          unfold f_L_days_529
          exact Go_if (by rw [if_pos c1]) nx
        · refine Go_ifn c1 ?_
          unfold f_L_days_529
          exact Go_if (by rw [if_neg c1]) nx
      · refine Go_ifn c2 ?_
        by_cases c1 : A 10 = 1
        · obtain ⟨d1, d2⟩ := dDay_sp1 cd c1
          rw [d1, z_self]
          refine Go_if c1 (Go_ifn (by decide) (Go_if rfl ?_))
          rcases d2 with ⟨g1, g2⟩ | ⟨g1, g2, g3⟩
          · rw [g2] at b10
            refine Go_if g1 ?_
            unfold f_L_days_576 f_L_days_592
            exact Go_if g1 (Go_rd b10 (Go_if rfl (Go_ifn (by rw [g1]; decide) nx)))
          · refine Go_ifn (by rw [g1]; decide) (Go_if g1 (Go_ifn g2 ?_))
            unfold f_L_days_576 f_L_days_592
            refine Go_ifn (by rw [g1]; decide) (Go_if g1 ?_)
            rw [dDay_s (k := 1) (by decide) (by decide) (by decide) (by decide) (by decide) (by decide) (by decide) (by decide) (by decide) (by decide) (by decide) (by decide) (by decide)] at b3
            refine Go_rd b3 ?_
            rcases g3 with ⟨k1, k2, k3⟩ | ⟨k1, k2⟩
            · rw [k2] at b12
              rw [k3] at b10
              exact Go_if k1 (Go_rd b12 (Go_if rfl (Go_rd b10 (Go_if rfl nx))))
            · rw [k2] at b11
              exact Go_ifn k1 (Go_rd b11 (Go_rd b3 (Go_if rfl nx)))
        · refine Go_ifn c1 ?_
          have c0 : A 10 = 0 := by
            have q := hW.2.2.1.2.2.2.2.2.2.2.1
            grind
          obtain ⟨z, l, c, v, e, z9, l9, c9, v9', e9, e0, w7, wz, w3, wc, wv, we, d1, d2, d3, d4⟩ := dDay_sp0 hW cd c0
          have z4 : z < 4 := by
            have := hA.2.1
            have y : nI z < nI 4 := by
              show nI z < 4
              grind
            exact (nI_ltI (by omega) (by decide)).mp y
          have hz4 : nI z < dDay A 4 := by
            rw [dDay_s (by decide) (by decide) (by decide) (by decide) (by decide) (by decide) (by decide) (by decide) (by decide) (by decide) (by decide) (by decide) (by decide)]; exact wz
          have hs5 : nI (dF A) < A 5 := by
            by_cases y : nI (dF A) < A 5
            · exact y
            · have q := hW.1.2 (dF A) hs y 5 (by decide)
              rw [dF_at cd] at q
              exact absurd q (by decide)
          have hs5' : nI (dF A) < dDay A 5 := by
            rw [dDay_s (by decide) (by decide) (by decide) (by decide) (by decide) (by decide) (by decide) (by decide) (by decide) (by decide) (by decide) (by decide) (by decide)]; exact hs5
          obtain ⟨⟨z0, z1, z2, -⟩, -⟩ := t_z5 (F := F) h z9 hz4
          rw [dDay_zn (by omega) (by omega)] at z0 z1 z2
          obtain ⟨⟨-, s1, s2, -⟩, -, s5, -⟩ := t_s5 (F := F) h hs hs5'
          rw [dDay_sj cd (by decide)] at s1 s2
          have hr := t_rc (F := F) h (nI (dF A)) (nI z)
          have fl := hA.2.2.2.2.2.2.2.2 z z4 wz
          have ub := (h.2.2.1.1.2.2.2.2.2.2.2 (dF A) hs).2.2.1
          have vp : ¬ A (59 + 8 * dF A + 1) < 0 := by rw [wv]; exact nI_nlt (b := 0) (by omega) (by omega)
          have ep : ¬ A (23 + 4 * z) - A 8 < 0 := by rw [we]; exact nI_nlt (b := 0) (by omega) (by omega)
          rw [e14, w7]
          rw [w7] at c7
          refine Go_rd z1 (Go_rd z2 ?_)
          by_cases k1 : A 3 < A (23 + 4 * z + 1)
          · obtain ⟨g1, g2⟩ := d1 k1
            refine Go_if k1 ?_
            rw [g1, g2, z_self]
            refine l_d706 nx s1 s5 z0 hr ⟨fun _ => k1, fun _ => rfl⟩ ⟨fun y => absurd y (by decide), fun y => ?_⟩ ⟨fun y => absurd y (by decide), fun y => absurd k1 y.1⟩ ⟨fun y => absurd y (by decide), fun y => absurd rfl y.1⟩ vp ep (fun y => absurd y (by decide))
            grind
          · by_cases k2 : A (23 + 4 * z + 2) < A 3
            · obtain ⟨g1, g2⟩ := d2 k1 k2
              refine Go_ifn k1 (Go_if k2 ?_)
              rw [g1, g2, z_self]
              exact l_d706 nx s1 s5 z0 hr ⟨fun y => absurd y (by decide), fun y => absurd y k1⟩ ⟨fun _ => k2, fun _ => rfl⟩ ⟨fun y => absurd y (by decide), fun y => absurd k2 y.2.1⟩ ⟨fun y => absurd y (by decide), fun y => absurd rfl y.1⟩ vp ep (fun y => absurd y (by decide))
            · refine Go_ifn k1 (Go_ifn k2 (Go_rd s2 ?_))
              by_cases k3 : A (59 + 8 * dF A + 2) < dWav A (A 3)
              · obtain ⟨g1, g2⟩ := d3 k1 k2 k3
                refine Go_if k3 ?_
                rw [g1, g2, z_self]
                exact l_d706 nx s1 s5 z0 hr ⟨fun y => absurd y (by decide), fun y => absurd y k1⟩ ⟨fun y => absurd y (by decide), fun y => absurd y k2⟩ ⟨fun _ => ⟨k1, k2, rfl⟩, fun _ => rfl⟩ ⟨fun y => absurd y (by decide), fun y => absurd rfl y.1⟩ vp ep (fun y => absurd y (by decide))
              · refine Go_ifn k3 ?_
                obtain ⟨m, m1, m2, m3, m4⟩ := d4 k1 k2 k3
                have e1 : dDay A 17 - A 17 = nI m := by rw [m2]; exact ad_sb
                have mv : m ≤ v := by omega
                have me : m ≤ e := by omega
                rw [e1]
                have g5 : ¬ A (59 + 8 * dF A + 1) < nI m := by rw [wv]; exact nI_nlt mv (by omega)
                have g6 : ¬ A (23 + 4 * z) - A 8 < nI m := by rw [we]; exact nI_nlt me (by omega)
                have v1 : 1 ≤ v := by
                  have := (hA.2.2.1 (dF A) hs hs5).2.1
                  rw [wv] at this
                  exact (nI_leI (a := 1) (by omega) (by omega)).mp this
                by_cases m0 : m = 0
                · obtain ⟨q1, q2, q3⟩ := m3 m0
                  rw [q1]
                  rw [q2] at s5
                  have L1 : A (23 + 4 * z) = dDay A (23 + 4 * z) := (dDay_zn (by omega) (by omega)).symm
                  have wz0 := hW.2.2.2.2.2.2.1 z z9 wz
                  obtain ⟨Ln, L9, hL⟩ := exN (n := 99) (x := A (23 + 4 * z)) (zp_1 wz0.1.1) wz0.1.2 (by decide)
                  have rc := t_rc' (F := F) (l := l) (L := Ln) (ab := c) h hs hs5' z9 hz4 ((dDay_zn (by omega) (by omega)).trans w3) (L1.symm.trans hL) q3 l9 L9 c9
                  rw [show min Ln (100 * c / (100 + l)) = 0 by omega] at rc
                  rw [m0]
                  exact l_d706 nx s1 s5 z0 rc ⟨fun y => absurd y (by decide), fun y => absurd y k1⟩ ⟨fun y => absurd y (by decide), fun y => absurd y k2⟩ ⟨fun y => absurd y (by decide), fun y => absurd y.2.2 (by decide)⟩ ⟨fun y => absurd y (by decide), fun y => absurd y.2 (by decide)⟩ vp ep (fun _ => ⟨by decide, rfl, rfl⟩)
                · have q1 := m4 (by omega)
                  rw [q1]
                  exact l_d706 nx s1 s5 z0 hr ⟨fun y => absurd y (by decide), fun y => absurd y k1⟩ ⟨fun y => absurd y (by decide), fun y => absurd y k2⟩ ⟨fun y => absurd y (by decide), fun y => absurd y.2.2 (by decide)⟩ ⟨fun _ => ⟨by decide, rfl⟩, fun _ => nI_lt (a := 0) (by omega) (by omega)⟩ g5 g6 (fun y => absurd y (by decide))
/-- the pages that a run of days remembers -/
noncomputable def rPs : Nat → Pg → Rs → Rs
  | 0, _, R => R
  | n + 1, A, R => rPs n (dDay A) (rPush A R)
theorem rPs_1 {j : Nat} : ∀ {A : Pg} {R : Rs}, (rPs j A R).1 = R.1 ∧ (rPs j A R).2.2 = R.2.2 := by
  induction j with
  | zero => intro A R; exact ⟨rfl, rfl⟩
  | succ j ih => intro A R; exact ⟨ih.1, ih.2⟩
theorem l_d92 {m : Nat} (hF : 101 ≤ F) {j : Nat} : ∀ {i n K : Nat} {M : zMi} {A : Pg} {R : Rs}, i + j = m → m < 2147483648 → j < n → Ob K M x A R → K + j + 99 ≤ 9999 → v4 = dDays j A 7 → v5 = dDays j A 19 → v6 = dDays j A 20 → v7 = dDays j A 9 → ¬ v3 < 0 → Go (f_L_days_92 F x p n (nI m) v3 v4 v5 v6 v7 1 (nI i) M) M x (K + j) (dDays j A) (rPs j A R) 1 := by
  induction j with
  | zero =>
    intro i n K M A R hi hm hn h hK e4 e5 e6 e7 n3
    obtain ⟨q, rfl⟩ : ∃ q, n = q + 1 := ⟨n - 1, by omega⟩
    have : i = m := by omega
    subst this
    obtain ⟨-, ⟨-, -, b6, -⟩, ⟨-, b9, -, -⟩, -⟩ := t_b (F := F) h hF
    obtain ⟨-, a4, a5, -, -⟩ := t_a (F := F) h hF
    rw [f_L_days_92]
    unfold f_L_days_904
    refine Go_ifn (nI_nlt (Nat.le_refl _) hm) (Go_ifn (by decide) (Go_rd a4 (Go_if e5.symm (Go_rd a5 (Go_if e6.symm (Go_rd b6 (Go_if e4.symm (Go_rd b9 (Go_if e7.symm (Go_ifn n3 ?_))))))))))
    exact Go_id h
  | succ j ih =>
    intro i n K M A R hi hm hn h hK e4 e5 e6 e7 n3
    obtain ⟨q, rfl⟩ : ∃ q, n = q + 1 := ⟨n - 1, by omega⟩
    obtain ⟨S, S0, S4, hS⟩ := wFl_N h.2.2.1.1.1
    have hW := h.2.2.1.1
    obtain ⟨⟨b0, -, -, -⟩, ⟨-, b5, b6, b7⟩, ⟨b8, -, b10, b11⟩, b12, -⟩ := t_b (F := F) h hF
    obtain ⟨⟨-, a1, -, -⟩, a4, -⟩ := t_a (F := F) h hF
    have q3 := hW.2.2.1.2.2.1
    have wv : f_L_tryWaves F x (A 3) M = some (dWav A (A 3)) := by
      rw [t_wv h]
      unfold aWv
      rw [if_pos ⟨q3.1, by
        have := nI_mono (show K ≤ 9999 by omega) (by decide)
        show A 3 ≤ nI 9999
        grind⟩]
    have body : ∀ ov, ov = (if A 7 = A 4 then 1 else 0) → Go (f_L_days_133 F x p (f_L_days_92 F x p q) (nI m) v3 v4 v5 v6 v7 (nI i) (A 3) (A 7) ov M) M x (K + (j + 1)) (dDays (j + 1) A) (rPs (j + 1) A R) 1 := fun ov hov => by
      unfold f_L_days_133
      refine Go_rd b7 (Go_rd b8 (Go_rd b10 (Go_rd b11 (Go_rd b12 (Go_rd a4 (Go_rd wv (Go_rd a1 ?_)))))))
      have e206 := l_d206 (F := F) (x := x) (p := p) (k := f_L_days_92 F x p q) (M := M) (v2 := nI m) (v3 := v3) (v4 := v4) (v5 := v5) (v6 := v6) (v7 := v7) (v9 := nI i) (v10 := A 3) (v11 := A 7) (v12 := ov) (v13 := A 8) (v14 := dFi A) (v15 := A 10) (v16 := A 11) (v17 := A 12) (v18 := A 19) (v19 := dWav A (A 3)) (v20 := A 17) h hF hS S4 (j := S) (i := 0) (n := 6) (by omega) (by omega)
      rw [show f_L_days_206 F x p (f_L_days_92 F x p q) 6 (nI m) v3 v4 v5 v6 v7 (nI i) (A 3) (A 7) ov (A 8) (dFi A) (A 10) (A 11) (A 12) (A 19) (dWav A (A 3)) (A 17) (0 : Int32) (0 : Int32) (0 : Int32) M = f_L_days_206 F x p (f_L_days_92 F x p q) 6 (nI m) v3 v4 v5 v6 v7 (nI i) (A 3) (A 7) ov (A 8) (dFi A) (A 10) (A 11) (A 12) (A 19) (dWav A (A 3)) (A 17) (rtS A 0) (cmS A 0) (nI 0) M from rfl, e206, f_L_days_206]
      have b1 := (t_b (F := F) h hF).1.2.1
      rw [hS] at b1
      refine Go_rd b1 (Go_ifn (nI_nlt (Nat.le_refl _) (by omega)) ?_)
      refine Go_bind (t_passY (d := 1) h hF (by omega) (by decide)) (fun M' h' => ?_)
      have h'' : Ob (K + 1) M' x (dDay A) (rPush A R) := h'
      obtain ⟨-, ⟨-, g5, -, -⟩, ⟨-, g9, -, -⟩, -⟩ := t_b (F := F) h'' hF
      obtain ⟨⟨-, u1, -, -⟩, u4, -⟩ := t_a (F := F) h'' hF
      have snd := l_sound h'' hF
      rw [dDay_3] at g5
      rw [dDay_19 hW hS S0 S4] at u4
      refine Go_rd g9 (Go_rd g5 (Go_if rfl (Go_rd u4 (Go_if rfl (Go_rd u1 (Go_if rfl (Go_rd snd (Go_ifn (by decide) ?_))))))))
      have nx := ih (i := i + 1) (n := q) (K := K + 1) (M := M') (A := dDay A) (R := rPush A R) (by omega) hm (by omega) h'' (by omega) e4 e5 e6 e7 n3
      rw [← ad1, show K + 1 + j = K + (j + 1) by omega] at nx
      exact l_d374 h'' h.2.2.1 hF hS S4 hov nx
    rw [f_L_days_92]
    refine Go_if (nI_lt (by omega) hm) (Go_ifn (by decide) (Go_rd b5 (Go_rd b6 (Go_rd b0 ?_))))
    by_cases c : A 7 = A 4
    · exact Go_if c (body 1 (by rw [if_pos c]))
    · exact Go_ifn c (body 0 (by rw [if_neg c]))
/-- each day held against the one before -/
theorem l_days {a : Nat} (h : Ob K M x A R) (hF : 101 ≤ F) (hK : K + 130 ≤ 9999) (ha : a < 2147483648) : Go (f_L_days F x (nI a) M) M x (K + (1 + a % 25)) (dDays (1 + a % 25) A) (rPs (1 + a % 25) A R) 1 := by
  have hm : a % 25 < 25 := Nat.mod_lt _ (by decide)
  generalize hq : 1 + a % 25 = m
  have ah : ∀ {M : zMi} (g : Ob K M x A R) (d : Nat) (w : Int32), d ≤ 99 → (0 ≤ w ∧ w ≤ 4) → Go (f_L_tryAhead F x (nI d) w M) M x K A R (aAh A d w) := fun g d w hd hw => t_ahY g hF (by omega) hd hw
  have e1 : aAh A m 1 = dDays m A 7 := by unfold aAh; rw [if_neg (by decide), if_pos rfl]
  have e2 : aAh A m 2 + A 19 = dDays m A 19 := by unfold aAh; rw [if_neg (by decide), if_neg (by decide), if_pos rfl]; grind
  have e3 : aAh A m 3 + A 20 = dDays m A 20 := by unfold aAh; rw [if_neg (by decide), if_neg (by decide), if_neg (by decide), if_pos rfl]; grind
  have e4 : ∀ j, aAh A j 4 = dDays j A 9 := fun j => by unfold aAh; rw [if_neg (by decide), if_neg (by decide), if_neg (by decide), if_neg (by decide)]
  have e0 : aAh A 0 0 = 0 := by unfold aAh; rw [if_pos rfl]; exact z_self
  have n3 : ¬ aAh A m 0 < 0 := by unfold aAh; rw [if_pos rfl]; exact WF_17m h.2.2.1.1 (by omega)
  unfold f_L_days
  rw [show nI a - nI a / (25 : Int32) * (25 : Int32) = nI (a % 25) from rem_N ha (by decide) (by decide) rfl, one_N, hq]
  refine Go_bnd (Go_bind (ah h m 0 (by omega) (by decide)) (fun _ h => Go_bind (ah h m 1 (by omega) (by decide)) (fun _ h => Go_bind (ah h m 2 (by omega) (by decide)) (fun _ h => ?_))))
  have a4 := (t_a (F := F) h hF).2.1
  refine Go_rd a4 (Go_bnd (Go_bind (ah h m 3 (by omega) (by decide)) (fun _ h => ?_)))
  have a5 := (t_a (F := F) h hF).2.2.1
  refine Go_rd a5 (Go_bnd (Go_bind (ah h m 4 (by omega) (by decide)) (fun _ h => ?_)))
  refine Go_bind (ah h 0 0 (by decide) (by decide)) (fun _ h => Go_if e0 (Go_bind (ah h 0 4 (by decide) (by decide)) (fun _ h => ?_)))
  have b9 := (t_b (F := F) h hF).2.2.1.2.1
  refine Go_rd b9 (Go_if (e4 0) ?_)
  exact l_d92 (i := 0) (m := m) hF (by omega) (by omega) (by omega) h (by omega) e1 e2 e3 (e4 m) n3
end
