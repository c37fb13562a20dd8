section
variable {F x K : Nat} {M : zMi} {A B : Pg} {R : Rs} {s z f : Nat} {a w d v4 v7 : Int32}
theorem nI_sb {a b : Nat} (h : b ≤ a) : nI a - nI b = nI (a - b) := by
  obtain ⟨c, rfl⟩ : ∃ c, a = b + c := ⟨a - b, by omega⟩
  rw [← nI_add, show b + c - b = c from by omega]
  grind
/-- what the law's numbers are -/
def Hc (A : Pg) (d v4 v7 w : Int32) (f s z : Nat) : Prop := d = A 3 ∧ v4 = A 4 ∧ v7 = A 7 ∧ A 5 = nI f ∧ f ≤ 4 ∧ s < f ∧ w = A (59 + 8 * s + 5) ∧ z < 9 ∧ nI z < A 4
theorem l_h918' {v : Int32} (h : Oh K M x A R) (hc : Hc A d v4 v7 w f s z) (hF : 1573 < F) (hK : K + 99 < 1000000) (hx : exP A z v) : Go (f_L_hands_918 F x a d v4 (nI s) (nI z) v7 w v 1 M) M x K A (rClr R) 1 := by
  obtain ⟨c1, c2, c3, c4, c5, c6, c7, c8, c9⟩ := hc
  exact l_h918 h hF hK c1 c2 c3 c4 c5 c6 c7 c8 c9 hx
theorem l_h871 {v b : Int32} (h : Oh K M x A R) (hc : Hc A d v4 v7 w f s z) (hF : 1573 < F) (hK : K + 99 < 1000000) (hx : exP A z v) : Go (f_L_hands_871 F x a d v4 (nI s) (nI z) v7 w (dUn (nI z) 400 0 A) v b b M) M x K A (rClr R) 1 := by
  have nx := l_h918' (F := F) (a := a) (M := M) h hc hF hK hx
  unfold f_L_hands_871
  refine Go_if rfl ?_
  rcases dUn_sp (q := nI z) (j := 400) (m := 0) (A := A) (by omega) with ⟨e, -⟩ | ⟨k, k4, e, k1, k2⟩
  · rw [e]
    exact Go_if (by decide) nx
  · rw [e, Nat.zero_add]
    by_cases c : k = 0
    · rw [c]; exact Go_if (by decide) nx
    · refine Go_ifn (nI_nlt (b := 1) (by omega) (by omega)) ?_
      by_cases c2 : 99 < k
      · exact Go_if (show (99 : Int32) < nI k from nI_lt (a := 99) c2 (by omega)) nx
      · refine Go_ifn (show ¬ (99 : Int32) < nI k from nI_nlt (a := 99) (by omega) (by omega)) ?_
        have e1 : ∀ j, aAh A j 1 = dDays j A 7 := fun j => by unfold aAh; rw [if_neg (by decide), if_pos rfl]
        refine Go_bind (t_ahY (d := k) h.1 (by omega) hK (by omega) (by decide)) (fun _ h1 => Go_if (by rw [e1]; exact k1) ?_)
        obtain ⟨k', rfl⟩ : ∃ m, k = m + 1 := ⟨k - 1, by omega⟩
        rw [nI_pred]
        refine Go_bind (t_ahY (d := k') h1 (by omega) hK (by omega) (by decide)) (fun _ h2 => Go_ifn (by rw [e1]; exact k2 k' (by omega)) ?_)
        exact l_h918' ⟨h2, h.2⟩ hc hF hK hx
theorem ex_0 {v : Int32} (hx : exP A z v) : v = 0 ↔ dUn (nI z) 400 0 A ≠ -9 := by
  obtain ⟨e, D, ds, e9, e2, hD, hv, hn⟩ := hx
  have q := hn 0 (Nat.zero_le _)
  rw [show nI 0 = (0 : Int32) from rfl, dExt_0] at q
  constructor
  · intro y z9
    have := q.mp z9
    rw [y] at hv
    by_cases k : ds ≤ D
    · rw [if_pos k] at hv; exact nI_ne0 this (by omega) hv.symm
    · rw [if_neg k] at hv; exact absurd hv (by decide)
  · intro y
    have : ds = 0 := by
      by_cases k : ds = 0
      · exact k
      · exact absurd (q.mpr (by omega)) y
    rw [hv, this, if_pos (Nat.zero_le _)]; rfl
theorem l_h834 {v b : Int32} (h : Oh K M x A R) (hc : Hc A d v4 v7 w f s z) (hF : 1573 < F) (hK : K + 99 < 1000000) (hx : exP A z v) (hb : b = if dUn (nI z) 400 0 A = 0 then 1 else 0) : Go (f_L_hands_834 F x a d v4 (nI s) (nI z) v7 w (dUn (nI z) 400 0 A) v b M) M x K A (rClr R) 1 := by
  have t859 : ∀ b : Int32, b = (if v = 0 then 1 else 0) → Go (f_L_hands_859 F x a d v4 (nI s) (nI z) v7 w (dUn (nI z) 400 0 A) v b M) M x K A (rClr R) 1 := fun b hb => by
    have q := ex_0 hx
    unfold f_L_hands_859
    by_cases c : dUn (nI z) 400 0 A = -9
    · rw [hb, if_neg (fun y => (q.mp y) c)]
      exact Go_if c (l_h871 h hc hF hK hx)
    · rw [hb, if_pos (q.mpr c)]
      exact Go_ifn c (l_h871 h hc hF hK hx)
  have t846 : ∀ b : Int32, Go (f_L_hands_846 F x a d v4 (nI s) (nI z) v7 w (dUn (nI z) 400 0 A) v b b M) M x K A (rClr R) 1 := fun b => by
    unfold f_L_hands_846
    refine Go_if rfl ?_
    by_cases c : v = 0
    · exact Go_if c (t859 1 (by rw [if_pos c]))
    · exact Go_ifn c (t859 0 (by rw [if_neg c]))
  have e : dUn (nI z) 400 0 A = 0 ↔ nI z < A 7 := by
    rcases dUn_sp (q := nI z) (j := 400) (m := 0) (A := A) (by omega) with ⟨e, e2⟩ | ⟨k, k4, e, k1, k2⟩
    · rw [e]
      exact ⟨fun y => absurd y (by decide), fun y => absurd y (e2 0 (by omega))⟩
    · rw [e, Nat.zero_add]
      by_cases c : k = 0
      · subst c; exact ⟨fun _ => k1, fun _ => rfl⟩
      · exact ⟨fun y => absurd y (nI_ne0 (by omega) (by omega)), fun y => absurd y (k2 0 (by omega))⟩
  unfold f_L_hands_834
  rw [hc.2.2.1]
  by_cases c : nI z < A 7
  · rw [hb, if_pos (e.mpr c), ← hc.2.2.1]
    rw [hc.2.2.1]
    refine Go_if c ?_
    rw [← hc.2.2.1]
    exact t846 1
  · rw [hb, if_neg (fun y => c (e.mp y))]
    refine Go_ifn c ?_
    rw [← hc.2.2.1]
    exact t846 0
theorem l_h801 (h : Oh K M x A R) (hc : Hc A d v4 v7 w f s z) (hF : 1573 < F) (hK : K + 99 < 1000000) : Go (f_L_hands_801 F x a d v4 (nI s) (nI z) v7 w 1 M) M x K A (rClr R) 1 := by
  obtain ⟨c1, c2, c3, c4, c5, c6, c7, c8, c9⟩ := hc
  have hA := h.1.2.2.1.1
  unfold f_L_hands_801
  refine Go_bind (t_daY h.1 hF (by omega) (zIn hA c8 c9)) (fun _ h1 => ?_)
  obtain ⟨v, g, hx⟩ := t_exY (F := F) h1 hF (by omega) c8 c9
  refine Go_bind g (fun _ h2 => Go_ifn (by decide) ?_)
  have hc' : Hc A d v4 v7 w f s z := ⟨c1, c2, c3, c4, c5, c6, c7, c8, c9⟩
  by_cases k : dUn (nI z) 400 0 A = 0
  · exact Go_if k (l_h834 ⟨h2, h.2⟩ hc' hF hK hx (by rw [if_pos k]))
  · exact Go_ifn k (l_h834 ⟨h2, h.2⟩ hc' hF hK hx (by rw [if_neg k]))
theorem l_h761 {e b n : Nat} (h : Oh K M x A R) (hc : Hc A d v4 v7 w f s z) (hF : 1573 < F) (hK : K + 99 < 1000000) (he : e ≤ 999) (hb : b < 1000000000) (hn : n ≤ e + 1 - b) : Go (f_L_hands_761 F x a d v4 (nI s) (nI z) v7 w 1 (nI e) (nI n) (nI b) M) M x K A (rClr R) 1 := by
  have nx := l_h801 (F := F) (a := a) (M := M) h hc hF hK
  unfold f_L_hands_761
  refine Go_ifn (by decide) (Go_ifn (nI_nlt (b := 0) (by omega) (by omega)) ?_)
  by_cases c : e < b
  · refine Go_if (nI_lt c (by omega)) ?_
    rw [show n = 0 by omega]
    unfold f_L_hands_793
    exact Go_ifn (by decide) nx
  · refine Go_ifn (nI_nlt (by omega) (by omega)) ?_
    rw [nI_sb (by omega), ad1]
    unfold f_L_hands_793
    exact Go_ifn (nI_nlt (by omega) (by omega)) nx
theorem l_h727 {v : Int32} (h : Oh K M x A R) (hc : Hc A d v4 v7 w f s z) (hF : 1573 < F) (hK : K + 99 < 1000000) (hv : v = A (23 + 4 * z + 2)) : Go (f_L_hands_727 F x a d v4 (nI s) (nI z) v7 w v 1 M) M x K A (rClr R) 1 := by
  have hc' := hc
  obtain ⟨c1, c2, c3, c4, c5, c6, c7, c8, c9⟩ := hc'
  obtain ⟨r, r1, e, b, n, e9, b9, q1, q2, q3, q4⟩ := t_cd (F := F) (s := s) (z := z) h.1 hF (by omega) (by omega) (by rw [c4]; exact nI_lt c6 (by omega)) c8 c9
  obtain ⟨⟨-, z1, -, -⟩, -⟩ := t_z5 (F := F) h.1 c8 c9
  have nx := l_h761 (F := F) (a := a) (M := M) h hc hF hK e9 b9 q4
  rw [hv, q1]
  unfold f_L_hands_727
  refine Go_rd r1 (Go_rd z1 ?_)
  rw [q3]
  by_cases c : A 3 < A (23 + 4 * z + 1)
  · rw [if_pos c] at q2
    refine Go_if (by rw [c1]; exact c) (Go_rd z1 ?_)
    rw [q2]; exact nx
  · rw [if_neg c] at q2
    refine Go_ifn (by rw [c1]; exact c) ?_
    have : d = nI b := by rw [c1]; exact q2
    rw [this] at nx ⊢
    exact nx
theorem t_nd' {l u : Nat} (h : Ob K M x A R) (hz : z < 9) (hz4 : nI z < A 4) (hl : A (23 + 4 * z + 3) = nI l) (hu : u ≤ 99) (hl9 : l ≤ 9) : f_L_tryNeeds F x (nI z) (nI u) M = some (nI (u + (u * l + 99) / 100)) := by
  have m : u * l ≤ 99 * 9 := Nat.mul_le_mul hu hl9
  rw [t_nd h]
  unfold aNd dNeed
  rw [if_pos (zIn h.2.2.1.1 hz hz4), if_pos ⟨nI_pos' (by omega), nI_le (b := 99) hu (by decide)⟩, ixN (by omega), hl, nI_mul, show nI (u * l) + (99 : Int32) = nI (u * l + 99) from nI_add _ 99, show nI (u * l + 99) / (100 : Int32) = nI ((u * l + 99) / 100) from div_N (by omega) (by decide) (by decide) rfl, nI_add]
theorem t_rc' {l L ab : Nat} (h : Ob K M x A R) (hs : s < 4) (hp : nI s < A 5) (hz : z < 9) (hz4 : nI z < A 4) (hl : A (23 + 4 * z + 3) = nI l) (hL : A (23 + 4 * z) = nI L) (ha : A (59 + 8 * s + 4) = nI ab) (l9 : l ≤ 9) (L9 : L ≤ 99) (a9 : ab ≤ 999) : f_L_tryReach F x (nI s) (nI z) M = some (nI (min L (100 * ab / (100 + l)))) := by
  rw [t_rc h]
  unfold aRc dMost
  rw [if_pos (sIn h.2.2.1.1 hs hp), if_pos (zIn h.2.2.1.1 hz hz4), ixN (by omega), ixN (by omega), hl, hL, ha, show (100 : Int32) * nI ab = nI (100 * ab) from nI_mul 100 ab, show (100 : Int32) + nI l = nI (100 + l) from nI_add 100 l, div_N (d := 100 + l) (by omega) (by omega) (by omega) rfl, zminN (by omega) (by have := Nat.div_le_self (100 * ab) (100 + l); omega)]
theorem l_h574 {v : Int32} {m : Nat} (h : Oh K M x A R) (hc : Hc A d v4 v7 w f s z) (hF : 1573 < F) (hK : K + 99 < 1000000) (hv : v = A (23 + 4 * z + 2)) (m1 : 1 ≤ m) (m9 : m ≤ 99) : Go (f_L_hands_574 F x a d v4 (nI s) (nI z) v7 w (nI m) v 1 M) M x K A (rClr R) 1 := by
  have nx := l_h727 (F := F) (a := a) (M := M) h hc hF hK hv
  obtain ⟨c1, c2, c3, c4, c5, c6, c7, c8, c9⟩ := hc
  have hA := h.1.2.2.1.1
  have hp : nI s < A 5 := by rw [c4]; exact nI_lt c6 (by omega)
  obtain ⟨w0, w1, w2, w3⟩ := hA.2.2.2.2.2.2.1 z c8 c9
  obtain ⟨u0, u1, u2, u3⟩ := hA.2.2.2.2.2.2.2 s (by omega)
  obtain ⟨l, l9, hl⟩ := exN (n := 9) w3.1 w3.2 (by decide)
  obtain ⟨L, L9, hL⟩ := exN (n := 99) (x := A (23 + 4 * z)) (by grind) w0.2 (by decide)
  obtain ⟨ab, a9, ha⟩ := exN (n := 999) (x := A (59 + 8 * s + 4)) u2.1 (by show _ ≤ (999 : Int32); grind) (by decide)
  obtain ⟨⟨z0, -, -, z3⟩, -⟩ := t_z5 (F := F) h.1 c8 c9
  obtain ⟨-, s4, -⟩ := t_s5 (F := F) h.1 (by omega) hp
  rw [hL] at z0
  rw [hl] at z3
  rw [ha] at s4
  have nd := fun u (hu : u ≤ 99) => t_nd' (F := F) (u := u) h.1 c8 c9 hl hu l9
  have rc := t_rc' (F := F) h.1 (by omega) hp c8 c9 hl hL ha l9 L9 a9
  have dm : 100 * ab / (100 + l) * (100 + l) ≤ 100 * ab := Nat.div_mul_le_self _ _
  have dl : 100 * ab < (100 * ab / (100 + l) + 1) * (100 + l) := by
    have := Nat.lt_div_mul_add (a := 100 * ab) (b := 100 + l) (by omega)
    rw [Nat.add_mul, Nat.one_mul]; exact this
  generalize hq : 100 * ab / (100 + l) = q at *
  have ml : m * l ≤ 99 * 9 := Nat.mul_le_mul m9 l9
  have t715 : Go (f_L_hands_715 F x a d v4 (nI s) (nI z) v7 w v (nI (min L q)) (nI L) M) M x K A (rClr R) 1 := by
    unfold f_L_hands_715
    exact Go_ifn (nI_nlt (by omega) (by omega)) nx
  unfold f_L_hands_574
  refine Go_rd (nd m m9) (Go_rd rc (Go_rd s4 (Go_rd z0 (Go_ifn (by decide) ?_))))
  refine Go_rd (v := 0) (by have := nd 0 (by decide); rw [Nat.zero_mul] at this; exact this) (Go_if rfl (Go_ifn (nI_nlt (by omega) (by omega)) (Go_rd z3 ?_)))
  rw [nI_sb (by omega), show m + (m * l + 99) / 100 - m = (m * l + 99) / 100 from by omega, nI_mul, show (100 : Int32) * nI ((m * l + 99) / 100) = nI (100 * ((m * l + 99) / 100)) from nI_mul 100 _]
  refine Go_ifn (nI_nlt (by omega) (by omega)) (Go_rd z3 ?_)
  have k3 : (100 : Int32) * (nI ((m * l + 99) / 100) - 1) < nI m * nI l := by
    rw [nI_mul]
    by_cases c0 : m * l = 0
    · rw [c0]; decide
    · have : (m * l + 99) / 100 = (m * l - 1) / 100 + 1 := by omega
      rw [this, nI_pred, show (100 : Int32) * nI ((m * l - 1) / 100) = nI (100 * ((m * l - 1) / 100)) from nI_mul 100 _]
      exact nI_lt (by omega) (by omega)
  refine Go_if k3 ?_
  by_cases cq : L ≤ q
  · rw [Nat.min_eq_left cq] at t715 ⊢
    have h2 : L * (100 + l) ≤ q * (100 + l) := Nat.mul_le_mul_right _ cq
    rw [Nat.mul_add] at h2
    refine Go_rd (nd L L9) (Go_ifn (nI_nlt ?_ ?_) (Go_if rfl t715))
    · omega
    · omega
  · have cq' : q ≤ L := by omega
    rw [Nat.min_eq_right cq'] at t715 ⊢
    rw [Nat.mul_add] at dm dl
    have ql : q * l ≤ 99 * 9 := Nat.mul_le_mul (by omega) l9
    have q1 : (q + 1) * l ≤ 99 * 9 := Nat.mul_le_mul (by omega) l9
    refine Go_rd (nd q (by omega)) (Go_ifn (nI_nlt ?_ ?_) (Go_ifn ?_ ?_))
    · omega
    · omega
    · intro y
      have := (nI_eq (a := q) (b := L) (by omega) (by omega)).mp y
      omega
    · rw [ad1]
      refine Go_rd (nd (q + 1) (by omega)) (Go_if (nI_lt ?_ ?_) t715)
      · omega
      · omega
end
