section
variable {F x K p a n i : Nat} {M M' : zMi} {A P : Pg} {tx D : Nat → Nat}
-- ---- what is told
def nZ (D : Nat → Nat) : Nat := 1 + D 0 % 4
def nSh (D : Nat → Nat) : Nat := 1 + D 0 / 4 % 4
def nWd (D : Nat → Nat) : Nat := 1 + D 0 / 16 % 9
def nDp (D : Nat → Nat) : Nat := D 0 / 256 % 1000
def nT (D : Nat → Nat) : Nat := 1 + D 0 / 524288 % 3
def nSp (D : Nat → Nat) : Nat := 1 + D 0 / 2097152 % 3
def zF (D : Nat → Nat) (j : Nat) : Nat := D (1 + j) / 64 % 20
def zT (D : Nat → Nat) (j : Nat) : Nat := zF D j + D (1 + j) / 2048 % (100 - zF D j)
def zL (D : Nat → Nat) (j : Nat) : Nat := 1 + D (1 + j) % 40
def zS (D : Nat → Nat) (j : Nat) : Nat := D (1 + j) / 1048576 % 10
def kC (D : Nat → Nat) (j : Nat) : Nat := 10 + D (5 + j) % 150
def kV (D : Nat → Nat) (j : Nat) : Nat := 1 + D (5 + j) / 256 % 20
def kW (D : Nat → Nat) (j : Nat) : Nat := 1 + D (5 + j) / 8192 % 9
def kR (D : Nat → Nat) (j : Nat) : Nat := 1 + D (5 + j) / 131072 % 99
def wV (D : Nat → Nat) (d : Nat) : Nat := D 9 / (1 + 5 * d) % (if d % 2 = 0 then 10 else 4)
def hdT (D : Nat → Nat) (k : Nat) : Nat := if k = 0 then 67 else if k = 1 then 48 + nT D else if k = 2 then 48 + nSp D else 48 + nDp D / 10 ^ (6 - k) % 10
def znT (D : Nat → Nat) (j k : Nat) : Nat := if k = 0 then 122 else if k < 3 then 48 + zL D j / 10 ^ (2 - k) % 10 else if k < 5 then 48 + zF D j / 10 ^ (4 - k) % 10 else if k < 7 then 48 + zT D j / 10 ^ (6 - k) % 10 else 48 + zS D j
def shT (D : Nat → Nat) (j k : Nat) : Nat := if k = 0 then 115 else if k < 4 then 48 + kC D j / 10 ^ (3 - k) % 10 else if k < 6 then 48 + kV D j / 10 ^ (5 - k) % 10 else if k = 6 then 48 + kW D j else 48 + kR D j / 10 ^ (8 - k) % 10
def sz0 (D : Nat → Nat) : Nat := 7 + 8 * nZ D
def sz (D : Nat → Nat) : Nat := sz0 D + 9 * nSh D
def TT (D : Nat → Nat) (k : Nat) : Nat := if k < 7 then hdT D k else if k < sz0 D then znT D ((k - 7) / 8) ((k - 7) % 8) else if k < sz D then shT D ((k - sz0 D) / 9) ((k - sz0 D) % 9) else if k = sz D then 119 else if k ≤ sz D + nWd D then 48 + wV D (k - sz D - 1) else 119
theorem TT_h {k : Nat} (h : k < 7) : TT D k = hdT D k := by unfold TT; rw [if_pos h]
theorem TT_z {j k : Nat} (hj : j < nZ D) (hk : k < 8) : TT D (7 + 8 * j + k) = znT D j k := by
  unfold TT sz0
  rw [if_neg (by omega), if_pos (by omega), show (7 + 8 * j + k - 7) / 8 = j by omega, show (7 + 8 * j + k - 7) % 8 = k by omega]
theorem TT_s {j k : Nat} (hj : j < nSh D) (hk : k < 9) : TT D (sz0 D + 9 * j + k) = shT D j k := by
  have e : (sz0 D + 9 * j + k - sz0 D) / 9 = j := by omega
  have e2 : (sz0 D + 9 * j + k - sz0 D) % 9 = k := by omega
  have c1 : ¬ sz0 D + 9 * j + k < 7 := by unfold sz0; omega
  unfold TT sz
  rw [if_neg c1, if_neg (by omega), if_pos (by omega), e, e2]
theorem TT_w : TT D (sz D) = 119 := by
  have c1 : ¬ sz D < 7 := by unfold sz sz0; omega
  have c2 : ¬ sz D < sz0 D := by unfold sz; omega
  unfold TT
  rw [if_neg c1, if_neg c2, if_neg (by omega), if_pos rfl]
theorem TT_v {d : Nat} (hd : d < nWd D) : TT D (sz D + 1 + d) = 48 + wV D d := by
  have c1 : ¬ sz D + 1 + d < 7 := by unfold sz sz0; omega
  have c2 : ¬ sz D + 1 + d < sz0 D := by unfold sz; omega
  unfold TT
  rw [if_neg c1, if_neg c2, if_neg (by omega), if_neg (by omega), if_pos (by omega), show sz D + 1 + d - sz D - 1 = d by omega]
theorem TT_e : TT D (sz D + 1 + nWd D) = 119 := by
  have c1 : ¬ sz D + 1 + nWd D < 7 := by unfold sz sz0; omega
  have c2 : ¬ sz D + 1 + nWd D < sz0 D := by unfold sz; omega
  unfold TT
  rw [if_neg c1, if_neg c2, if_neg (by omega), if_neg (by omega), if_neg (by omega)]
theorem nb_Z : 1 ≤ nZ D ∧ nZ D ≤ 4 := by unfold nZ; have := Nat.mod_lt (D 0) (show 4 > 0 by decide); omega
theorem nb_S : 1 ≤ nSh D ∧ nSh D ≤ 4 := by unfold nSh; have := Nat.mod_lt (D 0 / 4) (show 4 > 0 by decide); omega
theorem nb_W : 1 ≤ nWd D ∧ nWd D ≤ 9 := by unfold nWd; have := Nat.mod_lt (D 0 / 16) (show 9 > 0 by decide); omega
theorem nb_D : nDp D ≤ 999 := by unfold nDp; have := Nat.mod_lt (D 0 / 256) (show 1000 > 0 by decide); omega
theorem nb_T : 1 ≤ nT D ∧ nT D ≤ 3 := by unfold nT; have := Nat.mod_lt (D 0 / 524288) (show 3 > 0 by decide); omega
theorem nb_P : 1 ≤ nSp D ∧ nSp D ≤ 3 := by unfold nSp; have := Nat.mod_lt (D 0 / 2097152) (show 3 > 0 by decide); omega
theorem zb_F {j : Nat} : zF D j ≤ 19 := by unfold zF; have := Nat.mod_lt (D (1 + j) / 64) (show 20 > 0 by decide); omega
theorem zb_T {j : Nat} : zF D j ≤ zT D j ∧ zT D j ≤ 99 := by
  have f := zb_F (D := D) (j := j)
  unfold zT
  have := Nat.mod_lt (D (1 + j) / 2048) (show 100 - zF D j > 0 by omega)
  omega
theorem zb_L {j : Nat} : 1 ≤ zL D j ∧ zL D j ≤ 40 := by unfold zL; have := Nat.mod_lt (D (1 + j)) (show 40 > 0 by decide); omega
theorem zb_S {j : Nat} : zS D j ≤ 9 := by unfold zS; have := Nat.mod_lt (D (1 + j) / 1048576) (show 10 > 0 by decide); omega
theorem kb_C {j : Nat} : 10 ≤ kC D j ∧ kC D j ≤ 159 := by unfold kC; have := Nat.mod_lt (D (5 + j)) (show 150 > 0 by decide); omega
theorem kb_V {j : Nat} : 1 ≤ kV D j ∧ kV D j ≤ 20 := by unfold kV; have := Nat.mod_lt (D (5 + j) / 256) (show 20 > 0 by decide); omega
theorem kb_W {j : Nat} : 1 ≤ kW D j ∧ kW D j ≤ 9 := by unfold kW; have := Nat.mod_lt (D (5 + j) / 8192) (show 9 > 0 by decide); omega
theorem kb_R {j : Nat} : 1 ≤ kR D j ∧ kR D j ≤ 99 := by unfold kR; have := Nat.mod_lt (D (5 + j) / 131072) (show 99 > 0 by decide); omega
theorem wb_V {d : Nat} : wV D d ≤ 9 := by
  unfold wV
  by_cases c : d % 2 = 0
  · rw [if_pos c]; have := Nat.mod_lt (D 9 / (1 + 5 * d)) (show 10 > 0 by decide); omega
  · rw [if_neg c]; have := Nat.mod_lt (D 9 / (1 + 5 * d)) (show 4 > 0 by decide); omega
theorem sz_b : sz D ≤ 75 := by
  have z := nb_Z (D := D)
  have s := nb_S (D := D)
  unfold sz sz0; omega
-- ---- numbers that stand in a text
theorem rdD {lo hi v d : Nat} : ∀ {i : Nat}, lo ≤ v → v ≤ hi → i + d ≤ n → (∀ j, j < d → tx (i + j) = 48 + v / 10 ^ (d - 1 - j) % 10) → rdN n tx lo hi d (v / 10 ^ d) i = (true, v, i + d) := by
  induction d with
  | zero =>
    intro i _ _ _ _
    rw [Nat.pow_zero, Nat.div_one]
    rfl
  | succ d ih =>
    intro i h1 h2 h3 h4
    have e0 := h4 0 (by omega)
    rw [show d + 1 - 1 - 0 = d by omega, Nat.add_zero] at e0
    have hq : v / 10 ^ (d + 1) * 10 + (tx i - 48) = v / 10 ^ d := by
      rw [e0, Nat.add_sub_cancel_left, Nat.pow_succ, ← Nat.div_div_eq_div_mul]
      omega
    have le := Nat.div_mul_le_self v (10 ^ d)
    have lt := Nat.lt_div_mul_add (a := v) (b := 10 ^ d) (Nat.pow_pos (by decide))
    have m := Nat.mod_lt (v / 10 ^ d) (show 10 > 0 by decide)
    rw [rdN, hq, if_pos ⟨by omega, by omega, by omega, by omega, by omega⟩, ih (i := i + 1) h1 h2 (by omega) (fun j hj => by
      have := h4 (j + 1) (by omega)
      rw [show i + 1 + j = i + (j + 1) by omega, this, show d + 1 - 1 - (j + 1) = d - 1 - j by omega])]
    rw [show i + 1 + d = i + (d + 1) by omega]
theorem rdT {lo hi v d : Nat} (h1 : lo ≤ v) (h2 : v ≤ hi) (hv : v < 10 ^ d) (h3 : i + d ≤ n) (h4 : ∀ j, j < d → tx (i + j) = 48 + v / 10 ^ (d - 1 - j) % 10) : rdN n tx lo hi d 0 i = (true, v, i + d) := by
  have := rdD (n := n) (tx := tx) (d := d) (i := i) h1 h2 h3 h4
  rw [Nat.div_eq_of_lt hv] at this
  exact this
theorem rdE {lo hi d v : Nat} : rdN n tx lo hi (d + 1) v n = (false, v, n) := by
  rw [rdN, if_neg (fun y => absurd y.1 (Nat.lt_irrefl _))]
end
