section
def pU (A : Nat → Int32) (i : Nat) (v : Int32) : Nat → Int32 := fun k => if k = i then v else A k
def pR (M : zMi) (r : Nat) (A : Nat → Int32) : zMi := fun q => if q = r then A else M q
theorem pU_s {A : Nat → Int32} {i : Nat} {v : Int32} : pU A i v i = v := by simp [pU]
theorem pU_n {A : Nat → Int32} {i k : Nat} {v : Int32} (h : k ≠ i) : pU A i v k = A k := by simp [pU, h]
theorem pU_c {A : Nat → Int32} {i j : Nat} {v w : Int32} (h : i ≠ j) : pU (pU A i v) j w = pU (pU A j w) i v := by
  funext k; unfold pU; by_cases h1 : k = j <;> by_cases h2 : k = i <;> simp_all
theorem pU_i {A : Nat → Int32} {i : Nat} : pU A i (A i) = A := by funext k; unfold pU; split <;> simp_all
theorem pU_u {A : Nat → Int32} {i : Nat} {v w : Int32} : pU (pU A i v) i w = pU A i w := by funext k; unfold pU; split <;> simp_all
theorem pR_s {M : zMi} {r : Nat} {A : Nat → Int32} : pR M r A r = A := by simp [pR]
theorem pR_n {M : zMi} {r q : Nat} {A : Nat → Int32} (h : q ≠ r) : pR M r A q = M q := by simp [pR, h]
theorem pR_w {M : zMi} {r j : Nat} {A : Nat → Int32} {v : Int32} : wI (pR M r A) r j v = pR M r (pU A j v) := by
  funext q k; unfold wI pR pU; by_cases h1 : q = r <;> by_cases h2 : k = j <;> simp_all
theorem pR_wn {M : zMi} {r q j : Nat} {A : Nat → Int32} {v : Int32} (h : q ≠ r) : wI (pR M r A) q j v = pR (wI M q j v) r A := by
  funext x k; unfold wI pR; by_cases h1 : x = r <;> by_cases h2 : x = q <;> by_cases h3 : k = j <;> simp_all
theorem pR_pR {M : zMi} {r : Nat} {A B : Nat → Int32} : pR (pR M r A) r B = pR M r B := by funext q; unfold pR; split <;> rfl
theorem pR_i {M : zMi} {r : Nat} : pR M r (M r) = M := by funext q; unfold pR; split <;> simp_all
theorem pR_c {M : zMi} {r q : Nat} {A B : Nat → Int32} (h : r ≠ q) : pR (pR M r A) q B = pR (pR M q B) r A := by
  funext x; unfold pR; by_cases h1 : x = r <;> by_cases h2 : x = q <;> simp_all
theorem grd_t {β : Type} {k : Option β} : grd true k = k := rfl
theorem bnd_e {α β : Type} (x : α) (k : α → β) : bnd x k = k x := rfl
theorem cal_s {α β : Type} (x : α) (k : α → Option β) : cal (some x) k = k x := rfl
theorem cal_n {α β : Type} (k : α → Option β) : cal none k = none := rfl
theorem calp_r {V β : Type} (v : V) (ke : Nat → Option β) (k : V → Option β) : calp (some (.inr v)) ke k = k v := rfl
theorem calp_l {V β : Type} (e : Nat) (ke : Nat → Option β) (k : V → Option β) : calp (some (.inl e)) ke k = ke e := rfl
theorem calw_r {V β : Type} (v : V) (M : zMi) (ke : Nat → zMi → Option β) (k : V → zMi → Option β) : calw (some (.inr v, M)) ke k = k v M := rfl
theorem calw_l {V β : Type} (e : Nat) (M : zMi) (ke : Nat → zMi → Option β) (k : V → zMi → Option β) : calw (some (.inl e, M)) ke k = ke e M := rfl
theorem nI_mul (a b : Nat) : nI a * nI b = nI (a * b) := by unfold nI; rw [← Int32.ofNat_mul]
theorem ixN {a : Nat} (h : a < 2147483648) : ix (nI a) = a := nI_clamp h
theorem inbN {a n : Nat} (h : a < n) (hn : n < 2147483648) : inb (nI a) n = true := by
  unfold inb; rw [nI_toInt (by omega)]; simp; omega
theorem shN (s : Nat) : (59 : Int32) + (8 : Int32) * nI s = nI (59 + 8 * s) := by
  rw [show (8 : Int32) = nI 8 from rfl, show (59 : Int32) = nI 59 from rfl, nI_mul, nI_add]
theorem znN (s : Nat) : (23 : Int32) + (4 : Int32) * nI s = nI (23 + 4 * s) := by
  rw [show (4 : Int32) = nI 4 from rfl, show (23 : Int32) = nI 23 from rfl, nI_mul, nI_add]
theorem a13N (s : Nat) : (13 : Int32) + nI s = nI (13 + s) := by rw [show (13 : Int32) = nI 13 from rfl, nI_add]
theorem a91N (s : Nat) : (91 : Int32) + nI s = nI (91 + s) := by rw [show (91 : Int32) = nI 91 from rfl, nI_add]
theorem ad1 (s : Nat) : nI s + (1 : Int32) = nI (s + 1) := by rw [show (1 : Int32) = nI 1 from rfl, nI_add]
theorem ad2 (s : Nat) : nI s + (2 : Int32) = nI (s + 2) := by rw [show (2 : Int32) = nI 2 from rfl, nI_add]
theorem ad3 (s : Nat) : nI s + (3 : Int32) = nI (s + 3) := by rw [show (3 : Int32) = nI 3 from rfl, nI_add]
theorem ad4 (s : Nat) : nI s + (4 : Int32) = nI (s + 4) := by rw [show (4 : Int32) = nI 4 from rfl, nI_add]
theorem ad5 (s : Nat) : nI s + (5 : Int32) = nI (s + 5) := by rw [show (5 : Int32) = nI 5 from rfl, nI_add]
theorem ad6 (s : Nat) : nI s + (6 : Int32) = nI (s + 6) := by rw [show (6 : Int32) = nI 6 from rfl, nI_add]
theorem ad7 (s : Nat) : nI s + (7 : Int32) = nI (s + 7) := by rw [show (7 : Int32) = nI 7 from rfl, nI_add]
end
