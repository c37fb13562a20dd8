def kdo_X9 : Nat → Option (Nat ⊕ (Nat × Nat))
  | 0 => some (.inl 8)
  | _ => none
theorem kf_X9 {kd : zKd} {R : zRf} {a n : Nat} (hkk : ∀ o, o < 1 → kd (a + o) = kdo_X9 o) (hn : a + 1 ≤ n) : K_X9 (zct kd R n) a := zct_k (by omega) (hkk 0 (by decide))
def kdo_X3 : Nat → Option (Nat ⊕ (Nat × Nat))
  | 0 => some (.inl 2)
  | _ => none
theorem kf_X3 {kd : zKd} {R : zRf} {a n : Nat} (hkk : ∀ o, o < 1 → kd (a + o) = kdo_X3 o) (hn : a + 1 ≤ n) : K_X3 (zct kd R n) a := zct_k (by omega) (hkk 0 (by decide))
def kdo_X8 : Nat → Option (Nat ⊕ (Nat × Nat))
  | 0 => some (.inl 7)
  | 1 => some (.inr (0, 30))
  | _ => none
def rr_X8 (R : zRf) (a : Nat) : Prop := R a 1 = some (a + 1)
theorem rr_X8_ext {R R1 : zRf} {a : Nat} (h : ∀ q, a ≤ q → q < a + 2 → R1 q = R q) (hr : rr_X8 R a) : rr_X8 R1 a := by
  unfold rr_X8 at hr ⊢
  rw [h _ (by omega) (by omega)]; exact hr
theorem kf_X8 {kd : zKd} {R : zRf} {a n : Nat} (hkk : ∀ o, o < 2 → kd (a + o) = kdo_X8 o) (hn : a + 2 ≤ n) (hr : rr_X8 R a) : K_X8 (zct kd R n) a := ⟨zct_k (by omega) (hkk 0 (by decide)), hr, zct_k (by omega) (hkk 1 (by decide))⟩
def kdo_X6 : Nat → Option (Nat ⊕ (Nat × Nat))
  | 0 => some (.inl 5)
  | 1 => some (.inr (0, 3))
  | _ => none
def rr_X6 (R : zRf) (a : Nat) : Prop := R a 2 = some (a + 1)
theorem rr_X6_ext {R R1 : zRf} {a : Nat} (h : ∀ q, a ≤ q → q < a + 2 → R1 q = R q) (hr : rr_X6 R a) : rr_X6 R1 a := by
  unfold rr_X6 at hr ⊢
  rw [h _ (by omega) (by omega)]; exact hr
theorem kf_X6 {kd : zKd} {R : zRf} {a n : Nat} (hkk : ∀ o, o < 2 → kd (a + o) = kdo_X6 o) (hn : a + 2 ≤ n) (hr : rr_X6 R a) : K_X6 (zct kd R n) a := ⟨zct_k (by omega) (hkk 0 (by decide)), hr, zct_k (by omega) (hkk 1 (by decide))⟩
def kdo_X1 : Nat → Option (Nat ⊕ (Nat × Nat))
  | 0 => some (.inl 1)
  | _ => none
theorem kf_X1 {kd : zKd} {R : zRf} {a n : Nat} (hkk : ∀ o, o < 1 → kd (a + o) = kdo_X1 o) (hn : a + 1 ≤ n) : K_X1 (zct kd R n) a := zct_k (by omega) (hkk 0 (by decide))
def kdo_X5 : Nat → Option (Nat ⊕ (Nat × Nat))
  | 0 => some (.inl 4)
  | 1 => some (.inr (7, 9))
  | 2 => some (.inr (4, 4))
  | 3 => some (.inl 7)
  | 4 => some (.inr (0, 30))
  | 5 => some (.inl 5)
  | 6 => some (.inr (0, 3))
  | 7 => some (.inl 1)
  | 8 => some (.inl 8)
  | 9 => some (.inl 8)
  | 10 => some (.inl 8)
  | 11 => some (.inl 8)
  | 12 => some (.inl 8)
  | 13 => some (.inl 8)
  | 14 => some (.inl 8)
  | 15 => some (.inl 8)
  | 16 => some (.inl 8)
  | 17 => some (.inl 2)
  | 18 => some (.inl 2)
  | 19 => some (.inl 2)
  | 20 => some (.inl 2)
  | _ => none
def rr_X5 (R : zRf) (a : Nat) : Prop := R a 0 = some (a + 1) ∧ (∀ j, j < 9 → R (a + 1) j = some (a + 1 + 7 + 1 * j)) ∧ R a 1 = some (a + 2) ∧ (∀ j, j < 4 → R (a + 2) j = some (a + 2 + 15 + 1 * j)) ∧ R a 2 = some (a + 3) ∧ rr_X8 R (a + 3) ∧ R a 3 = some (a + 5) ∧ rr_X6 R (a + 5) ∧ R a 4 = some (a + 7)
theorem rr_X5_ext {R R1 : zRf} {a : Nat} (h : ∀ q, a ≤ q → q < a + 21 → R1 q = R q) (hr : rr_X5 R a) : rr_X5 R1 a := ⟨by rw [h _ (by omega) (by omega)]; exact hr.1, fun j hj => by rw [h _ (by omega) (by omega)]; exact hr.2.1 j hj, by rw [h _ (by omega) (by omega)]; exact hr.2.2.1, fun j hj => by rw [h _ (by omega) (by omega)]; exact hr.2.2.2.1 j hj, by rw [h _ (by omega) (by omega)]; exact hr.2.2.2.2.1, rr_X8_ext (fun q h1 h2 => h q (by omega) (by omega)) hr.2.2.2.2.2.1, by rw [h _ (by omega) (by omega)]; exact hr.2.2.2.2.2.2.1, rr_X6_ext (fun q h1 h2 => h q (by omega) (by omega)) hr.2.2.2.2.2.2.2.1, by rw [h _ (by omega) (by omega)]; exact hr.2.2.2.2.2.2.2.2⟩
theorem kj_X5_zones : ∀ j, j < 9 → ∀ o, o < 1 → kdo_X5 (8 + 1 * j + o) = kdo_X9 o := by decide +kernel
theorem kj_X5_ships : ∀ j, j < 4 → ∀ o, o < 1 → kdo_X5 (17 + 1 * j + o) = kdo_X3 o := by decide +kernel
theorem kj_X5_weather : ∀ o, o < 2 → kdo_X5 (3 + o) = kdo_X8 o := by decide +kernel
theorem kj_X5_teams : ∀ o, o < 2 → kdo_X5 (5 + o) = kdo_X6 o := by decide +kernel
theorem kj_X5_ledger : ∀ o, o < 1 → kdo_X5 (7 + o) = kdo_X1 o := by decide +kernel
theorem kf_X5 {kd : zKd} {R : zRf} {a n : Nat} (hkk : ∀ o, o < 21 → kd (a + o) = kdo_X5 o) (hn : a + 21 ≤ n) (hr : rr_X5 R a) : K_X5 (zct kd R n) a := ⟨zct_k (by omega) (hkk 0 (by decide)), hr.1, ⟨zct_k (by omega) (hkk 1 (by decide)), hr.2.1, fun j hj => kf_X9 (kk_at hkk (b := 8 + 1 * j) (by (try dsimp only); omega) (by omega) (kj_X5_zones j hj)) (by (try dsimp only); omega)⟩, hr.2.2.1, ⟨zct_k (by omega) (hkk 2 (by decide)), hr.2.2.2.1, fun j hj => kf_X3 (kk_at hkk (b := 17 + 1 * j) (by (try dsimp only); omega) (by omega) (kj_X5_ships j hj)) (by (try dsimp only); omega)⟩, hr.2.2.2.2.1, kf_X8 (kk_at hkk (b := 3) (by omega) (by omega) kj_X5_weather) (by omega) hr.2.2.2.2.2.1, hr.2.2.2.2.2.2.1, kf_X6 (kk_at hkk (b := 5) (by omega) (by omega) kj_X5_teams) (by omega) hr.2.2.2.2.2.2.2.1, hr.2.2.2.2.2.2.2.2, kf_X1 (kk_at hkk (b := 7) (by omega) (by omega) kj_X5_ledger) (by omega)⟩
def kdo_X0 (o : Nat) : Option (Nat ⊕ (Nat × Nat)) := if o = 0 then some (.inl 0) else if o = 1 then some (.inr (6, 14)) else if 2 ≤ o ∧ o < 296 then kdo_X5 ((o - 2) % 21) else none
def rr_X0 (R : zRf) (a : Nat) : Prop := R a 0 = some (a + 1) ∧ (∀ j, j < 14 → R (a + 1) j = some (a + 1 + 1 + 21 * j)) ∧ (∀ j, j < 14 → rr_X5 R (a + 1 + 1 + 21 * j))
theorem rr_X0_ext {R R1 : zRf} {a : Nat} (h : ∀ q, a ≤ q → q < a + 296 → R1 q = R q) (hr : rr_X0 R a) : rr_X0 R1 a := ⟨by rw [h _ (by omega) (by omega)]; exact hr.1, fun j hj => by rw [h _ (by omega) (by omega)]; exact hr.2.1 j hj, fun j hj => rr_X5_ext (fun q h1 h2 => h q (by omega) (by omega)) (hr.2.2 j hj)⟩
theorem kj_X0_states : ∀ j, j < 14 → ∀ o, o < 21 → kdo_X0 (2 + 21 * j + o) = kdo_X5 o := by decide +kernel
theorem kf_X0 {kd : zKd} {R : zRf} {a n : Nat} (hkk : ∀ o, o < 296 → kd (a + o) = kdo_X0 o) (hn : a + 296 ≤ n) (hr : rr_X0 R a) : K_X0 (zct kd R n) a := ⟨zct_k (by omega) (hkk 0 (by decide)), hr.1, ⟨zct_k (by omega) (hkk 1 (by decide)), hr.2.1, fun j hj => kf_X5 (kk_at hkk (b := 2 + 21 * j) (by (try dsimp only); omega) (by omega) (kj_X0_states j hj)) (by (try dsimp only); omega) (hr.2.2 j hj)⟩⟩
def kdo_X4 : Nat → Option (Nat ⊕ (Nat × Nat))
  | 0 => some (.inl 3)
  | 1 => some (.inl 4)
  | 2 => some (.inr (7, 9))
  | 3 => some (.inr (4, 4))
  | 4 => some (.inl 7)
  | 5 => some (.inr (0, 30))
  | 6 => some (.inl 5)
  | 7 => some (.inr (0, 3))
  | 8 => some (.inl 1)
  | 9 => some (.inl 8)
  | 10 => some (.inl 8)
  | 11 => some (.inl 8)
  | 12 => some (.inl 8)
  | 13 => some (.inl 8)
  | 14 => some (.inl 8)
  | 15 => some (.inl 8)
  | 16 => some (.inl 8)
  | 17 => some (.inl 8)
  | 18 => some (.inl 2)
  | 19 => some (.inl 2)
  | 20 => some (.inl 2)
  | 21 => some (.inl 2)
  | _ => none
def rr_X4 (R : zRf) (a : Nat) : Prop := R a 0 = some (a + 1) ∧ rr_X5 R (a + 1)
theorem rr_X4_ext {R R1 : zRf} {a : Nat} (h : ∀ q, a ≤ q → q < a + 22 → R1 q = R q) (hr : rr_X4 R a) : rr_X4 R1 a := ⟨by rw [h _ (by omega) (by omega)]; exact hr.1, rr_X5_ext (fun q h1 h2 => h q (by omega) (by omega)) hr.2⟩
theorem kj_X4_state : ∀ o, o < 21 → kdo_X4 (1 + o) = kdo_X5 o := by decide +kernel
theorem kf_X4 {kd : zKd} {R : zRf} {a n : Nat} (hkk : ∀ o, o < 22 → kd (a + o) = kdo_X4 o) (hn : a + 22 ≤ n) (hr : rr_X4 R a) : K_X4 (zct kd R n) a := ⟨zct_k (by omega) (hkk 0 (by decide)), hr.1, kf_X5 (kk_at hkk (b := 1) (by omega) (by omega) kj_X4_state) (by omega) hr.2⟩
def kdo_X7 : Nat → Option (Nat ⊕ (Nat × Nat))
  | 0 => some (.inl 6)
  | 1 => some (.inr (1, 160))
  | _ => none
def rr_X7 (R : zRf) (a : Nat) : Prop := R a 0 = some (a + 1)
theorem rr_X7_ext {R R1 : zRf} {a : Nat} (h : ∀ q, a ≤ q → q < a + 2 → R1 q = R q) (hr : rr_X7 R a) : rr_X7 R1 a := by
  unfold rr_X7 at hr ⊢
  rw [h _ (by omega) (by omega)]; exact hr
theorem kf_X7 {kd : zKd} {R : zRf} {a n : Nat} (hkk : ∀ o, o < 2 → kd (a + o) = kdo_X7 o) (hn : a + 2 ≤ n) (hr : rr_X7 R a) : K_X7 (zct kd R n) a := ⟨zct_k (by omega) (hkk 0 (by decide)), hr, zct_k (by omega) (hkk 1 (by decide))⟩
def kdo_X10 (o : Nat) : Option (Nat ⊕ (Nat × Nat)) := if o = 0 then some (.inl 9) else if 1 ≤ o ∧ o < 3 then kdo_X7 (o - 1) else if 3 ≤ o ∧ o < 24 then kdo_X5 (o - 3) else if 24 ≤ o ∧ o < 45 then kdo_X5 (o - 24) else if 45 ≤ o ∧ o < 341 then kdo_X0 (o - 45) else if o = 341 then some (.inr (5, 2)) else if 342 ≤ o ∧ o < 386 then kdo_X4 ((o - 342) % 22) else none
def rr_X10 (R : zRf) (a : Nat) : Prop := R a 0 = some (a + 1) ∧ rr_X7 R (a + 1) ∧ R a 1 = some (a + 3) ∧ rr_X5 R (a + 3) ∧ R a 2 = some (a + 24) ∧ rr_X5 R (a + 24) ∧ R a 3 = some (a + 45) ∧ rr_X0 R (a + 45) ∧ R a 4 = some (a + 341) ∧ (∀ j, j < 2 → R (a + 341) j = some (a + 341 + 1 + 22 * j)) ∧ (∀ j, j < 2 → rr_X4 R (a + 341 + 1 + 22 * j))
theorem rr_X10_ext {R R1 : zRf} {a : Nat} (h : ∀ q, a ≤ q → q < a + 386 → R1 q = R q) (hr : rr_X10 R a) : rr_X10 R1 a := ⟨by rw [h _ (by omega) (by omega)]; exact hr.1, rr_X7_ext (fun q h1 h2 => h q (by omega) (by omega)) hr.2.1, by rw [h _ (by omega) (by omega)]; exact hr.2.2.1, rr_X5_ext (fun q h1 h2 => h q (by omega) (by omega)) hr.2.2.2.1, by rw [h _ (by omega) (by omega)]; exact hr.2.2.2.2.1, rr_X5_ext (fun q h1 h2 => h q (by omega) (by omega)) hr.2.2.2.2.2.1, by rw [h _ (by omega) (by omega)]; exact hr.2.2.2.2.2.2.1, rr_X0_ext (fun q h1 h2 => h q (by omega) (by omega)) hr.2.2.2.2.2.2.2.1, by rw [h _ (by omega) (by omega)]; exact hr.2.2.2.2.2.2.2.2.1, fun j hj => by rw [h _ (by omega) (by omega)]; exact hr.2.2.2.2.2.2.2.2.2.1 j hj, fun j hj => rr_X4_ext (fun q h1 h2 => h q (by omega) (by omega)) (hr.2.2.2.2.2.2.2.2.2.2 j hj)⟩
theorem kj_X10_text : ∀ o, o < 2 → kdo_X10 (1 + o) = kdo_X7 o := by decide +kernel
theorem kj_X10_now : ∀ o, o < 21 → kdo_X10 (3 + o) = kdo_X5 o := by decide +kernel
theorem kj_X10_trial : ∀ o, o < 21 → kdo_X10 (24 + o) = kdo_X5 o := by decide +kernel
theorem kj_X10_history : ∀ o, o < 296 → kdo_X10 (45 + o) = kdo_X0 o := by decide +kernel
theorem kj_X10_slots : ∀ j, j < 2 → ∀ o, o < 22 → kdo_X10 (342 + 22 * j + o) = kdo_X4 o := by decide +kernel
theorem kf_X10 {kd : zKd} {R : zRf} {a n : Nat} (hkk : ∀ o, o < 386 → kd (a + o) = kdo_X10 o) (hn : a + 386 ≤ n) (hr : rr_X10 R a) : K_X10 (zct kd R n) a := ⟨zct_k (by omega) (hkk 0 (by decide)), hr.1, kf_X7 (kk_at hkk (b := 1) (by omega) (by omega) kj_X10_text) (by omega) hr.2.1, hr.2.2.1, kf_X5 (kk_at hkk (b := 3) (by omega) (by omega) kj_X10_now) (by omega) hr.2.2.2.1, hr.2.2.2.2.1, kf_X5 (kk_at hkk (b := 24) (by omega) (by omega) kj_X10_trial) (by omega) hr.2.2.2.2.2.1, hr.2.2.2.2.2.2.1, kf_X0 (kk_at hkk (b := 45) (by omega) (by omega) kj_X10_history) (by omega) hr.2.2.2.2.2.2.2.1, hr.2.2.2.2.2.2.2.2.1, ⟨zct_k (by omega) (hkk 341 (by decide)), hr.2.2.2.2.2.2.2.2.2.1, fun j hj => kf_X4 (kk_at hkk (b := 342 + 22 * j) (by (try dsimp only); omega) (by omega) (kj_X10_slots j hj)) (by (try dsimp only); omega) (hr.2.2.2.2.2.2.2.2.2.2 j hj)⟩⟩
def kdo_X11 : Nat → Option (Nat ⊕ (Nat × Nat))
  | 0 => some (.inl 10)
  | 1 => some (.inr (0, 160))
  | 2 => some (.inr (0, 121))
  | 3 => some (.inr (0, 121))
  | 4 => some (.inr (0, 121))
  | 5 => some (.inr (0, 1694))
  | 6 => some (.inr (0, 242))
  | 7 => some (.inr (2, 2))
  | _ => none
def rr_X11 (R : zRf) (a : Nat) : Prop := R a 1 = some (a + 1) ∧ R a 4 = some (a + 2) ∧ R a 5 = some (a + 3) ∧ R a 6 = some (a + 4) ∧ R a 7 = some (a + 5) ∧ R a 9 = some (a + 6) ∧ R a 10 = some (a + 7)
theorem rr_X11_ext {R R1 : zRf} {a : Nat} (h : ∀ q, a ≤ q → q < a + 8 → R1 q = R q) (hr : rr_X11 R a) : rr_X11 R1 a := ⟨by rw [h _ (by omega) (by omega)]; exact hr.1, by rw [h _ (by omega) (by omega)]; exact hr.2.1, by rw [h _ (by omega) (by omega)]; exact hr.2.2.1, by rw [h _ (by omega) (by omega)]; exact hr.2.2.2.1, by rw [h _ (by omega) (by omega)]; exact hr.2.2.2.2.1, by rw [h _ (by omega) (by omega)]; exact hr.2.2.2.2.2.1, by rw [h _ (by omega) (by omega)]; exact hr.2.2.2.2.2.2⟩
theorem kf_X11 {kd : zKd} {R : zRf} {a n : Nat} (hkk : ∀ o, o < 8 → kd (a + o) = kdo_X11 o) (hn : a + 8 ≤ n) (hr : rr_X11 R a) : K_X11 (zct kd R n) a := ⟨zct_k (by omega) (hkk 0 (by decide)), hr.1, zct_k (by omega) (hkk 1 (by decide)), hr.2.1, zct_k (by omega) (hkk 2 (by decide)), hr.2.2.1, zct_k (by omega) (hkk 3 (by decide)), hr.2.2.2.1, zct_k (by omega) (hkk 4 (by decide)), hr.2.2.2.2.1, zct_k (by omega) (hkk 5 (by decide)), hr.2.2.2.2.2.1, zct_k (by omega) (hkk 6 (by decide)), hr.2.2.2.2.2.2, zct_k (by omega) (hkk 7 (by decide))⟩
theorem df_X9 : ∀ j, j < 4 → defaultValue (tyX9 j) = zfld 8 (fun _ => 0) (fun _ => none) j := by decide +kernel
theorem df_X3 : ∀ j, j < 8 → defaultValue (tyX3 j) = zfld 2 (fun _ => 0) (fun _ => none) j := by decide +kernel
theorem df_X8 : ∀ j, j < 2 → defaultValue (tyX8 j) = zfld 7 (fun _ => 0) (fun _ => none) j := by decide +kernel
theorem df_X6 : ∀ j, j < 7 → defaultValue (tyX6 j) = zfld 5 (fun _ => 0) (fun _ => none) j := by decide +kernel
theorem df_X1 : ∀ j, j < 7 → defaultValue (tyX1 j) = zfld 1 (fun _ => 0) (fun _ => none) j := by decide +kernel
theorem df_X5 : ∀ j, j < 12 → defaultValue (tyX5 j) = zfld 4 (fun _ => 0) (fun _ => none) j := by decide +kernel
theorem df_X0 : ∀ j, j < 3 → defaultValue (tyX0 j) = zfld 0 (fun _ => 0) (fun _ => none) j := by decide +kernel
theorem df_X4 : ∀ j, j < 2 → defaultValue (tyX4 j) = zfld 3 (fun _ => 0) (fun _ => none) j := by decide +kernel
theorem df_X7 : ∀ j, j < 4 → defaultValue (tyX7 j) = zfld 6 (fun _ => 0) (fun _ => none) j := by decide +kernel
theorem df_X10 : ∀ j, j < 5 → defaultValue (tyX10 j) = zfld 9 (fun _ => 0) (fun _ => none) j := by decide +kernel
theorem df_X11 : ∀ j, j < 11 → defaultValue (tyX11 j) = zfld 10 (fun _ => 0) (fun _ => none) j := by decide +kernel
def rc_X8 (R : zRf) (a : Nat) : zRf := uR (uN R (a + 1)) a 1 (a + 1)
set_option maxHeartbeats 16000000 in
set_option maxRecDepth 100000 in
theorem c_X8_init {l : Launch} {E : zEn} {kd : zKd} {X : zMl} (hl : l.stackTraces = false) (F : Nat) (p0 : Nat) (hkk : ∀ o, o < 2 → kd (p0 + o) = kdo_X8 o) (R : zRf) (M : zMi) (r : zMi) (hf : f_X8_init F p0 M = some r) : zM l E yX8_init cX8_init 1 (Option.none : Option Jvm.ClassFile.FieldType) { frames := 1, cells := 1, slots := 30, locals := 20 } 1 30 [.ref p0] (zct kd R (p0 + 1)) (· = p0 + 1) M X (zct kd (rc_X8 R p0) (p0 + 2)) (· = p0 + 2) none r X := by
  refine zM.intro (L0 := [(0, .ref p0)]) hl (by decide) (Nat.le_of_ble_eq_true rfl) rfl (fun Γ C0 hs => ?_)
  unfold f_X8_init at hf
  unfold rc_X8
  refine r_aload_n C0 dX8_init_0 rfl 0 rfl ?_
  refine rI_objInit C0 qw_643 qw_644 qw_645 (Nat.le_of_ble_eq_true rfl) (Nat.le_of_ble_eq_true rfl) dX8_init_1 ?_
  refine r_aload_n C0 dX8_init_4 rfl 0 rfl ?_
  refine r_bipush (v := 30) C0 dX8_init_5 (by decide) ?_
  refine rI_newa (atype := .int) (t := 0) (N := 30) C0 (by decide) rfl (fun _ _ h => h) rfl (hkk 1 (by decide +kernel)) qw_646 (by decide) (by decide) (by decide) hf (Nat.le_of_ble_eq_true rfl) (Nat.le_of_ble_eq_true rfl) dX8_init_7 (fun M1 eM1 hf => ?_)
  refine rI_eqS (S1 := (zct kd (uN R (p0 + 1)) (p0 + 2))) rfl (rI_eqZ (Z1 := (· = p0 + 2)) rfl (r_widen (k1 := 1) (s1 := 30) (by decide) (by decide) ?_))
  refine r_putR C0 (C := RX8) (T := TX8) cl_X8 (zct_k (by omega) (hkk 0 (by decide +kernel))) (k := 1) (by decide) qw_15 rfl rfl (rI_init (own9 := "") hs rfl) rfl rfl rfl dX8_init_9 ?_
  refine rI_eqS (S1 := (zct kd (uR (uN R (p0 + 1)) p0 1 (p0 + 1)) (p0 + 2))) rfl ?_
  obtain rfl := Option.some.inj hf
  exact r_vret C0 dX8_init_12
theorem rc_X8_out {R : zRf} {a q : Nat} (h : q < a ∨ a + 2 ≤ q) : rc_X8 R a q = R q := by
  unfold rc_X8
  simp (disch := omega) only [uR_eq, uR_ne, uN_ne, uR_nj]
set_option maxHeartbeats 16000000 in
set_option maxRecDepth 100000 in
theorem rr_X8_mk {R : zRf} {a : Nat} : rr_X8 (rc_X8 R a) a := by
  unfold rr_X8 rc_X8
  generalize hRC : uR (uN R (a + 1)) a 1 (a + 1) = RC
  rw [← hRC]; exact by simp (disch := omega) only [uR_eq, uR_ne, uN_ne, uR_nj]
def rc_X6 (R : zRf) (a : Nat) : zRf := uR (uN R (a + 1)) a 2 (a + 1)
set_option maxHeartbeats 16000000 in
set_option maxRecDepth 100000 in
theorem c_X6_init {l : Launch} {E : zEn} {kd : zKd} {X : zMl} (hl : l.stackTraces = false) (F : Nat) (p0 : Nat) (hkk : ∀ o, o < 2 → kd (p0 + o) = kdo_X6 o) (R : zRf) (M : zMi) (r : zMi) (hf : f_X6_init F p0 M = some r) : zM l E yX6_init cX6_init 1 (Option.none : Option Jvm.ClassFile.FieldType) { frames := 1, cells := 1, slots := 3, locals := 20 } 1 3 [.ref p0] (zct kd R (p0 + 1)) (· = p0 + 1) M X (zct kd (rc_X6 R p0) (p0 + 2)) (· = p0 + 2) none r X := by
  refine zM.intro (L0 := [(0, .ref p0)]) hl (by decide) (Nat.le_of_ble_eq_true rfl) rfl (fun Γ C0 hs => ?_)
  unfold f_X6_init at hf
  unfold rc_X6
  refine r_aload_n C0 dX6_init_0 rfl 0 rfl ?_
  refine rI_objInit C0 qw_647 qw_644 qw_645 (Nat.le_of_ble_eq_true rfl) (Nat.le_of_ble_eq_true rfl) dX6_init_1 ?_
  refine r_aload_n C0 dX6_init_4 rfl 0 rfl ?_
  refine r_iconst (v := 3) C0 dX6_init_5 (by decide) ?_
  refine rI_newa (atype := .int) (t := 0) (N := 3) C0 (by decide) rfl (fun _ _ h => h) rfl (hkk 1 (by decide +kernel)) qw_646 (by decide) (by decide) (by decide) hf (Nat.le_of_ble_eq_true rfl) (Nat.le_of_ble_eq_true rfl) dX6_init_6 (fun M1 eM1 hf => ?_)
  refine rI_eqS (S1 := (zct kd (uN R (p0 + 1)) (p0 + 2))) rfl (rI_eqZ (Z1 := (· = p0 + 2)) rfl (r_widen (k1 := 1) (s1 := 3) (by decide) (by decide) ?_))
  refine r_putR C0 (C := RX6) (T := TX6) cl_X6 (zct_k (by omega) (hkk 0 (by decide +kernel))) (k := 2) (by decide) qw_21 rfl rfl (rI_init (own9 := "") hs rfl) rfl rfl rfl dX6_init_8 ?_
  refine rI_eqS (S1 := (zct kd (uR (uN R (p0 + 1)) p0 2 (p0 + 1)) (p0 + 2))) rfl ?_
  refine r_aload_n C0 dX6_init_11 rfl 0 rfl ?_
  refine r_bipush (v := -9) C0 dX6_init_12 (by decide) ?_
  refine r_putI C0 (C := RX6) (T := TX6) cl_X6 (zct_k (by omega) (hkk 0 (by decide +kernel))) (k := 4) (by decide) qw_18 rfl rfl rfl rfl hf dX6_init_14 (fun M2 hf => ?_)
  obtain rfl := Option.some.inj hf
  exact r_vret C0 dX6_init_17
theorem rc_X6_out {R : zRf} {a q : Nat} (h : q < a ∨ a + 2 ≤ q) : rc_X6 R a q = R q := by
  unfold rc_X6
  simp (disch := omega) only [uR_eq, uR_ne, uN_ne, uR_nj]
set_option maxHeartbeats 16000000 in
set_option maxRecDepth 100000 in
theorem rr_X6_mk {R : zRf} {a : Nat} : rr_X6 (rc_X6 R a) a := by
  unfold rr_X6 rc_X6
  generalize hRC : uR (uN R (a + 1)) a 2 (a + 1) = RC
  rw [← hRC]; exact by simp (disch := omega) only [uR_eq, uR_ne, uN_ne, uR_nj]
set_option maxHeartbeats 16000000 in
set_option maxRecDepth 100000 in
theorem c_X1_init {l : Launch} {E : zEn} {kd : zKd} {X : zMl} (hl : l.stackTraces = false) (F : Nat) (p0 : Nat) (hkk : ∀ o, o < 1 → kd (p0 + o) = kdo_X1 o) (R : zRf) (M : zMi) (r : zMi) (hf : f_X1_init F p0 M = some r) : zM l E yX1_init cX1_init 1 (Option.none : Option Jvm.ClassFile.FieldType) { frames := 1, cells := 0, slots := 0, locals := 20 } 0 0 [.ref p0] (zct kd R (p0 + 1)) (· = p0 + 1) M X (zct kd R (p0 + 1)) (· = p0 + 1) none r X := by
  refine zM.intro (L0 := [(0, .ref p0)]) hl (by decide) (Nat.le_of_ble_eq_true rfl) rfl (fun Γ C0 hs => ?_)
  unfold f_X1_init at hf
  refine r_aload_n C0 dX1_init_0 rfl 0 rfl ?_
  refine rI_objInit C0 qw_648 qw_644 qw_645 (Nat.le_of_ble_eq_true rfl) (Nat.le_of_ble_eq_true rfl) dX1_init_1 ?_
  obtain rfl := Option.some.inj hf
  exact r_vret C0 dX1_init_4
set_option maxHeartbeats 16000000 in
set_option maxRecDepth 100000 in
theorem c_X9_init {l : Launch} {E : zEn} {kd : zKd} {X : zMl} (hl : l.stackTraces = false) (F : Nat) (p0 : Nat) (hkk : ∀ o, o < 1 → kd (p0 + o) = kdo_X9 o) (R : zRf) (M : zMi) (r : zMi) (hf : f_X9_init F p0 M = some r) : zM l E yX9_init cX9_init 1 (Option.none : Option Jvm.ClassFile.FieldType) { frames := 1, cells := 0, slots := 0, locals := 20 } 0 0 [.ref p0] (zct kd R (p0 + 1)) (· = p0 + 1) M X (zct kd R (p0 + 1)) (· = p0 + 1) none r X := by
  refine zM.intro (L0 := [(0, .ref p0)]) hl (by decide) (Nat.le_of_ble_eq_true rfl) rfl (fun Γ C0 hs => ?_)
  unfold f_X9_init at hf
  refine r_aload_n C0 dX9_init_0 rfl 0 rfl ?_
  refine rI_objInit C0 qw_649 qw_644 qw_645 (Nat.le_of_ble_eq_true rfl) (Nat.le_of_ble_eq_true rfl) dX9_init_1 ?_
  obtain rfl := Option.some.inj hf
  exact r_vret C0 dX9_init_4
set_option maxHeartbeats 16000000 in
set_option maxRecDepth 100000 in
theorem c_X3_init {l : Launch} {E : zEn} {kd : zKd} {X : zMl} (hl : l.stackTraces = false) (F : Nat) (p0 : Nat) (hkk : ∀ o, o < 1 → kd (p0 + o) = kdo_X3 o) (R : zRf) (M : zMi) (r : zMi) (hf : f_X3_init F p0 M = some r) : zM l E yX3_init cX3_init 1 (Option.none : Option Jvm.ClassFile.FieldType) { frames := 1, cells := 0, slots := 0, locals := 20 } 0 0 [.ref p0] (zct kd R (p0 + 1)) (· = p0 + 1) M X (zct kd R (p0 + 1)) (· = p0 + 1) none r X := by
  refine zM.intro (L0 := [(0, .ref p0)]) hl (by decide) (Nat.le_of_ble_eq_true rfl) rfl (fun Γ C0 hs => ?_)
  unfold f_X3_init at hf
  refine r_aload_n C0 dX3_init_0 rfl 0 rfl ?_
  refine rI_objInit C0 qw_650 qw_644 qw_645 (Nat.le_of_ble_eq_true rfl) (Nat.le_of_ble_eq_true rfl) dX3_init_1 ?_
  obtain rfl := Option.some.inj hf
  exact r_vret C0 dX3_init_4
def rc_X5 (R : zRf) (a : Nat) : zRf := uR (uN (uR (uN (uR (uN (uR (uN (uR (uN (uR (uN (uR (uN (uR (uN (uR (uN (uR (uN (uR (uN (uR (uN (uR (uN (uR (uN (uR (rc_X6 (uN (uR (rc_X8 (uN (uR (uN (uR (uN R (a + 1)) a 0 (a + 1)) (a + 2)) a 1 (a + 2)) (a + 3)) (a + 3)) a 2 (a + 3)) (a + 5)) (a + 5)) a 3 (a + 5)) (a + 7)) a 4 (a + 7)) (a + 8)) (a + 1) 0 (a + 8)) (a + 9)) (a + 1) 1 (a + 9)) (a + 10)) (a + 1) 2 (a + 10)) (a + 11)) (a + 1) 3 (a + 11)) (a + 12)) (a + 1) 4 (a + 12)) (a + 13)) (a + 1) 5 (a + 13)) (a + 14)) (a + 1) 6 (a + 14)) (a + 15)) (a + 1) 7 (a + 15)) (a + 16)) (a + 1) 8 (a + 16)) (a + 17)) (a + 2) 0 (a + 17)) (a + 18)) (a + 2) 1 (a + 18)) (a + 19)) (a + 2) 2 (a + 19)) (a + 20)) (a + 2) 3 (a + 20)
set_option maxHeartbeats 16000000 in
set_option maxRecDepth 100000 in
theorem c_X5_init {l : Launch} {E : zEn} {kd : zKd} {X : zMl} (hl : l.stackTraces = false) (F : Nat) (p0 : Nat) (hkk : ∀ o, o < 21 → kd (p0 + o) = kdo_X5 o) (R : zRf) (M : zMi) (r : zMi) (hf : f_X5_init F p0 M = some r) : zM l E yX5_init cX5_init 2 (Option.none : Option Jvm.ClassFile.FieldType) { frames := 2, cells := 20, slots := 130, locals := 40 } 20 130 [.ref p0] (zct kd R (p0 + 1)) (· = p0 + 1) M X (zct kd (rc_X5 R p0) (p0 + 21)) (· = p0 + 21) none r X := by
  refine zM.intro (L0 := [(0, .ref p0)]) hl (by decide) (Nat.le_of_ble_eq_true rfl) rfl (fun Γ C0 hs => ?_)
  unfold f_X5_init at hf
  unfold rc_X5
  refine r_aload_n C0 dX5_init_0 rfl 0 rfl ?_
  refine rI_objInit C0 qw_651 qw_644 qw_645 (Nat.le_of_ble_eq_true rfl) (Nat.le_of_ble_eq_true rfl) dX5_init_1 ?_
  refine r_aload_n C0 dX5_init_4 rfl 0 rfl ?_
  refine r_bipush (v := 9) C0 dX5_init_5 (by decide) ?_
  refine rI_anew (t := 7) (N := 9) C0 (by decide) (by decide) rfl (hkk 1 (by decide +kernel)) qw_652 qw_653 (by decide) (by decide) (by decide) hf (Nat.le_of_ble_eq_true rfl) (Nat.le_of_ble_eq_true rfl) dX5_init_7 (fun M1 eM1 hf => ?_)
  refine rI_eqS (S1 := (zct kd (uN R (p0 + 1)) (p0 + 2))) rfl (rI_eqZ (Z1 := (· = p0 + 2)) rfl (r_widen (k1 := 1) (s1 := 9) (by decide) (by decide) ?_))
  refine r_putR C0 (C := RX5) (T := TX5) cl_X5 (zct_k (by omega) (hkk 0 (by decide +kernel))) (k := 0) (by decide) qw_62 rfl rfl (rI_init (own9 := "") hs rfl) rfl rfl rfl dX5_init_10 ?_
  refine rI_eqS (S1 := (zct kd (uR (uN R (p0 + 1)) p0 0 (p0 + 1)) (p0 + 2))) rfl ?_
  refine r_aload_n C0 dX5_init_13 rfl 0 rfl ?_
  refine r_iconst (v := 4) C0 dX5_init_14 (by decide) ?_
  refine rI_anew (t := 4) (N := 4) C0 (by decide) (by decide) rfl (hkk 2 (by decide +kernel)) qw_654 qw_655 (by decide) (by decide) (by decide) hf (Nat.le_of_ble_eq_true rfl) (Nat.le_of_ble_eq_true rfl) dX5_init_15 (fun M2 eM2 hf => ?_)
  refine rI_eqS (S1 := (zct kd (uN (uR (uN R (p0 + 1)) p0 0 (p0 + 1)) (p0 + 2)) (p0 + 3))) rfl (rI_eqZ (Z1 := (· = p0 + 3)) rfl (r_widen (k1 := 2) (s1 := 13) (by decide) (by decide) ?_))
  refine r_putR C0 (C := RX5) (T := TX5) cl_X5 (zct_k (by omega) (hkk 0 (by decide +kernel))) (k := 1) (by decide) qw_56 rfl rfl (rI_init (own9 := "") hs rfl) rfl rfl rfl dX5_init_18 ?_
  refine rI_eqS (S1 := (zct kd (uR (uN (uR (uN R (p0 + 1)) p0 0 (p0 + 1)) (p0 + 2)) p0 1 (p0 + 2)) (p0 + 3))) rfl ?_
  refine r_aload_n C0 dX5_init_21 rfl 0 rfl ?_
  refine rI_new C0 cl_X8 (hkk 3 (by decide +kernel)) qw_656 qw_657 qw_33 df_X8 hf (Nat.le_of_ble_eq_true rfl) (Nat.le_of_ble_eq_true rfl) dX5_init_22 (fun M3 eM3 hf => ?_)
  refine rI_eqS (S1 := (zct kd (uN (uR (uN (uR (uN R (p0 + 1)) p0 0 (p0 + 1)) (p0 + 2)) p0 1 (p0 + 2)) (p0 + 3)) (p0 + 4))) rfl (rI_eqZ (Z1 := (· = p0 + 4)) rfl (r_widen (k1 := 3) (s1 := 15) (by decide) (by decide) ?_))
  refine r_dup C0 dX5_init_25 rfl ?_
  refine rI_call C0 hf vs_152 (fun hl r4 hr4 => c_X8_init hl F (p0 + 3) (kk_sub hkk (b := 3) (by decide) (by decide +kernel)) (uN (uR (uN (uR (uN R (p0 + 1)) p0 0 (p0 + 1)) (p0 + 2)) p0 1 (p0 + 2)) (p0 + 3)) M3 r4 hr4) (Nat.le_of_ble_eq_true rfl) dX5_init_26 (zrm_ok rfl) (fun r4 hr4 hf => ?_)
  refine rI_eqS (S1 := (zct kd (rc_X8 (uN (uR (uN (uR (uN R (p0 + 1)) p0 0 (p0 + 1)) (p0 + 2)) p0 1 (p0 + 2)) (p0 + 3)) (p0 + 3)) (p0 + 5))) rfl (rI_eqZ (Z1 := (· = p0 + 5)) rfl (r_widen (k1 := 4) (s1 := 45) (by decide) (by decide) ?_))
  refine r_putR C0 (C := RX5) (T := TX5) cl_X5 (zct_k (by omega) (hkk 0 (by decide +kernel))) (k := 2) (by decide) qw_31 rfl rfl (rI_init (own9 := "") hs rfl) rfl rfl rfl dX5_init_29 ?_
  refine rI_eqS (S1 := (zct kd (uR (rc_X8 (uN (uR (uN (uR (uN R (p0 + 1)) p0 0 (p0 + 1)) (p0 + 2)) p0 1 (p0 + 2)) (p0 + 3)) (p0 + 3)) p0 2 (p0 + 3)) (p0 + 5))) rfl ?_
  refine r_aload_n C0 dX5_init_32 rfl 0 rfl ?_
  refine rI_new C0 cl_X6 (hkk 5 (by decide +kernel)) qw_661 qw_662 qw_39 df_X6 hf (Nat.le_of_ble_eq_true rfl) (Nat.le_of_ble_eq_true rfl) dX5_init_33 (fun M5 eM5 hf => ?_)
  refine rI_eqS (S1 := (zct kd (uN (uR (rc_X8 (uN (uR (uN (uR (uN R (p0 + 1)) p0 0 (p0 + 1)) (p0 + 2)) p0 1 (p0 + 2)) (p0 + 3)) (p0 + 3)) p0 2 (p0 + 3)) (p0 + 5)) (p0 + 6))) rfl (rI_eqZ (Z1 := (· = p0 + 6)) rfl (r_widen (k1 := 5) (s1 := 52) (by decide) (by decide) ?_))
  refine r_dup C0 dX5_init_36 rfl ?_
  refine rI_call C0 hf vs_153 (fun hl r6 hr6 => c_X6_init hl F (p0 + 5) (kk_sub hkk (b := 5) (by decide) (by decide +kernel)) (uN (uR (rc_X8 (uN (uR (uN (uR (uN R (p0 + 1)) p0 0 (p0 + 1)) (p0 + 2)) p0 1 (p0 + 2)) (p0 + 3)) (p0 + 3)) p0 2 (p0 + 3)) (p0 + 5)) M5 r6 hr6) (Nat.le_of_ble_eq_true rfl) dX5_init_37 (zrm_ok rfl) (fun r6 hr6 hf => ?_)
  refine rI_eqS (S1 := (zct kd (rc_X6 (uN (uR (rc_X8 (uN (uR (uN (uR (uN R (p0 + 1)) p0 0 (p0 + 1)) (p0 + 2)) p0 1 (p0 + 2)) (p0 + 3)) (p0 + 3)) p0 2 (p0 + 3)) (p0 + 5)) (p0 + 5)) (p0 + 7))) rfl (rI_eqZ (Z1 := (· = p0 + 7)) rfl (r_widen (k1 := 6) (s1 := 55) (by decide) (by decide) ?_))
  refine r_putR C0 (C := RX5) (T := TX5) cl_X5 (zct_k (by omega) (hkk 0 (by decide +kernel))) (k := 3) (by decide) qw_37 rfl rfl (rI_init (own9 := "") hs rfl) rfl rfl rfl dX5_init_40 ?_
  refine rI_eqS (S1 := (zct kd (uR (rc_X6 (uN (uR (rc_X8 (uN (uR (uN (uR (uN R (p0 + 1)) p0 0 (p0 + 1)) (p0 + 2)) p0 1 (p0 + 2)) (p0 + 3)) (p0 + 3)) p0 2 (p0 + 3)) (p0 + 5)) (p0 + 5)) p0 3 (p0 + 5)) (p0 + 7))) rfl ?_
  refine r_aload_n C0 dX5_init_43 rfl 0 rfl ?_
  refine rI_new C0 cl_X1 (hkk 7 (by decide +kernel)) qw_666 qw_667 qw_45 df_X1 hf (Nat.le_of_ble_eq_true rfl) (Nat.le_of_ble_eq_true rfl) dX5_init_44 (fun M7 eM7 hf => ?_)
  refine rI_eqS (S1 := (zct kd (uN (uR (rc_X6 (uN (uR (rc_X8 (uN (uR (uN (uR (uN R (p0 + 1)) p0 0 (p0 + 1)) (p0 + 2)) p0 1 (p0 + 2)) (p0 + 3)) (p0 + 3)) p0 2 (p0 + 3)) (p0 + 5)) (p0 + 5)) p0 3 (p0 + 5)) (p0 + 7)) (p0 + 8))) rfl (rI_eqZ (Z1 := (· = p0 + 8)) rfl (r_widen (k1 := 7) (s1 := 62) (by decide) (by decide) ?_))
  refine r_dup C0 dX5_init_47 rfl ?_
  refine rI_call C0 hf vs_154 (fun hl r8 hr8 => c_X1_init hl F (p0 + 7) (kk_sub hkk (b := 7) (by decide) (by decide +kernel)) (uN (uR (rc_X6 (uN (uR (rc_X8 (uN (uR (uN (uR (uN R (p0 + 1)) p0 0 (p0 + 1)) (p0 + 2)) p0 1 (p0 + 2)) (p0 + 3)) (p0 + 3)) p0 2 (p0 + 3)) (p0 + 5)) (p0 + 5)) p0 3 (p0 + 5)) (p0 + 7)) M7 r8 hr8) (Nat.le_of_ble_eq_true rfl) dX5_init_48 (zrm_ok rfl) (fun r8 hr8 hf => ?_)
  refine rI_eqS (S1 := (zct kd (uN (uR (rc_X6 (uN (uR (rc_X8 (uN (uR (uN (uR (uN R (p0 + 1)) p0 0 (p0 + 1)) (p0 + 2)) p0 1 (p0 + 2)) (p0 + 3)) (p0 + 3)) p0 2 (p0 + 3)) (p0 + 5)) (p0 + 5)) p0 3 (p0 + 5)) (p0 + 7)) (p0 + 8))) rfl (rI_eqZ (Z1 := (· = p0 + 8)) rfl (r_widen (k1 := 7) (s1 := 62) (by decide) (by decide) ?_))
  refine r_putR C0 (C := RX5) (T := TX5) cl_X5 (zct_k (by omega) (hkk 0 (by decide +kernel))) (k := 4) (by decide) qw_43 rfl rfl (rI_init (own9 := "") hs rfl) rfl rfl rfl dX5_init_51 ?_
  refine rI_eqS (S1 := (zct kd (uR (uN (uR (rc_X6 (uN (uR (rc_X8 (uN (uR (uN (uR (uN R (p0 + 1)) p0 0 (p0 + 1)) (p0 + 2)) p0 1 (p0 + 2)) (p0 + 3)) (p0 + 3)) p0 2 (p0 + 3)) (p0 + 5)) (p0 + 5)) p0 3 (p0 + 5)) (p0 + 7)) p0 4 (p0 + 7)) (p0 + 8))) rfl ?_
  refine r_iconst (v := 0) C0 dX5_init_54 (by decide) ?_
  refine r_istore_n (L' := [(1, .int (0 : Int32)), (0, .ref p0)]) C0 dX5_init_55 rfl (by decide) rfl ?_
  refine r_iload_n C0 dX5_init_56 rfl 0 rfl ?_
  refine r_aload_n C0 dX5_init_57 rfl 1 rfl ?_
  refine r_getR C0 (C := RX5) (T := TX5) cl_X5 (zct_k (by omega) (hkk 0 (by decide +kernel))) (k := 0) (by decide) qw_62 rfl (show (uR (uN (uR (rc_X6 (uN (uR (rc_X8 (uN (uR (uN (uR (uN R (p0 + 1)) p0 0 (p0 + 1)) (p0 + 2)) p0 1 (p0 + 2)) (p0 + 3)) (p0 + 3)) p0 2 (p0 + 3)) (p0 + 5)) (p0 + 5)) p0 3 (p0 + 5)) (p0 + 7)) p0 4 (p0 + 7)) p0 0 = some (p0 + 1) by simp (disch := omega) only [uR_eq, uR_ne, uN_ne, uR_nj, rc_X6_out, rc_X8_out]) dX5_init_58 ?_
  refine r_alen (v := 9) C0 (zct_k (by omega) (hkk 1 (by decide +kernel))) (by decide) rfl dX5_init_61 ?_
  refine r_icmp_ge_f C0 84 dX5_init_62 (by decide) (by decide) ?_
  refine r_aload_n C0 dX5_init_65 rfl 1 rfl ?_
  refine r_getR C0 (C := RX5) (T := TX5) cl_X5 (zct_k (by omega) (hkk 0 (by decide +kernel))) (k := 0) (by decide) qw_62 rfl (show (uR (uN (uR (rc_X6 (uN (uR (rc_X8 (uN (uR (uN (uR (uN R (p0 + 1)) p0 0 (p0 + 1)) (p0 + 2)) p0 1 (p0 + 2)) (p0 + 3)) (p0 + 3)) p0 2 (p0 + 3)) (p0 + 5)) (p0 + 5)) p0 3 (p0 + 5)) (p0 + 7)) p0 4 (p0 + 7)) p0 0 = some (p0 + 1) by simp (disch := omega) only [uR_eq, uR_ne, uN_ne, uR_nj, rc_X6_out, rc_X8_out]) dX5_init_66 ?_
  refine r_iload_n C0 dX5_init_69 rfl 0 rfl ?_
  refine rI_new C0 cl_X9 (hkk 8 (by decide +kernel)) qw_652 qw_671 qw_64 df_X9 hf (Nat.le_of_ble_eq_true rfl) (Nat.le_of_ble_eq_true rfl) dX5_init_70 (fun M9 eM9 hf => ?_)
  refine rI_eqS (S1 := (zct kd (uN (uR (uN (uR (rc_X6 (uN (uR (rc_X8 (uN (uR (uN (uR (uN R (p0 + 1)) p0 0 (p0 + 1)) (p0 + 2)) p0 1 (p0 + 2)) (p0 + 3)) (p0 + 3)) p0 2 (p0 + 3)) (p0 + 5)) (p0 + 5)) p0 3 (p0 + 5)) (p0 + 7)) p0 4 (p0 + 7)) (p0 + 8)) (p0 + 9))) rfl (rI_eqZ (Z1 := (· = p0 + 9)) rfl (r_widen (k1 := 8) (s1 := 66) (by decide) (by decide) ?_))
  refine r_dup C0 dX5_init_73 rfl ?_
  refine rI_call C0 hf vs_155 (fun hl r10 hr10 => c_X9_init hl F (p0 + 8) (kk_sub hkk (b := 8) (by decide) (by decide +kernel)) (uN (uR (uN (uR (rc_X6 (uN (uR (rc_X8 (uN (uR (uN (uR (uN R (p0 + 1)) p0 0 (p0 + 1)) (p0 + 2)) p0 1 (p0 + 2)) (p0 + 3)) (p0 + 3)) p0 2 (p0 + 3)) (p0 + 5)) (p0 + 5)) p0 3 (p0 + 5)) (p0 + 7)) p0 4 (p0 + 7)) (p0 + 8)) M9 r10 hr10) (Nat.le_of_ble_eq_true rfl) dX5_init_74 (zrm_ok rfl) (fun r10 hr10 hf => ?_)
  refine rI_eqS (S1 := (zct kd (uN (uR (uN (uR (rc_X6 (uN (uR (rc_X8 (uN (uR (uN (uR (uN R (p0 + 1)) p0 0 (p0 + 1)) (p0 + 2)) p0 1 (p0 + 2)) (p0 + 3)) (p0 + 3)) p0 2 (p0 + 3)) (p0 + 5)) (p0 + 5)) p0 3 (p0 + 5)) (p0 + 7)) p0 4 (p0 + 7)) (p0 + 8)) (p0 + 9))) rfl (rI_eqZ (Z1 := (· = p0 + 9)) rfl (r_widen (k1 := 8) (s1 := 66) (by decide) (by decide) ?_))
  refine rI_aast (t := 7) (n0 := 9) (j := 0) C0 (zct_k (by omega) (hkk 1 (by decide +kernel))) (by decide) (by decide) rfl (zct_k (by omega) (hkk 8 (by decide +kernel))) rfl rfl rfl dX5_init_77 ?_
  refine rI_eqS (S1 := (zct kd (uR (uN (uR (uN (uR (rc_X6 (uN (uR (rc_X8 (uN (uR (uN (uR (uN R (p0 + 1)) p0 0 (p0 + 1)) (p0 + 2)) p0 1 (p0 + 2)) (p0 + 3)) (p0 + 3)) p0 2 (p0 + 3)) (p0 + 5)) (p0 + 5)) p0 3 (p0 + 5)) (p0 + 7)) p0 4 (p0 + 7)) (p0 + 8)) (p0 + 1) 0 (p0 + 8)) (p0 + 9))) rfl ?_
  refine r_iinc (j := 0) (v := (1 : Int32)) (L' := [(1, .int (1 : Int32)), (0, .ref p0)]) C0 dX5_init_78 rfl (by decide) (by decide) rfl ?_
  refine r_goto C0 56 dX5_init_81 (by decide) ?_
  refine r_iload_n C0 dX5_init_56 rfl 0 rfl ?_
  refine r_aload_n C0 dX5_init_57 rfl 1 rfl ?_
  refine r_getR C0 (C := RX5) (T := TX5) cl_X5 (zct_k (by omega) (hkk 0 (by decide +kernel))) (k := 0) (by decide) qw_62 rfl (show (uR (uN (uR (uN (uR (rc_X6 (uN (uR (rc_X8 (uN (uR (uN (uR (uN R (p0 + 1)) p0 0 (p0 + 1)) (p0 + 2)) p0 1 (p0 + 2)) (p0 + 3)) (p0 + 3)) p0 2 (p0 + 3)) (p0 + 5)) (p0 + 5)) p0 3 (p0 + 5)) (p0 + 7)) p0 4 (p0 + 7)) (p0 + 8)) (p0 + 1) 0 (p0 + 8)) p0 0 = some (p0 + 1) by simp (disch := omega) only [uR_eq, uR_ne, uN_ne, uR_nj, rc_X6_out, rc_X8_out]) dX5_init_58 ?_
  refine r_alen (v := 9) C0 (zct_k (by omega) (hkk 1 (by decide +kernel))) (by decide) rfl dX5_init_61 ?_
  refine r_icmp_ge_f C0 84 dX5_init_62 (by decide) (by decide) ?_
  refine r_aload_n C0 dX5_init_65 rfl 1 rfl ?_
  refine r_getR C0 (C := RX5) (T := TX5) cl_X5 (zct_k (by omega) (hkk 0 (by decide +kernel))) (k := 0) (by decide) qw_62 rfl (show (uR (uN (uR (uN (uR (rc_X6 (uN (uR (rc_X8 (uN (uR (uN (uR (uN R (p0 + 1)) p0 0 (p0 + 1)) (p0 + 2)) p0 1 (p0 + 2)) (p0 + 3)) (p0 + 3)) p0 2 (p0 + 3)) (p0 + 5)) (p0 + 5)) p0 3 (p0 + 5)) (p0 + 7)) p0 4 (p0 + 7)) (p0 + 8)) (p0 + 1) 0 (p0 + 8)) p0 0 = some (p0 + 1) by simp (disch := omega) only [uR_eq, uR_ne, uN_ne, uR_nj, rc_X6_out, rc_X8_out]) dX5_init_66 ?_
  refine r_iload_n C0 dX5_init_69 rfl 0 rfl ?_
  refine rI_new C0 cl_X9 (hkk 9 (by decide +kernel)) qw_652 qw_671 qw_64 df_X9 hf (Nat.le_of_ble_eq_true rfl) (Nat.le_of_ble_eq_true rfl) dX5_init_70 (fun M11 eM11 hf => ?_)
  refine rI_eqS (S1 := (zct kd (uN (uR (uN (uR (uN (uR (rc_X6 (uN (uR (rc_X8 (uN (uR (uN (uR (uN R (p0 + 1)) p0 0 (p0 + 1)) (p0 + 2)) p0 1 (p0 + 2)) (p0 + 3)) (p0 + 3)) p0 2 (p0 + 3)) (p0 + 5)) (p0 + 5)) p0 3 (p0 + 5)) (p0 + 7)) p0 4 (p0 + 7)) (p0 + 8)) (p0 + 1) 0 (p0 + 8)) (p0 + 9)) (p0 + 10))) rfl (rI_eqZ (Z1 := (· = p0 + 10)) rfl (r_widen (k1 := 9) (s1 := 70) (by decide) (by decide) ?_))
  refine r_dup C0 dX5_init_73 rfl ?_
  refine rI_call C0 hf vs_155 (fun hl r12 hr12 => c_X9_init hl F (p0 + 9) (kk_sub hkk (b := 9) (by decide) (by decide +kernel)) (uN (uR (uN (uR (uN (uR (rc_X6 (uN (uR (rc_X8 (uN (uR (uN (uR (uN R (p0 + 1)) p0 0 (p0 + 1)) (p0 + 2)) p0 1 (p0 + 2)) (p0 + 3)) (p0 + 3)) p0 2 (p0 + 3)) (p0 + 5)) (p0 + 5)) p0 3 (p0 + 5)) (p0 + 7)) p0 4 (p0 + 7)) (p0 + 8)) (p0 + 1) 0 (p0 + 8)) (p0 + 9)) M11 r12 hr12) (Nat.le_of_ble_eq_true rfl) dX5_init_74 (zrm_ok rfl) (fun r12 hr12 hf => ?_)
  refine rI_eqS (S1 := (zct kd (uN (uR (uN (uR (uN (uR (rc_X6 (uN (uR (rc_X8 (uN (uR (uN (uR (uN R (p0 + 1)) p0 0 (p0 + 1)) (p0 + 2)) p0 1 (p0 + 2)) (p0 + 3)) (p0 + 3)) p0 2 (p0 + 3)) (p0 + 5)) (p0 + 5)) p0 3 (p0 + 5)) (p0 + 7)) p0 4 (p0 + 7)) (p0 + 8)) (p0 + 1) 0 (p0 + 8)) (p0 + 9)) (p0 + 10))) rfl (rI_eqZ (Z1 := (· = p0 + 10)) rfl (r_widen (k1 := 9) (s1 := 70) (by decide) (by decide) ?_))
  refine rI_aast (t := 7) (n0 := 9) (j := 1) C0 (zct_k (by omega) (hkk 1 (by decide +kernel))) (by decide) (by decide) rfl (zct_k (by omega) (hkk 9 (by decide +kernel))) rfl rfl rfl dX5_init_77 ?_
  refine rI_eqS (S1 := (zct kd (uR (uN (uR (uN (uR (uN (uR (rc_X6 (uN (uR (rc_X8 (uN (uR (uN (uR (uN R (p0 + 1)) p0 0 (p0 + 1)) (p0 + 2)) p0 1 (p0 + 2)) (p0 + 3)) (p0 + 3)) p0 2 (p0 + 3)) (p0 + 5)) (p0 + 5)) p0 3 (p0 + 5)) (p0 + 7)) p0 4 (p0 + 7)) (p0 + 8)) (p0 + 1) 0 (p0 + 8)) (p0 + 9)) (p0 + 1) 1 (p0 + 9)) (p0 + 10))) rfl ?_
  refine r_iinc (j := 0) (v := (2 : Int32)) (L' := [(1, .int (2 : Int32)), (0, .ref p0)]) C0 dX5_init_78 rfl (by decide) (by decide) rfl ?_
  refine r_goto C0 56 dX5_init_81 (by decide) ?_
  refine r_iload_n C0 dX5_init_56 rfl 0 rfl ?_
  refine r_aload_n C0 dX5_init_57 rfl 1 rfl ?_
  refine r_getR C0 (C := RX5) (T := TX5) cl_X5 (zct_k (by omega) (hkk 0 (by decide +kernel))) (k := 0) (by decide) qw_62 rfl (show (uR (uN (uR (uN (uR (uN (uR (rc_X6 (uN (uR (rc_X8 (uN (uR (uN (uR (uN R (p0 + 1)) p0 0 (p0 + 1)) (p0 + 2)) p0 1 (p0 + 2)) (p0 + 3)) (p0 + 3)) p0 2 (p0 + 3)) (p0 + 5)) (p0 + 5)) p0 3 (p0 + 5)) (p0 + 7)) p0 4 (p0 + 7)) (p0 + 8)) (p0 + 1) 0 (p0 + 8)) (p0 + 9)) (p0 + 1) 1 (p0 + 9)) p0 0 = some (p0 + 1) by simp (disch := omega) only [uR_eq, uR_ne, uN_ne, uR_nj, rc_X6_out, rc_X8_out]) dX5_init_58 ?_
  refine r_alen (v := 9) C0 (zct_k (by omega) (hkk 1 (by decide +kernel))) (by decide) rfl dX5_init_61 ?_
  refine r_icmp_ge_f C0 84 dX5_init_62 (by decide) (by decide) ?_
  refine r_aload_n C0 dX5_init_65 rfl 1 rfl ?_
  refine r_getR C0 (C := RX5) (T := TX5) cl_X5 (zct_k (by omega) (hkk 0 (by decide +kernel))) (k := 0) (by decide) qw_62 rfl (show (uR (uN (uR (uN (uR (uN (uR (rc_X6 (uN (uR (rc_X8 (uN (uR (uN (uR (uN R (p0 + 1)) p0 0 (p0 + 1)) (p0 + 2)) p0 1 (p0 + 2)) (p0 + 3)) (p0 + 3)) p0 2 (p0 + 3)) (p0 + 5)) (p0 + 5)) p0 3 (p0 + 5)) (p0 + 7)) p0 4 (p0 + 7)) (p0 + 8)) (p0 + 1) 0 (p0 + 8)) (p0 + 9)) (p0 + 1) 1 (p0 + 9)) p0 0 = some (p0 + 1) by simp (disch := omega) only [uR_eq, uR_ne, uN_ne, uR_nj, rc_X6_out, rc_X8_out]) dX5_init_66 ?_
  refine r_iload_n C0 dX5_init_69 rfl 0 rfl ?_
  refine rI_new C0 cl_X9 (hkk 10 (by decide +kernel)) qw_652 qw_671 qw_64 df_X9 hf (Nat.le_of_ble_eq_true rfl) (Nat.le_of_ble_eq_true rfl) dX5_init_70 (fun M13 eM13 hf => ?_)
  refine rI_eqS (S1 := (zct kd (uN (uR (uN (uR (uN (uR (uN (uR (rc_X6 (uN (uR (rc_X8 (uN (uR (uN (uR (uN R (p0 + 1)) p0 0 (p0 + 1)) (p0 + 2)) p0 1 (p0 + 2)) (p0 + 3)) (p0 + 3)) p0 2 (p0 + 3)) (p0 + 5)) (p0 + 5)) p0 3 (p0 + 5)) (p0 + 7)) p0 4 (p0 + 7)) (p0 + 8)) (p0 + 1) 0 (p0 + 8)) (p0 + 9)) (p0 + 1) 1 (p0 + 9)) (p0 + 10)) (p0 + 11))) rfl (rI_eqZ (Z1 := (· = p0 + 11)) rfl (r_widen (k1 := 10) (s1 := 74) (by decide) (by decide) ?_))
  refine r_dup C0 dX5_init_73 rfl ?_
  refine rI_call C0 hf vs_155 (fun hl r14 hr14 => c_X9_init hl F (p0 + 10) (kk_sub hkk (b := 10) (by decide) (by decide +kernel)) (uN (uR (uN (uR (uN (uR (uN (uR (rc_X6 (uN (uR (rc_X8 (uN (uR (uN (uR (uN R (p0 + 1)) p0 0 (p0 + 1)) (p0 + 2)) p0 1 (p0 + 2)) (p0 + 3)) (p0 + 3)) p0 2 (p0 + 3)) (p0 + 5)) (p0 + 5)) p0 3 (p0 + 5)) (p0 + 7)) p0 4 (p0 + 7)) (p0 + 8)) (p0 + 1) 0 (p0 + 8)) (p0 + 9)) (p0 + 1) 1 (p0 + 9)) (p0 + 10)) M13 r14 hr14) (Nat.le_of_ble_eq_true rfl) dX5_init_74 (zrm_ok rfl) (fun r14 hr14 hf => ?_)
  refine rI_eqS (S1 := (zct kd (uN (uR (uN (uR (uN (uR (uN (uR (rc_X6 (uN (uR (rc_X8 (uN (uR (uN (uR (uN R (p0 + 1)) p0 0 (p0 + 1)) (p0 + 2)) p0 1 (p0 + 2)) (p0 + 3)) (p0 + 3)) p0 2 (p0 + 3)) (p0 + 5)) (p0 + 5)) p0 3 (p0 + 5)) (p0 + 7)) p0 4 (p0 + 7)) (p0 + 8)) (p0 + 1) 0 (p0 + 8)) (p0 + 9)) (p0 + 1) 1 (p0 + 9)) (p0 + 10)) (p0 + 11))) rfl (rI_eqZ (Z1 := (· = p0 + 11)) rfl (r_widen (k1 := 10) (s1 := 74) (by decide) (by decide) ?_))
  refine rI_aast (t := 7) (n0 := 9) (j := 2) C0 (zct_k (by omega) (hkk 1 (by decide +kernel))) (by decide) (by decide) rfl (zct_k (by omega) (hkk 10 (by decide +kernel))) rfl rfl rfl dX5_init_77 ?_
  refine rI_eqS (S1 := (zct kd (uR (uN (uR (uN (uR (uN (uR (uN (uR (rc_X6 (uN (uR (rc_X8 (uN (uR (uN (uR (uN R (p0 + 1)) p0 0 (p0 + 1)) (p0 + 2)) p0 1 (p0 + 2)) (p0 + 3)) (p0 + 3)) p0 2 (p0 + 3)) (p0 + 5)) (p0 + 5)) p0 3 (p0 + 5)) (p0 + 7)) p0 4 (p0 + 7)) (p0 + 8)) (p0 + 1) 0 (p0 + 8)) (p0 + 9)) (p0 + 1) 1 (p0 + 9)) (p0 + 10)) (p0 + 1) 2 (p0 + 10)) (p0 + 11))) rfl ?_
  refine r_iinc (j := 0) (v := (3 : Int32)) (L' := [(1, .int (3 : Int32)), (0, .ref p0)]) C0 dX5_init_78 rfl (by decide) (by decide) rfl ?_
  refine r_goto C0 56 dX5_init_81 (by decide) ?_
  refine r_iload_n C0 dX5_init_56 rfl 0 rfl ?_
  refine r_aload_n C0 dX5_init_57 rfl 1 rfl ?_
  refine r_getR C0 (C := RX5) (T := TX5) cl_X5 (zct_k (by omega) (hkk 0 (by decide +kernel))) (k := 0) (by decide) qw_62 rfl (show (uR (uN (uR (uN (uR (uN (uR (uN (uR (rc_X6 (uN (uR (rc_X8 (uN (uR (uN (uR (uN R (p0 + 1)) p0 0 (p0 + 1)) (p0 + 2)) p0 1 (p0 + 2)) (p0 + 3)) (p0 + 3)) p0 2 (p0 + 3)) (p0 + 5)) (p0 + 5)) p0 3 (p0 + 5)) (p0 + 7)) p0 4 (p0 + 7)) (p0 + 8)) (p0 + 1) 0 (p0 + 8)) (p0 + 9)) (p0 + 1) 1 (p0 + 9)) (p0 + 10)) (p0 + 1) 2 (p0 + 10)) p0 0 = some (p0 + 1) by simp (disch := omega) only [uR_eq, uR_ne, uN_ne, uR_nj, rc_X6_out, rc_X8_out]) dX5_init_58 ?_
  refine r_alen (v := 9) C0 (zct_k (by omega) (hkk 1 (by decide +kernel))) (by decide) rfl dX5_init_61 ?_
  refine r_icmp_ge_f C0 84 dX5_init_62 (by decide) (by decide) ?_
  refine r_aload_n C0 dX5_init_65 rfl 1 rfl ?_
  refine r_getR C0 (C := RX5) (T := TX5) cl_X5 (zct_k (by omega) (hkk 0 (by decide +kernel))) (k := 0) (by decide) qw_62 rfl (show (uR (uN (uR (uN (uR (uN (uR (uN (uR (rc_X6 (uN (uR (rc_X8 (uN (uR (uN (uR (uN R (p0 + 1)) p0 0 (p0 + 1)) (p0 + 2)) p0 1 (p0 + 2)) (p0 + 3)) (p0 + 3)) p0 2 (p0 + 3)) (p0 + 5)) (p0 + 5)) p0 3 (p0 + 5)) (p0 + 7)) p0 4 (p0 + 7)) (p0 + 8)) (p0 + 1) 0 (p0 + 8)) (p0 + 9)) (p0 + 1) 1 (p0 + 9)) (p0 + 10)) (p0 + 1) 2 (p0 + 10)) p0 0 = some (p0 + 1) by simp (disch := omega) only [uR_eq, uR_ne, uN_ne, uR_nj, rc_X6_out, rc_X8_out]) dX5_init_66 ?_
  refine r_iload_n C0 dX5_init_69 rfl 0 rfl ?_
  refine rI_new C0 cl_X9 (hkk 11 (by decide +kernel)) qw_652 qw_671 qw_64 df_X9 hf (Nat.le_of_ble_eq_true rfl) (Nat.le_of_ble_eq_true rfl) dX5_init_70 (fun M15 eM15 hf => ?_)
  refine rI_eqS (S1 := (zct kd (uN (uR (uN (uR (uN (uR (uN (uR (uN (uR (rc_X6 (uN (uR (rc_X8 (uN (uR (uN (uR (uN R (p0 + 1)) p0 0 (p0 + 1)) (p0 + 2)) p0 1 (p0 + 2)) (p0 + 3)) (p0 + 3)) p0 2 (p0 + 3)) (p0 + 5)) (p0 + 5)) p0 3 (p0 + 5)) (p0 + 7)) p0 4 (p0 + 7)) (p0 + 8)) (p0 + 1) 0 (p0 + 8)) (p0 + 9)) (p0 + 1) 1 (p0 + 9)) (p0 + 10)) (p0 + 1) 2 (p0 + 10)) (p0 + 11)) (p0 + 12))) rfl (rI_eqZ (Z1 := (· = p0 + 12)) rfl (r_widen (k1 := 11) (s1 := 78) (by decide) (by decide) ?_))
  refine r_dup C0 dX5_init_73 rfl ?_
  refine rI_call C0 hf vs_155 (fun hl r16 hr16 => c_X9_init hl F (p0 + 11) (kk_sub hkk (b := 11) (by decide) (by decide +kernel)) (uN (uR (uN (uR (uN (uR (uN (uR (uN (uR (rc_X6 (uN (uR (rc_X8 (uN (uR (uN (uR (uN R (p0 + 1)) p0 0 (p0 + 1)) (p0 + 2)) p0 1 (p0 + 2)) (p0 + 3)) (p0 + 3)) p0 2 (p0 + 3)) (p0 + 5)) (p0 + 5)) p0 3 (p0 + 5)) (p0 + 7)) p0 4 (p0 + 7)) (p0 + 8)) (p0 + 1) 0 (p0 + 8)) (p0 + 9)) (p0 + 1) 1 (p0 + 9)) (p0 + 10)) (p0 + 1) 2 (p0 + 10)) (p0 + 11)) M15 r16 hr16) (Nat.le_of_ble_eq_true rfl) dX5_init_74 (zrm_ok rfl) (fun r16 hr16 hf => ?_)
  refine rI_eqS (S1 := (zct kd (uN (uR (uN (uR (uN (uR (uN (uR (uN (uR (rc_X6 (uN (uR (rc_X8 (uN (uR (uN (uR (uN R (p0 + 1)) p0 0 (p0 + 1)) (p0 + 2)) p0 1 (p0 + 2)) (p0 + 3)) (p0 + 3)) p0 2 (p0 + 3)) (p0 + 5)) (p0 + 5)) p0 3 (p0 + 5)) (p0 + 7)) p0 4 (p0 + 7)) (p0 + 8)) (p0 + 1) 0 (p0 + 8)) (p0 + 9)) (p0 + 1) 1 (p0 + 9)) (p0 + 10)) (p0 + 1) 2 (p0 + 10)) (p0 + 11)) (p0 + 12))) rfl (rI_eqZ (Z1 := (· = p0 + 12)) rfl (r_widen (k1 := 11) (s1 := 78) (by decide) (by decide) ?_))
  refine rI_aast (t := 7) (n0 := 9) (j := 3) C0 (zct_k (by omega) (hkk 1 (by decide +kernel))) (by decide) (by decide) rfl (zct_k (by omega) (hkk 11 (by decide +kernel))) rfl rfl rfl dX5_init_77 ?_
  refine rI_eqS (S1 := (zct kd (uR (uN (uR (uN (uR (uN (uR (uN (uR (uN (uR (rc_X6 (uN (uR (rc_X8 (uN (uR (uN (uR (uN R (p0 + 1)) p0 0 (p0 + 1)) (p0 + 2)) p0 1 (p0 + 2)) (p0 + 3)) (p0 + 3)) p0 2 (p0 + 3)) (p0 + 5)) (p0 + 5)) p0 3 (p0 + 5)) (p0 + 7)) p0 4 (p0 + 7)) (p0 + 8)) (p0 + 1) 0 (p0 + 8)) (p0 + 9)) (p0 + 1) 1 (p0 + 9)) (p0 + 10)) (p0 + 1) 2 (p0 + 10)) (p0 + 11)) (p0 + 1) 3 (p0 + 11)) (p0 + 12))) rfl ?_
  refine r_iinc (j := 0) (v := (4 : Int32)) (L' := [(1, .int (4 : Int32)), (0, .ref p0)]) C0 dX5_init_78 rfl (by decide) (by decide) rfl ?_
  refine r_goto C0 56 dX5_init_81 (by decide) ?_
  refine r_iload_n C0 dX5_init_56 rfl 0 rfl ?_
  refine r_aload_n C0 dX5_init_57 rfl 1 rfl ?_
  refine r_getR C0 (C := RX5) (T := TX5) cl_X5 (zct_k (by omega) (hkk 0 (by decide +kernel))) (k := 0) (by decide) qw_62 rfl (show (uR (uN (uR (uN (uR (uN (uR (uN (uR (uN (uR (rc_X6 (uN (uR (rc_X8 (uN (uR (uN (uR (uN R (p0 + 1)) p0 0 (p0 + 1)) (p0 + 2)) p0 1 (p0 + 2)) (p0 + 3)) (p0 + 3)) p0 2 (p0 + 3)) (p0 + 5)) (p0 + 5)) p0 3 (p0 + 5)) (p0 + 7)) p0 4 (p0 + 7)) (p0 + 8)) (p0 + 1) 0 (p0 + 8)) (p0 + 9)) (p0 + 1) 1 (p0 + 9)) (p0 + 10)) (p0 + 1) 2 (p0 + 10)) (p0 + 11)) (p0 + 1) 3 (p0 + 11)) p0 0 = some (p0 + 1) by simp (disch := omega) only [uR_eq, uR_ne, uN_ne, uR_nj, rc_X6_out, rc_X8_out]) dX5_init_58 ?_
  refine r_alen (v := 9) C0 (zct_k (by omega) (hkk 1 (by decide +kernel))) (by decide) rfl dX5_init_61 ?_
  refine r_icmp_ge_f C0 84 dX5_init_62 (by decide) (by decide) ?_
  refine r_aload_n C0 dX5_init_65 rfl 1 rfl ?_
  refine r_getR C0 (C := RX5) (T := TX5) cl_X5 (zct_k (by omega) (hkk 0 (by decide +kernel))) (k := 0) (by decide) qw_62 rfl (show (uR (uN (uR (uN (uR (uN (uR (uN (uR (uN (uR (rc_X6 (uN (uR (rc_X8 (uN (uR (uN (uR (uN R (p0 + 1)) p0 0 (p0 + 1)) (p0 + 2)) p0 1 (p0 + 2)) (p0 + 3)) (p0 + 3)) p0 2 (p0 + 3)) (p0 + 5)) (p0 + 5)) p0 3 (p0 + 5)) (p0 + 7)) p0 4 (p0 + 7)) (p0 + 8)) (p0 + 1) 0 (p0 + 8)) (p0 + 9)) (p0 + 1) 1 (p0 + 9)) (p0 + 10)) (p0 + 1) 2 (p0 + 10)) (p0 + 11)) (p0 + 1) 3 (p0 + 11)) p0 0 = some (p0 + 1) by simp (disch := omega) only [uR_eq, uR_ne, uN_ne, uR_nj, rc_X6_out, rc_X8_out]) dX5_init_66 ?_
  refine r_iload_n C0 dX5_init_69 rfl 0 rfl ?_
  refine rI_new C0 cl_X9 (hkk 12 (by decide +kernel)) qw_652 qw_671 qw_64 df_X9 hf (Nat.le_of_ble_eq_true rfl) (Nat.le_of_ble_eq_true rfl) dX5_init_70 (fun M17 eM17 hf => ?_)
  refine rI_eqS (S1 := (zct kd (uN (uR (uN (uR (uN (uR (uN (uR (uN (uR (uN (uR (rc_X6 (uN (uR (rc_X8 (uN (uR (uN (uR (uN R (p0 + 1)) p0 0 (p0 + 1)) (p0 + 2)) p0 1 (p0 + 2)) (p0 + 3)) (p0 + 3)) p0 2 (p0 + 3)) (p0 + 5)) (p0 + 5)) p0 3 (p0 + 5)) (p0 + 7)) p0 4 (p0 + 7)) (p0 + 8)) (p0 + 1) 0 (p0 + 8)) (p0 + 9)) (p0 + 1) 1 (p0 + 9)) (p0 + 10)) (p0 + 1) 2 (p0 + 10)) (p0 + 11)) (p0 + 1) 3 (p0 + 11)) (p0 + 12)) (p0 + 13))) rfl (rI_eqZ (Z1 := (· = p0 + 13)) rfl (r_widen (k1 := 12) (s1 := 82) (by decide) (by decide) ?_))
  refine r_dup C0 dX5_init_73 rfl ?_
  refine rI_call C0 hf vs_155 (fun hl r18 hr18 => c_X9_init hl F (p0 + 12) (kk_sub hkk (b := 12) (by decide) (by decide +kernel)) (uN (uR (uN (uR (uN (uR (uN (uR (uN (uR (uN (uR (rc_X6 (uN (uR (rc_X8 (uN (uR (uN (uR (uN R (p0 + 1)) p0 0 (p0 + 1)) (p0 + 2)) p0 1 (p0 + 2)) (p0 + 3)) (p0 + 3)) p0 2 (p0 + 3)) (p0 + 5)) (p0 + 5)) p0 3 (p0 + 5)) (p0 + 7)) p0 4 (p0 + 7)) (p0 + 8)) (p0 + 1) 0 (p0 + 8)) (p0 + 9)) (p0 + 1) 1 (p0 + 9)) (p0 + 10)) (p0 + 1) 2 (p0 + 10)) (p0 + 11)) (p0 + 1) 3 (p0 + 11)) (p0 + 12)) M17 r18 hr18) (Nat.le_of_ble_eq_true rfl) dX5_init_74 (zrm_ok rfl) (fun r18 hr18 hf => ?_)
  refine rI_eqS (S1 := (zct kd (uN (uR (uN (uR (uN (uR (uN (uR (uN (uR (uN (uR (rc_X6 (uN (uR (rc_X8 (uN (uR (uN (uR (uN R (p0 + 1)) p0 0 (p0 + 1)) (p0 + 2)) p0 1 (p0 + 2)) (p0 + 3)) (p0 + 3)) p0 2 (p0 + 3)) (p0 + 5)) (p0 + 5)) p0 3 (p0 + 5)) (p0 + 7)) p0 4 (p0 + 7)) (p0 + 8)) (p0 + 1) 0 (p0 + 8)) (p0 + 9)) (p0 + 1) 1 (p0 + 9)) (p0 + 10)) (p0 + 1) 2 (p0 + 10)) (p0 + 11)) (p0 + 1) 3 (p0 + 11)) (p0 + 12)) (p0 + 13))) rfl (rI_eqZ (Z1 := (· = p0 + 13)) rfl (r_widen (k1 := 12) (s1 := 82) (by decide) (by decide) ?_))
  refine rI_aast (t := 7) (n0 := 9) (j := 4) C0 (zct_k (by omega) (hkk 1 (by decide +kernel))) (by decide) (by decide) rfl (zct_k (by omega) (hkk 12 (by decide +kernel))) rfl rfl rfl dX5_init_77 ?_
  refine rI_eqS (S1 := (zct kd (uR (uN (uR (uN (uR (uN (uR (uN (uR (uN (uR (uN (uR (rc_X6 (uN (uR (rc_X8 (uN (uR (uN (uR (uN R (p0 + 1)) p0 0 (p0 + 1)) (p0 + 2)) p0 1 (p0 + 2)) (p0 + 3)) (p0 + 3)) p0 2 (p0 + 3)) (p0 + 5)) (p0 + 5)) p0 3 (p0 + 5)) (p0 + 7)) p0 4 (p0 + 7)) (p0 + 8)) (p0 + 1) 0 (p0 + 8)) (p0 + 9)) (p0 + 1) 1 (p0 + 9)) (p0 + 10)) (p0 + 1) 2 (p0 + 10)) (p0 + 11)) (p0 + 1) 3 (p0 + 11)) (p0 + 12)) (p0 + 1) 4 (p0 + 12)) (p0 + 13))) rfl ?_
  refine r_iinc (j := 0) (v := (5 : Int32)) (L' := [(1, .int (5 : Int32)), (0, .ref p0)]) C0 dX5_init_78 rfl (by decide) (by decide) rfl ?_
  refine r_goto C0 56 dX5_init_81 (by decide) ?_
  refine r_iload_n C0 dX5_init_56 rfl 0 rfl ?_
  refine r_aload_n C0 dX5_init_57 rfl 1 rfl ?_
  refine r_getR C0 (C := RX5) (T := TX5) cl_X5 (zct_k (by omega) (hkk 0 (by decide +kernel))) (k := 0) (by decide) qw_62 rfl (show (uR (uN (uR (uN (uR (uN (uR (uN (uR (uN (uR (uN (uR (rc_X6 (uN (uR (rc_X8 (uN (uR (uN (uR (uN R (p0 + 1)) p0 0 (p0 + 1)) (p0 + 2)) p0 1 (p0 + 2)) (p0 + 3)) (p0 + 3)) p0 2 (p0 + 3)) (p0 + 5)) (p0 + 5)) p0 3 (p0 + 5)) (p0 + 7)) p0 4 (p0 + 7)) (p0 + 8)) (p0 + 1) 0 (p0 + 8)) (p0 + 9)) (p0 + 1) 1 (p0 + 9)) (p0 + 10)) (p0 + 1) 2 (p0 + 10)) (p0 + 11)) (p0 + 1) 3 (p0 + 11)) (p0 + 12)) (p0 + 1) 4 (p0 + 12)) p0 0 = some (p0 + 1) by simp (disch := omega) only [uR_eq, uR_ne, uN_ne, uR_nj, rc_X6_out, rc_X8_out]) dX5_init_58 ?_
  refine r_alen (v := 9) C0 (zct_k (by omega) (hkk 1 (by decide +kernel))) (by decide) rfl dX5_init_61 ?_
  refine r_icmp_ge_f C0 84 dX5_init_62 (by decide) (by decide) ?_
  refine r_aload_n C0 dX5_init_65 rfl 1 rfl ?_
  refine r_getR C0 (C := RX5) (T := TX5) cl_X5 (zct_k (by omega) (hkk 0 (by decide +kernel))) (k := 0) (by decide) qw_62 rfl (show (uR (uN (uR (uN (uR (uN (uR (uN (uR (uN (uR (uN (uR (rc_X6 (uN (uR (rc_X8 (uN (uR (uN (uR (uN R (p0 + 1)) p0 0 (p0 + 1)) (p0 + 2)) p0 1 (p0 + 2)) (p0 + 3)) (p0 + 3)) p0 2 (p0 + 3)) (p0 + 5)) (p0 + 5)) p0 3 (p0 + 5)) (p0 + 7)) p0 4 (p0 + 7)) (p0 + 8)) (p0 + 1) 0 (p0 + 8)) (p0 + 9)) (p0 + 1) 1 (p0 + 9)) (p0 + 10)) (p0 + 1) 2 (p0 + 10)) (p0 + 11)) (p0 + 1) 3 (p0 + 11)) (p0 + 12)) (p0 + 1) 4 (p0 + 12)) p0 0 = some (p0 + 1) by simp (disch := omega) only [uR_eq, uR_ne, uN_ne, uR_nj, rc_X6_out, rc_X8_out]) dX5_init_66 ?_
  refine r_iload_n C0 dX5_init_69 rfl 0 rfl ?_
  refine rI_new C0 cl_X9 (hkk 13 (by decide +kernel)) qw_652 qw_671 qw_64 df_X9 hf (Nat.le_of_ble_eq_true rfl) (Nat.le_of_ble_eq_true rfl) dX5_init_70 (fun M19 eM19 hf => ?_)
  refine rI_eqS (S1 := (zct kd (uN (uR (uN (uR (uN (uR (uN (uR (uN (uR (uN (uR (uN (uR (rc_X6 (uN (uR (rc_X8 (uN (uR (uN (uR (uN R (p0 + 1)) p0 0 (p0 + 1)) (p0 + 2)) p0 1 (p0 + 2)) (p0 + 3)) (p0 + 3)) p0 2 (p0 + 3)) (p0 + 5)) (p0 + 5)) p0 3 (p0 + 5)) (p0 + 7)) p0 4 (p0 + 7)) (p0 + 8)) (p0 + 1) 0 (p0 + 8)) (p0 + 9)) (p0 + 1) 1 (p0 + 9)) (p0 + 10)) (p0 + 1) 2 (p0 + 10)) (p0 + 11)) (p0 + 1) 3 (p0 + 11)) (p0 + 12)) (p0 + 1) 4 (p0 + 12)) (p0 + 13)) (p0 + 14))) rfl (rI_eqZ (Z1 := (· = p0 + 14)) rfl (r_widen (k1 := 13) (s1 := 86) (by decide) (by decide) ?_))
  refine r_dup C0 dX5_init_73 rfl ?_
  refine rI_call C0 hf vs_155 (fun hl r20 hr20 => c_X9_init hl F (p0 + 13) (kk_sub hkk (b := 13) (by decide) (by decide +kernel)) (uN (uR (uN (uR (uN (uR (uN (uR (uN (uR (uN (uR (uN (uR (rc_X6 (uN (uR (rc_X8 (uN (uR (uN (uR (uN R (p0 + 1)) p0 0 (p0 + 1)) (p0 + 2)) p0 1 (p0 + 2)) (p0 + 3)) (p0 + 3)) p0 2 (p0 + 3)) (p0 + 5)) (p0 + 5)) p0 3 (p0 + 5)) (p0 + 7)) p0 4 (p0 + 7)) (p0 + 8)) (p0 + 1) 0 (p0 + 8)) (p0 + 9)) (p0 + 1) 1 (p0 + 9)) (p0 + 10)) (p0 + 1) 2 (p0 + 10)) (p0 + 11)) (p0 + 1) 3 (p0 + 11)) (p0 + 12)) (p0 + 1) 4 (p0 + 12)) (p0 + 13)) M19 r20 hr20) (Nat.le_of_ble_eq_true rfl) dX5_init_74 (zrm_ok rfl) (fun r20 hr20 hf => ?_)
  refine rI_eqS (S1 := (zct kd (uN (uR (uN (uR (uN (uR (uN (uR (uN (uR (uN (uR (uN (uR (rc_X6 (uN (uR (rc_X8 (uN (uR (uN (uR (uN R (p0 + 1)) p0 0 (p0 + 1)) (p0 + 2)) p0 1 (p0 + 2)) (p0 + 3)) (p0 + 3)) p0 2 (p0 + 3)) (p0 + 5)) (p0 + 5)) p0 3 (p0 + 5)) (p0 + 7)) p0 4 (p0 + 7)) (p0 + 8)) (p0 + 1) 0 (p0 + 8)) (p0 + 9)) (p0 + 1) 1 (p0 + 9)) (p0 + 10)) (p0 + 1) 2 (p0 + 10)) (p0 + 11)) (p0 + 1) 3 (p0 + 11)) (p0 + 12)) (p0 + 1) 4 (p0 + 12)) (p0 + 13)) (p0 + 14))) rfl (rI_eqZ (Z1 := (· = p0 + 14)) rfl (r_widen (k1 := 13) (s1 := 86) (by decide) (by decide) ?_))
  refine rI_aast (t := 7) (n0 := 9) (j := 5) C0 (zct_k (by omega) (hkk 1 (by decide +kernel))) (by decide) (by decide) rfl (zct_k (by omega) (hkk 13 (by decide +kernel))) rfl rfl rfl dX5_init_77 ?_
  refine rI_eqS (S1 := (zct kd (uR (uN (uR (uN (uR (uN (uR (uN (uR (uN (uR (uN (uR (uN (uR (rc_X6 (uN (uR (rc_X8 (uN (uR (uN (uR (uN R (p0 + 1)) p0 0 (p0 + 1)) (p0 + 2)) p0 1 (p0 + 2)) (p0 + 3)) (p0 + 3)) p0 2 (p0 + 3)) (p0 + 5)) (p0 + 5)) p0 3 (p0 + 5)) (p0 + 7)) p0 4 (p0 + 7)) (p0 + 8)) (p0 + 1) 0 (p0 + 8)) (p0 + 9)) (p0 + 1) 1 (p0 + 9)) (p0 + 10)) (p0 + 1) 2 (p0 + 10)) (p0 + 11)) (p0 + 1) 3 (p0 + 11)) (p0 + 12)) (p0 + 1) 4 (p0 + 12)) (p0 + 13)) (p0 + 1) 5 (p0 + 13)) (p0 + 14))) rfl ?_
  refine r_iinc (j := 0) (v := (6 : Int32)) (L' := [(1, .int (6 : Int32)), (0, .ref p0)]) C0 dX5_init_78 rfl (by decide) (by decide) rfl ?_
  refine r_goto C0 56 dX5_init_81 (by decide) ?_
  refine r_iload_n C0 dX5_init_56 rfl 0 rfl ?_
  refine r_aload_n C0 dX5_init_57 rfl 1 rfl ?_
  refine r_getR C0 (C := RX5) (T := TX5) cl_X5 (zct_k (by omega) (hkk 0 (by decide +kernel))) (k := 0) (by decide) qw_62 rfl (show (uR (uN (uR (uN (uR (uN (uR (uN (uR (uN (uR (uN (uR (uN (uR (rc_X6 (uN (uR (rc_X8 (uN (uR (uN (uR (uN R (p0 + 1)) p0 0 (p0 + 1)) (p0 + 2)) p0 1 (p0 + 2)) (p0 + 3)) (p0 + 3)) p0 2 (p0 + 3)) (p0 + 5)) (p0 + 5)) p0 3 (p0 + 5)) (p0 + 7)) p0 4 (p0 + 7)) (p0 + 8)) (p0 + 1) 0 (p0 + 8)) (p0 + 9)) (p0 + 1) 1 (p0 + 9)) (p0 + 10)) (p0 + 1) 2 (p0 + 10)) (p0 + 11)) (p0 + 1) 3 (p0 + 11)) (p0 + 12)) (p0 + 1) 4 (p0 + 12)) (p0 + 13)) (p0 + 1) 5 (p0 + 13)) p0 0 = some (p0 + 1) by simp (disch := omega) only [uR_eq, uR_ne, uN_ne, uR_nj, rc_X6_out, rc_X8_out]) dX5_init_58 ?_
  refine r_alen (v := 9) C0 (zct_k (by omega) (hkk 1 (by decide +kernel))) (by decide) rfl dX5_init_61 ?_
  refine r_icmp_ge_f C0 84 dX5_init_62 (by decide) (by decide) ?_
  refine r_aload_n C0 dX5_init_65 rfl 1 rfl ?_
  refine r_getR C0 (C := RX5) (T := TX5) cl_X5 (zct_k (by omega) (hkk 0 (by decide +kernel))) (k := 0) (by decide) qw_62 rfl (show (uR (uN (uR (uN (uR (uN (uR (uN (uR (uN (uR (uN (uR (uN (uR (rc_X6 (uN (uR (rc_X8 (uN (uR (uN (uR (uN R (p0 + 1)) p0 0 (p0 + 1)) (p0 + 2)) p0 1 (p0 + 2)) (p0 + 3)) (p0 + 3)) p0 2 (p0 + 3)) (p0 + 5)) (p0 + 5)) p0 3 (p0 + 5)) (p0 + 7)) p0 4 (p0 + 7)) (p0 + 8)) (p0 + 1) 0 (p0 + 8)) (p0 + 9)) (p0 + 1) 1 (p0 + 9)) (p0 + 10)) (p0 + 1) 2 (p0 + 10)) (p0 + 11)) (p0 + 1) 3 (p0 + 11)) (p0 + 12)) (p0 + 1) 4 (p0 + 12)) (p0 + 13)) (p0 + 1) 5 (p0 + 13)) p0 0 = some (p0 + 1) by simp (disch := omega) only [uR_eq, uR_ne, uN_ne, uR_nj, rc_X6_out, rc_X8_out]) dX5_init_66 ?_
  refine r_iload_n C0 dX5_init_69 rfl 0 rfl ?_
  refine rI_new C0 cl_X9 (hkk 14 (by decide +kernel)) qw_652 qw_671 qw_64 df_X9 hf (Nat.le_of_ble_eq_true rfl) (Nat.le_of_ble_eq_true rfl) dX5_init_70 (fun M21 eM21 hf => ?_)
  refine rI_eqS (S1 := (zct kd (uN (uR (uN (uR (uN (uR (uN (uR (uN (uR (uN (uR (uN (uR (uN (uR (rc_X6 (uN (uR (rc_X8 (uN (uR (uN (uR (uN R (p0 + 1)) p0 0 (p0 + 1)) (p0 + 2)) p0 1 (p0 + 2)) (p0 + 3)) (p0 + 3)) p0 2 (p0 + 3)) (p0 + 5)) (p0 + 5)) p0 3 (p0 + 5)) (p0 + 7)) p0 4 (p0 + 7)) (p0 + 8)) (p0 + 1) 0 (p0 + 8)) (p0 + 9)) (p0 + 1) 1 (p0 + 9)) (p0 + 10)) (p0 + 1) 2 (p0 + 10)) (p0 + 11)) (p0 + 1) 3 (p0 + 11)) (p0 + 12)) (p0 + 1) 4 (p0 + 12)) (p0 + 13)) (p0 + 1) 5 (p0 + 13)) (p0 + 14)) (p0 + 15))) rfl (rI_eqZ (Z1 := (· = p0 + 15)) rfl (r_widen (k1 := 14) (s1 := 90) (by decide) (by decide) ?_))
  refine r_dup C0 dX5_init_73 rfl ?_
  refine rI_call C0 hf vs_155 (fun hl r22 hr22 => c_X9_init hl F (p0 + 14) (kk_sub hkk (b := 14) (by decide) (by decide +kernel)) (uN (uR (uN (uR (uN (uR (uN (uR (uN (uR (uN (uR (uN (uR (uN (uR (rc_X6 (uN (uR (rc_X8 (uN (uR (uN (uR (uN R (p0 + 1)) p0 0 (p0 + 1)) (p0 + 2)) p0 1 (p0 + 2)) (p0 + 3)) (p0 + 3)) p0 2 (p0 + 3)) (p0 + 5)) (p0 + 5)) p0 3 (p0 + 5)) (p0 + 7)) p0 4 (p0 + 7)) (p0 + 8)) (p0 + 1) 0 (p0 + 8)) (p0 + 9)) (p0 + 1) 1 (p0 + 9)) (p0 + 10)) (p0 + 1) 2 (p0 + 10)) (p0 + 11)) (p0 + 1) 3 (p0 + 11)) (p0 + 12)) (p0 + 1) 4 (p0 + 12)) (p0 + 13)) (p0 + 1) 5 (p0 + 13)) (p0 + 14)) M21 r22 hr22) (Nat.le_of_ble_eq_true rfl) dX5_init_74 (zrm_ok rfl) (fun r22 hr22 hf => ?_)
  refine rI_eqS (S1 := (zct kd (uN (uR (uN (uR (uN (uR (uN (uR (uN (uR (uN (uR (uN (uR (uN (uR (rc_X6 (uN (uR (rc_X8 (uN (uR (uN (uR (uN R (p0 + 1)) p0 0 (p0 + 1)) (p0 + 2)) p0 1 (p0 + 2)) (p0 + 3)) (p0 + 3)) p0 2 (p0 + 3)) (p0 + 5)) (p0 + 5)) p0 3 (p0 + 5)) (p0 + 7)) p0 4 (p0 + 7)) (p0 + 8)) (p0 + 1) 0 (p0 + 8)) (p0 + 9)) (p0 + 1) 1 (p0 + 9)) (p0 + 10)) (p0 + 1) 2 (p0 + 10)) (p0 + 11)) (p0 + 1) 3 (p0 + 11)) (p0 + 12)) (p0 + 1) 4 (p0 + 12)) (p0 + 13)) (p0 + 1) 5 (p0 + 13)) (p0 + 14)) (p0 + 15))) rfl (rI_eqZ (Z1 := (· = p0 + 15)) rfl (r_widen (k1 := 14) (s1 := 90) (by decide) (by decide) ?_))
  refine rI_aast (t := 7) (n0 := 9) (j := 6) C0 (zct_k (by omega) (hkk 1 (by decide +kernel))) (by decide) (by decide) rfl (zct_k (by omega) (hkk 14 (by decide +kernel))) rfl rfl rfl dX5_init_77 ?_
  refine rI_eqS (S1 := (zct kd (uR (uN (uR (uN (uR (uN (uR (uN (uR (uN (uR (uN (uR (uN (uR (uN (uR (rc_X6 (uN (uR (rc_X8 (uN (uR (uN (uR (uN R (p0 + 1)) p0 0 (p0 + 1)) (p0 + 2)) p0 1 (p0 + 2)) (p0 + 3)) (p0 + 3)) p0 2 (p0 + 3)) (p0 + 5)) (p0 + 5)) p0 3 (p0 + 5)) (p0 + 7)) p0 4 (p0 + 7)) (p0 + 8)) (p0 + 1) 0 (p0 + 8)) (p0 + 9)) (p0 + 1) 1 (p0 + 9)) (p0 + 10)) (p0 + 1) 2 (p0 + 10)) (p0 + 11)) (p0 + 1) 3 (p0 + 11)) (p0 + 12)) (p0 + 1) 4 (p0 + 12)) (p0 + 13)) (p0 + 1) 5 (p0 + 13)) (p0 + 14)) (p0 + 1) 6 (p0 + 14)) (p0 + 15))) rfl ?_
  refine r_iinc (j := 0) (v := (7 : Int32)) (L' := [(1, .int (7 : Int32)), (0, .ref p0)]) C0 dX5_init_78 rfl (by decide) (by decide) rfl ?_
  refine r_goto C0 56 dX5_init_81 (by decide) ?_
  refine r_iload_n C0 dX5_init_56 rfl 0 rfl ?_
  refine r_aload_n C0 dX5_init_57 rfl 1 rfl ?_
  refine r_getR C0 (C := RX5) (T := TX5) cl_X5 (zct_k (by omega) (hkk 0 (by decide +kernel))) (k := 0) (by decide) qw_62 rfl (show (uR (uN (uR (uN (uR (uN (uR (uN (uR (uN (uR (uN (uR (uN (uR (uN (uR (rc_X6 (uN (uR (rc_X8 (uN (uR (uN (uR (uN R (p0 + 1)) p0 0 (p0 + 1)) (p0 + 2)) p0 1 (p0 + 2)) (p0 + 3)) (p0 + 3)) p0 2 (p0 + 3)) (p0 + 5)) (p0 + 5)) p0 3 (p0 + 5)) (p0 + 7)) p0 4 (p0 + 7)) (p0 + 8)) (p0 + 1) 0 (p0 + 8)) (p0 + 9)) (p0 + 1) 1 (p0 + 9)) (p0 + 10)) (p0 + 1) 2 (p0 + 10)) (p0 + 11)) (p0 + 1) 3 (p0 + 11)) (p0 + 12)) (p0 + 1) 4 (p0 + 12)) (p0 + 13)) (p0 + 1) 5 (p0 + 13)) (p0 + 14)) (p0 + 1) 6 (p0 + 14)) p0 0 = some (p0 + 1) by simp (disch := omega) only [uR_eq, uR_ne, uN_ne, uR_nj, rc_X6_out, rc_X8_out]) dX5_init_58 ?_
  refine r_alen (v := 9) C0 (zct_k (by omega) (hkk 1 (by decide +kernel))) (by decide) rfl dX5_init_61 ?_
  refine r_icmp_ge_f C0 84 dX5_init_62 (by decide) (by decide) ?_
  refine r_aload_n C0 dX5_init_65 rfl 1 rfl ?_
  refine r_getR C0 (C := RX5) (T := TX5) cl_X5 (zct_k (by omega) (hkk 0 (by decide +kernel))) (k := 0) (by decide) qw_62 rfl (show (uR (uN (uR (uN (uR (uN (uR (uN (uR (uN (uR (uN (uR (uN (uR (uN (uR (rc_X6 (uN (uR (rc_X8 (uN (uR (uN (uR (uN R (p0 + 1)) p0 0 (p0 + 1)) (p0 + 2)) p0 1 (p0 + 2)) (p0 + 3)) (p0 + 3)) p0 2 (p0 + 3)) (p0 + 5)) (p0 + 5)) p0 3 (p0 + 5)) (p0 + 7)) p0 4 (p0 + 7)) (p0 + 8)) (p0 + 1) 0 (p0 + 8)) (p0 + 9)) (p0 + 1) 1 (p0 + 9)) (p0 + 10)) (p0 + 1) 2 (p0 + 10)) (p0 + 11)) (p0 + 1) 3 (p0 + 11)) (p0 + 12)) (p0 + 1) 4 (p0 + 12)) (p0 + 13)) (p0 + 1) 5 (p0 + 13)) (p0 + 14)) (p0 + 1) 6 (p0 + 14)) p0 0 = some (p0 + 1) by simp (disch := omega) only [uR_eq, uR_ne, uN_ne, uR_nj, rc_X6_out, rc_X8_out]) dX5_init_66 ?_
  refine r_iload_n C0 dX5_init_69 rfl 0 rfl ?_
  refine rI_new C0 cl_X9 (hkk 15 (by decide +kernel)) qw_652 qw_671 qw_64 df_X9 hf (Nat.le_of_ble_eq_true rfl) (Nat.le_of_ble_eq_true rfl) dX5_init_70 (fun M23 eM23 hf => ?_)
  refine rI_eqS (S1 := (zct kd (uN (uR (uN (uR (uN (uR (uN (uR (uN (uR (uN (uR (uN (uR (uN (uR (uN (uR (rc_X6 (uN (uR (rc_X8 (uN (uR (uN (uR (uN R (p0 + 1)) p0 0 (p0 + 1)) (p0 + 2)) p0 1 (p0 + 2)) (p0 + 3)) (p0 + 3)) p0 2 (p0 + 3)) (p0 + 5)) (p0 + 5)) p0 3 (p0 + 5)) (p0 + 7)) p0 4 (p0 + 7)) (p0 + 8)) (p0 + 1) 0 (p0 + 8)) (p0 + 9)) (p0 + 1) 1 (p0 + 9)) (p0 + 10)) (p0 + 1) 2 (p0 + 10)) (p0 + 11)) (p0 + 1) 3 (p0 + 11)) (p0 + 12)) (p0 + 1) 4 (p0 + 12)) (p0 + 13)) (p0 + 1) 5 (p0 + 13)) (p0 + 14)) (p0 + 1) 6 (p0 + 14)) (p0 + 15)) (p0 + 16))) rfl (rI_eqZ (Z1 := (· = p0 + 16)) rfl (r_widen (k1 := 15) (s1 := 94) (by decide) (by decide) ?_))
  refine r_dup C0 dX5_init_73 rfl ?_
  refine rI_call C0 hf vs_155 (fun hl r24 hr24 => c_X9_init hl F (p0 + 15) (kk_sub hkk (b := 15) (by decide) (by decide +kernel)) (uN (uR (uN (uR (uN (uR (uN (uR (uN (uR (uN (uR (uN (uR (uN (uR (uN (uR (rc_X6 (uN (uR (rc_X8 (uN (uR (uN (uR (uN R (p0 + 1)) p0 0 (p0 + 1)) (p0 + 2)) p0 1 (p0 + 2)) (p0 + 3)) (p0 + 3)) p0 2 (p0 + 3)) (p0 + 5)) (p0 + 5)) p0 3 (p0 + 5)) (p0 + 7)) p0 4 (p0 + 7)) (p0 + 8)) (p0 + 1) 0 (p0 + 8)) (p0 + 9)) (p0 + 1) 1 (p0 + 9)) (p0 + 10)) (p0 + 1) 2 (p0 + 10)) (p0 + 11)) (p0 + 1) 3 (p0 + 11)) (p0 + 12)) (p0 + 1) 4 (p0 + 12)) (p0 + 13)) (p0 + 1) 5 (p0 + 13)) (p0 + 14)) (p0 + 1) 6 (p0 + 14)) (p0 + 15)) M23 r24 hr24) (Nat.le_of_ble_eq_true rfl) dX5_init_74 (zrm_ok rfl) (fun r24 hr24 hf => ?_)
  refine rI_eqS (S1 := (zct kd (uN (uR (uN (uR (uN (uR (uN (uR (uN (uR (uN (uR (uN (uR (uN (uR (uN (uR (rc_X6 (uN (uR (rc_X8 (uN (uR (uN (uR (uN R (p0 + 1)) p0 0 (p0 + 1)) (p0 + 2)) p0 1 (p0 + 2)) (p0 + 3)) (p0 + 3)) p0 2 (p0 + 3)) (p0 + 5)) (p0 + 5)) p0 3 (p0 + 5)) (p0 + 7)) p0 4 (p0 + 7)) (p0 + 8)) (p0 + 1) 0 (p0 + 8)) (p0 + 9)) (p0 + 1) 1 (p0 + 9)) (p0 + 10)) (p0 + 1) 2 (p0 + 10)) (p0 + 11)) (p0 + 1) 3 (p0 + 11)) (p0 + 12)) (p0 + 1) 4 (p0 + 12)) (p0 + 13)) (p0 + 1) 5 (p0 + 13)) (p0 + 14)) (p0 + 1) 6 (p0 + 14)) (p0 + 15)) (p0 + 16))) rfl (rI_eqZ (Z1 := (· = p0 + 16)) rfl (r_widen (k1 := 15) (s1 := 94) (by decide) (by decide) ?_))
  refine rI_aast (t := 7) (n0 := 9) (j := 7) C0 (zct_k (by omega) (hkk 1 (by decide +kernel))) (by decide) (by decide) rfl (zct_k (by omega) (hkk 15 (by decide +kernel))) rfl rfl rfl dX5_init_77 ?_
  refine rI_eqS (S1 := (zct kd (uR (uN (uR (uN (uR (uN (uR (uN (uR (uN (uR (uN (uR (uN (uR (uN (uR (uN (uR (rc_X6 (uN (uR (rc_X8 (uN (uR (uN (uR (uN R (p0 + 1)) p0 0 (p0 + 1)) (p0 + 2)) p0 1 (p0 + 2)) (p0 + 3)) (p0 + 3)) p0 2 (p0 + 3)) (p0 + 5)) (p0 + 5)) p0 3 (p0 + 5)) (p0 + 7)) p0 4 (p0 + 7)) (p0 + 8)) (p0 + 1) 0 (p0 + 8)) (p0 + 9)) (p0 + 1) 1 (p0 + 9)) (p0 + 10)) (p0 + 1) 2 (p0 + 10)) (p0 + 11)) (p0 + 1) 3 (p0 + 11)) (p0 + 12)) (p0 + 1) 4 (p0 + 12)) (p0 + 13)) (p0 + 1) 5 (p0 + 13)) (p0 + 14)) (p0 + 1) 6 (p0 + 14)) (p0 + 15)) (p0 + 1) 7 (p0 + 15)) (p0 + 16))) rfl ?_
  refine r_iinc (j := 0) (v := (8 : Int32)) (L' := [(1, .int (8 : Int32)), (0, .ref p0)]) C0 dX5_init_78 rfl (by decide) (by decide) rfl ?_
  refine r_goto C0 56 dX5_init_81 (by decide) ?_
  refine r_iload_n C0 dX5_init_56 rfl 0 rfl ?_
  refine r_aload_n C0 dX5_init_57 rfl 1 rfl ?_
  refine r_getR C0 (C := RX5) (T := TX5) cl_X5 (zct_k (by omega) (hkk 0 (by decide +kernel))) (k := 0) (by decide) qw_62 rfl (show (uR (uN (uR (uN (uR (uN (uR (uN (uR (uN (uR (uN (uR (uN (uR (uN (uR (uN (uR (rc_X6 (uN (uR (rc_X8 (uN (uR (uN (uR (uN R (p0 + 1)) p0 0 (p0 + 1)) (p0 + 2)) p0 1 (p0 + 2)) (p0 + 3)) (p0 + 3)) p0 2 (p0 + 3)) (p0 + 5)) (p0 + 5)) p0 3 (p0 + 5)) (p0 + 7)) p0 4 (p0 + 7)) (p0 + 8)) (p0 + 1) 0 (p0 + 8)) (p0 + 9)) (p0 + 1) 1 (p0 + 9)) (p0 + 10)) (p0 + 1) 2 (p0 + 10)) (p0 + 11)) (p0 + 1) 3 (p0 + 11)) (p0 + 12)) (p0 + 1) 4 (p0 + 12)) (p0 + 13)) (p0 + 1) 5 (p0 + 13)) (p0 + 14)) (p0 + 1) 6 (p0 + 14)) (p0 + 15)) (p0 + 1) 7 (p0 + 15)) p0 0 = some (p0 + 1) by simp (disch := omega) only [uR_eq, uR_ne, uN_ne, uR_nj, rc_X6_out, rc_X8_out]) dX5_init_58 ?_
  refine r_alen (v := 9) C0 (zct_k (by omega) (hkk 1 (by decide +kernel))) (by decide) rfl dX5_init_61 ?_
  refine r_icmp_ge_f C0 84 dX5_init_62 (by decide) (by decide) ?_
  refine r_aload_n C0 dX5_init_65 rfl 1 rfl ?_
  refine r_getR C0 (C := RX5) (T := TX5) cl_X5 (zct_k (by omega) (hkk 0 (by decide +kernel))) (k := 0) (by decide) qw_62 rfl (show (uR (uN (uR (uN (uR (uN (uR (uN (uR (uN (uR (uN (uR (uN (uR (uN (uR (uN (uR (rc_X6 (uN (uR (rc_X8 (uN (uR (uN (uR (uN R (p0 + 1)) p0 0 (p0 + 1)) (p0 + 2)) p0 1 (p0 + 2)) (p0 + 3)) (p0 + 3)) p0 2 (p0 + 3)) (p0 + 5)) (p0 + 5)) p0 3 (p0 + 5)) (p0 + 7)) p0 4 (p0 + 7)) (p0 + 8)) (p0 + 1) 0 (p0 + 8)) (p0 + 9)) (p0 + 1) 1 (p0 + 9)) (p0 + 10)) (p0 + 1) 2 (p0 + 10)) (p0 + 11)) (p0 + 1) 3 (p0 + 11)) (p0 + 12)) (p0 + 1) 4 (p0 + 12)) (p0 + 13)) (p0 + 1) 5 (p0 + 13)) (p0 + 14)) (p0 + 1) 6 (p0 + 14)) (p0 + 15)) (p0 + 1) 7 (p0 + 15)) p0 0 = some (p0 + 1) by simp (disch := omega) only [uR_eq, uR_ne, uN_ne, uR_nj, rc_X6_out, rc_X8_out]) dX5_init_66 ?_
  refine r_iload_n C0 dX5_init_69 rfl 0 rfl ?_
  refine rI_new C0 cl_X9 (hkk 16 (by decide +kernel)) qw_652 qw_671 qw_64 df_X9 hf (Nat.le_of_ble_eq_true rfl) (Nat.le_of_ble_eq_true rfl) dX5_init_70 (fun M25 eM25 hf => ?_)
  refine rI_eqS (S1 := (zct kd (uN (uR (uN (uR (uN (uR (uN (uR (uN (uR (uN (uR (uN (uR (uN (uR (uN (uR (uN (uR (rc_X6 (uN (uR (rc_X8 (uN (uR (uN (uR (uN R (p0 + 1)) p0 0 (p0 + 1)) (p0 + 2)) p0 1 (p0 + 2)) (p0 + 3)) (p0 + 3)) p0 2 (p0 + 3)) (p0 + 5)) (p0 + 5)) p0 3 (p0 + 5)) (p0 + 7)) p0 4 (p0 + 7)) (p0 + 8)) (p0 + 1) 0 (p0 + 8)) (p0 + 9)) (p0 + 1) 1 (p0 + 9)) (p0 + 10)) (p0 + 1) 2 (p0 + 10)) (p0 + 11)) (p0 + 1) 3 (p0 + 11)) (p0 + 12)) (p0 + 1) 4 (p0 + 12)) (p0 + 13)) (p0 + 1) 5 (p0 + 13)) (p0 + 14)) (p0 + 1) 6 (p0 + 14)) (p0 + 15)) (p0 + 1) 7 (p0 + 15)) (p0 + 16)) (p0 + 17))) rfl (rI_eqZ (Z1 := (· = p0 + 17)) rfl (r_widen (k1 := 16) (s1 := 98) (by decide) (by decide) ?_))
  refine r_dup C0 dX5_init_73 rfl ?_
  refine rI_call C0 hf vs_155 (fun hl r26 hr26 => c_X9_init hl F (p0 + 16) (kk_sub hkk (b := 16) (by decide) (by decide +kernel)) (uN (uR (uN (uR (uN (uR (uN (uR (uN (uR (uN (uR (uN (uR (uN (uR (uN (uR (uN (uR (rc_X6 (uN (uR (rc_X8 (uN (uR (uN (uR (uN R (p0 + 1)) p0 0 (p0 + 1)) (p0 + 2)) p0 1 (p0 + 2)) (p0 + 3)) (p0 + 3)) p0 2 (p0 + 3)) (p0 + 5)) (p0 + 5)) p0 3 (p0 + 5)) (p0 + 7)) p0 4 (p0 + 7)) (p0 + 8)) (p0 + 1) 0 (p0 + 8)) (p0 + 9)) (p0 + 1) 1 (p0 + 9)) (p0 + 10)) (p0 + 1) 2 (p0 + 10)) (p0 + 11)) (p0 + 1) 3 (p0 + 11)) (p0 + 12)) (p0 + 1) 4 (p0 + 12)) (p0 + 13)) (p0 + 1) 5 (p0 + 13)) (p0 + 14)) (p0 + 1) 6 (p0 + 14)) (p0 + 15)) (p0 + 1) 7 (p0 + 15)) (p0 + 16)) M25 r26 hr26) (Nat.le_of_ble_eq_true rfl) dX5_init_74 (zrm_ok rfl) (fun r26 hr26 hf => ?_)
  refine rI_eqS (S1 := (zct kd (uN (uR (uN (uR (uN (uR (uN (uR (uN (uR (uN (uR (uN (uR (uN (uR (uN (uR (uN (uR (rc_X6 (uN (uR (rc_X8 (uN (uR (uN (uR (uN R (p0 + 1)) p0 0 (p0 + 1)) (p0 + 2)) p0 1 (p0 + 2)) (p0 + 3)) (p0 + 3)) p0 2 (p0 + 3)) (p0 + 5)) (p0 + 5)) p0 3 (p0 + 5)) (p0 + 7)) p0 4 (p0 + 7)) (p0 + 8)) (p0 + 1) 0 (p0 + 8)) (p0 + 9)) (p0 + 1) 1 (p0 + 9)) (p0 + 10)) (p0 + 1) 2 (p0 + 10)) (p0 + 11)) (p0 + 1) 3 (p0 + 11)) (p0 + 12)) (p0 + 1) 4 (p0 + 12)) (p0 + 13)) (p0 + 1) 5 (p0 + 13)) (p0 + 14)) (p0 + 1) 6 (p0 + 14)) (p0 + 15)) (p0 + 1) 7 (p0 + 15)) (p0 + 16)) (p0 + 17))) rfl (rI_eqZ (Z1 := (· = p0 + 17)) rfl (r_widen (k1 := 16) (s1 := 98) (by decide) (by decide) ?_))
  refine rI_aast (t := 7) (n0 := 9) (j := 8) C0 (zct_k (by omega) (hkk 1 (by decide +kernel))) (by decide) (by decide) rfl (zct_k (by omega) (hkk 16 (by decide +kernel))) rfl rfl rfl dX5_init_77 ?_
  refine rI_eqS (S1 := (zct kd (uR (uN (uR (uN (uR (uN (uR (uN (uR (uN (uR (uN (uR (uN (uR (uN (uR (uN (uR (uN (uR (rc_X6 (uN (uR (rc_X8 (uN (uR (uN (uR (uN R (p0 + 1)) p0 0 (p0 + 1)) (p0 + 2)) p0 1 (p0 + 2)) (p0 + 3)) (p0 + 3)) p0 2 (p0 + 3)) (p0 + 5)) (p0 + 5)) p0 3 (p0 + 5)) (p0 + 7)) p0 4 (p0 + 7)) (p0 + 8)) (p0 + 1) 0 (p0 + 8)) (p0 + 9)) (p0 + 1) 1 (p0 + 9)) (p0 + 10)) (p0 + 1) 2 (p0 + 10)) (p0 + 11)) (p0 + 1) 3 (p0 + 11)) (p0 + 12)) (p0 + 1) 4 (p0 + 12)) (p0 + 13)) (p0 + 1) 5 (p0 + 13)) (p0 + 14)) (p0 + 1) 6 (p0 + 14)) (p0 + 15)) (p0 + 1) 7 (p0 + 15)) (p0 + 16)) (p0 + 1) 8 (p0 + 16)) (p0 + 17))) rfl ?_
  refine r_iinc (j := 0) (v := (9 : Int32)) (L' := [(1, .int (9 : Int32)), (0, .ref p0)]) C0 dX5_init_78 rfl (by decide) (by decide) rfl ?_
  refine r_goto C0 56 dX5_init_81 (by decide) ?_
  refine r_iload_n C0 dX5_init_56 rfl 0 rfl ?_
  refine r_aload_n C0 dX5_init_57 rfl 1 rfl ?_
  refine r_getR C0 (C := RX5) (T := TX5) cl_X5 (zct_k (by omega) (hkk 0 (by decide +kernel))) (k := 0) (by decide) qw_62 rfl (show (uR (uN (uR (uN (uR (uN (uR (uN (uR (uN (uR (uN (uR (uN (uR (uN (uR (uN (uR (uN (uR (rc_X6 (uN (uR (rc_X8 (uN (uR (uN (uR (uN R (p0 + 1)) p0 0 (p0 + 1)) (p0 + 2)) p0 1 (p0 + 2)) (p0 + 3)) (p0 + 3)) p0 2 (p0 + 3)) (p0 + 5)) (p0 + 5)) p0 3 (p0 + 5)) (p0 + 7)) p0 4 (p0 + 7)) (p0 + 8)) (p0 + 1) 0 (p0 + 8)) (p0 + 9)) (p0 + 1) 1 (p0 + 9)) (p0 + 10)) (p0 + 1) 2 (p0 + 10)) (p0 + 11)) (p0 + 1) 3 (p0 + 11)) (p0 + 12)) (p0 + 1) 4 (p0 + 12)) (p0 + 13)) (p0 + 1) 5 (p0 + 13)) (p0 + 14)) (p0 + 1) 6 (p0 + 14)) (p0 + 15)) (p0 + 1) 7 (p0 + 15)) (p0 + 16)) (p0 + 1) 8 (p0 + 16)) p0 0 = some (p0 + 1) by simp (disch := omega) only [uR_eq, uR_ne, uN_ne, uR_nj, rc_X6_out, rc_X8_out]) dX5_init_58 ?_
  refine r_alen (v := 9) C0 (zct_k (by omega) (hkk 1 (by decide +kernel))) (by decide) rfl dX5_init_61 ?_
  refine r_icmp_ge_t C0 84 dX5_init_62 (by decide) (by decide) ?_
  refine r_iconst (v := 0) C0 dX5_init_84 (by decide) ?_
  refine r_istore_n (L' := [(1, .int (0 : Int32)), (0, .ref p0)]) C0 dX5_init_85 rfl (by decide) rfl ?_
  refine r_iload_n C0 dX5_init_86 rfl 0 rfl ?_
  refine r_aload_n C0 dX5_init_87 rfl 1 rfl ?_
  refine r_getR C0 (C := RX5) (T := TX5) cl_X5 (zct_k (by omega) (hkk 0 (by decide +kernel))) (k := 1) (by decide) qw_56 rfl (show (uR (uN (uR (uN (uR (uN (uR (uN (uR (uN (uR (uN (uR (uN (uR (uN (uR (uN (uR (uN (uR (rc_X6 (uN (uR (rc_X8 (uN (uR (uN (uR (uN R (p0 + 1)) p0 0 (p0 + 1)) (p0 + 2)) p0 1 (p0 + 2)) (p0 + 3)) (p0 + 3)) p0 2 (p0 + 3)) (p0 + 5)) (p0 + 5)) p0 3 (p0 + 5)) (p0 + 7)) p0 4 (p0 + 7)) (p0 + 8)) (p0 + 1) 0 (p0 + 8)) (p0 + 9)) (p0 + 1) 1 (p0 + 9)) (p0 + 10)) (p0 + 1) 2 (p0 + 10)) (p0 + 11)) (p0 + 1) 3 (p0 + 11)) (p0 + 12)) (p0 + 1) 4 (p0 + 12)) (p0 + 13)) (p0 + 1) 5 (p0 + 13)) (p0 + 14)) (p0 + 1) 6 (p0 + 14)) (p0 + 15)) (p0 + 1) 7 (p0 + 15)) (p0 + 16)) (p0 + 1) 8 (p0 + 16)) p0 1 = some (p0 + 2) by simp (disch := omega) only [uR_eq, uR_ne, uN_ne, uR_nj, rc_X6_out, rc_X8_out]) dX5_init_88 ?_
  refine r_alen (v := 4) C0 (zct_k (by omega) (hkk 2 (by decide +kernel))) (by decide) rfl dX5_init_91 ?_
  refine r_icmp_ge_f C0 114 dX5_init_92 (by decide) (by decide) ?_
  refine r_aload_n C0 dX5_init_95 rfl 1 rfl ?_
  refine r_getR C0 (C := RX5) (T := TX5) cl_X5 (zct_k (by omega) (hkk 0 (by decide +kernel))) (k := 1) (by decide) qw_56 rfl (show (uR (uN (uR (uN (uR (uN (uR (uN (uR (uN (uR (uN (uR (uN (uR (uN (uR (uN (uR (uN (uR (rc_X6 (uN (uR (rc_X8 (uN (uR (uN (uR (uN R (p0 + 1)) p0 0 (p0 + 1)) (p0 + 2)) p0 1 (p0 + 2)) (p0 + 3)) (p0 + 3)) p0 2 (p0 + 3)) (p0 + 5)) (p0 + 5)) p0 3 (p0 + 5)) (p0 + 7)) p0 4 (p0 + 7)) (p0 + 8)) (p0 + 1) 0 (p0 + 8)) (p0 + 9)) (p0 + 1) 1 (p0 + 9)) (p0 + 10)) (p0 + 1) 2 (p0 + 10)) (p0 + 11)) (p0 + 1) 3 (p0 + 11)) (p0 + 12)) (p0 + 1) 4 (p0 + 12)) (p0 + 13)) (p0 + 1) 5 (p0 + 13)) (p0 + 14)) (p0 + 1) 6 (p0 + 14)) (p0 + 15)) (p0 + 1) 7 (p0 + 15)) (p0 + 16)) (p0 + 1) 8 (p0 + 16)) p0 1 = some (p0 + 2) by simp (disch := omega) only [uR_eq, uR_ne, uN_ne, uR_nj, rc_X6_out, rc_X8_out]) dX5_init_96 ?_
  refine r_iload_n C0 dX5_init_99 rfl 0 rfl ?_
  refine rI_new C0 cl_X3 (hkk 17 (by decide +kernel)) qw_654 qw_675 qw_58 df_X3 hf (Nat.le_of_ble_eq_true rfl) (Nat.le_of_ble_eq_true rfl) dX5_init_100 (fun M27 eM27 hf => ?_)
  refine rI_eqS (S1 := (zct kd (uN (uR (uN (uR (uN (uR (uN (uR (uN (uR (uN (uR (uN (uR (uN (uR (uN (uR (uN (uR (uN (uR (rc_X6 (uN (uR (rc_X8 (uN (uR (uN (uR (uN R (p0 + 1)) p0 0 (p0 + 1)) (p0 + 2)) p0 1 (p0 + 2)) (p0 + 3)) (p0 + 3)) p0 2 (p0 + 3)) (p0 + 5)) (p0 + 5)) p0 3 (p0 + 5)) (p0 + 7)) p0 4 (p0 + 7)) (p0 + 8)) (p0 + 1) 0 (p0 + 8)) (p0 + 9)) (p0 + 1) 1 (p0 + 9)) (p0 + 10)) (p0 + 1) 2 (p0 + 10)) (p0 + 11)) (p0 + 1) 3 (p0 + 11)) (p0 + 12)) (p0 + 1) 4 (p0 + 12)) (p0 + 13)) (p0 + 1) 5 (p0 + 13)) (p0 + 14)) (p0 + 1) 6 (p0 + 14)) (p0 + 15)) (p0 + 1) 7 (p0 + 15)) (p0 + 16)) (p0 + 1) 8 (p0 + 16)) (p0 + 17)) (p0 + 18))) rfl (rI_eqZ (Z1 := (· = p0 + 18)) rfl (r_widen (k1 := 17) (s1 := 106) (by decide) (by decide) ?_))
  refine r_dup C0 dX5_init_103 rfl ?_
  refine rI_call C0 hf vs_156 (fun hl r28 hr28 => c_X3_init hl F (p0 + 17) (kk_sub hkk (b := 17) (by decide) (by decide +kernel)) (uN (uR (uN (uR (uN (uR (uN (uR (uN (uR (uN (uR (uN (uR (uN (uR (uN (uR (uN (uR (uN (uR (rc_X6 (uN (uR (rc_X8 (uN (uR (uN (uR (uN R (p0 + 1)) p0 0 (p0 + 1)) (p0 + 2)) p0 1 (p0 + 2)) (p0 + 3)) (p0 + 3)) p0 2 (p0 + 3)) (p0 + 5)) (p0 + 5)) p0 3 (p0 + 5)) (p0 + 7)) p0 4 (p0 + 7)) (p0 + 8)) (p0 + 1) 0 (p0 + 8)) (p0 + 9)) (p0 + 1) 1 (p0 + 9)) (p0 + 10)) (p0 + 1) 2 (p0 + 10)) (p0 + 11)) (p0 + 1) 3 (p0 + 11)) (p0 + 12)) (p0 + 1) 4 (p0 + 12)) (p0 + 13)) (p0 + 1) 5 (p0 + 13)) (p0 + 14)) (p0 + 1) 6 (p0 + 14)) (p0 + 15)) (p0 + 1) 7 (p0 + 15)) (p0 + 16)) (p0 + 1) 8 (p0 + 16)) (p0 + 17)) M27 r28 hr28) (Nat.le_of_ble_eq_true rfl) dX5_init_104 (zrm_ok rfl) (fun r28 hr28 hf => ?_)
  refine rI_eqS (S1 := (zct kd (uN (uR (uN (uR (uN (uR (uN (uR (uN (uR (uN (uR (uN (uR (uN (uR (uN (uR (uN (uR (uN (uR (rc_X6 (uN (uR (rc_X8 (uN (uR (uN (uR (uN R (p0 + 1)) p0 0 (p0 + 1)) (p0 + 2)) p0 1 (p0 + 2)) (p0 + 3)) (p0 + 3)) p0 2 (p0 + 3)) (p0 + 5)) (p0 + 5)) p0 3 (p0 + 5)) (p0 + 7)) p0 4 (p0 + 7)) (p0 + 8)) (p0 + 1) 0 (p0 + 8)) (p0 + 9)) (p0 + 1) 1 (p0 + 9)) (p0 + 10)) (p0 + 1) 2 (p0 + 10)) (p0 + 11)) (p0 + 1) 3 (p0 + 11)) (p0 + 12)) (p0 + 1) 4 (p0 + 12)) (p0 + 13)) (p0 + 1) 5 (p0 + 13)) (p0 + 14)) (p0 + 1) 6 (p0 + 14)) (p0 + 15)) (p0 + 1) 7 (p0 + 15)) (p0 + 16)) (p0 + 1) 8 (p0 + 16)) (p0 + 17)) (p0 + 18))) rfl (rI_eqZ (Z1 := (· = p0 + 18)) rfl (r_widen (k1 := 17) (s1 := 106) (by decide) (by decide) ?_))
  refine rI_aast (t := 4) (n0 := 4) (j := 0) C0 (zct_k (by omega) (hkk 2 (by decide +kernel))) (by decide) (by decide) rfl (zct_k (by omega) (hkk 17 (by decide +kernel))) rfl rfl rfl dX5_init_107 ?_
  refine rI_eqS (S1 := (zct kd (uR (uN (uR (uN (uR (uN (uR (uN (uR (uN (uR (uN (uR (uN (uR (uN (uR (uN (uR (uN (uR (uN (uR (rc_X6 (uN (uR (rc_X8 (uN (uR (uN (uR (uN R (p0 + 1)) p0 0 (p0 + 1)) (p0 + 2)) p0 1 (p0 + 2)) (p0 + 3)) (p0 + 3)) p0 2 (p0 + 3)) (p0 + 5)) (p0 + 5)) p0 3 (p0 + 5)) (p0 + 7)) p0 4 (p0 + 7)) (p0 + 8)) (p0 + 1) 0 (p0 + 8)) (p0 + 9)) (p0 + 1) 1 (p0 + 9)) (p0 + 10)) (p0 + 1) 2 (p0 + 10)) (p0 + 11)) (p0 + 1) 3 (p0 + 11)) (p0 + 12)) (p0 + 1) 4 (p0 + 12)) (p0 + 13)) (p0 + 1) 5 (p0 + 13)) (p0 + 14)) (p0 + 1) 6 (p0 + 14)) (p0 + 15)) (p0 + 1) 7 (p0 + 15)) (p0 + 16)) (p0 + 1) 8 (p0 + 16)) (p0 + 17)) (p0 + 2) 0 (p0 + 17)) (p0 + 18))) rfl ?_
  refine r_iinc (j := 0) (v := (1 : Int32)) (L' := [(1, .int (1 : Int32)), (0, .ref p0)]) C0 dX5_init_108 rfl (by decide) (by decide) rfl ?_
  refine r_goto C0 86 dX5_init_111 (by decide) ?_
  refine r_iload_n C0 dX5_init_86 rfl 0 rfl ?_
  refine r_aload_n C0 dX5_init_87 rfl 1 rfl ?_
  refine r_getR C0 (C := RX5) (T := TX5) cl_X5 (zct_k (by omega) (hkk 0 (by decide +kernel))) (k := 1) (by decide) qw_56 rfl (show (uR (uN (uR (uN (uR (uN (uR (uN (uR (uN (uR (uN (uR (uN (uR (uN (uR (uN (uR (uN (uR (uN (uR (rc_X6 (uN (uR (rc_X8 (uN (uR (uN (uR (uN R (p0 + 1)) p0 0 (p0 + 1)) (p0 + 2)) p0 1 (p0 + 2)) (p0 + 3)) (p0 + 3)) p0 2 (p0 + 3)) (p0 + 5)) (p0 + 5)) p0 3 (p0 + 5)) (p0 + 7)) p0 4 (p0 + 7)) (p0 + 8)) (p0 + 1) 0 (p0 + 8)) (p0 + 9)) (p0 + 1) 1 (p0 + 9)) (p0 + 10)) (p0 + 1) 2 (p0 + 10)) (p0 + 11)) (p0 + 1) 3 (p0 + 11)) (p0 + 12)) (p0 + 1) 4 (p0 + 12)) (p0 + 13)) (p0 + 1) 5 (p0 + 13)) (p0 + 14)) (p0 + 1) 6 (p0 + 14)) (p0 + 15)) (p0 + 1) 7 (p0 + 15)) (p0 + 16)) (p0 + 1) 8 (p0 + 16)) (p0 + 17)) (p0 + 2) 0 (p0 + 17)) p0 1 = some (p0 + 2) by simp (disch := omega) only [uR_eq, uR_ne, uN_ne, uR_nj, rc_X6_out, rc_X8_out]) dX5_init_88 ?_
  refine r_alen (v := 4) C0 (zct_k (by omega) (hkk 2 (by decide +kernel))) (by decide) rfl dX5_init_91 ?_
  refine r_icmp_ge_f C0 114 dX5_init_92 (by decide) (by decide) ?_
  refine r_aload_n C0 dX5_init_95 rfl 1 rfl ?_
  refine r_getR C0 (C := RX5) (T := TX5) cl_X5 (zct_k (by omega) (hkk 0 (by decide +kernel))) (k := 1) (by decide) qw_56 rfl (show (uR (uN (uR (uN (uR (uN (uR (uN (uR (uN (uR (uN (uR (uN (uR (uN (uR (uN (uR (uN (uR (uN (uR (rc_X6 (uN (uR (rc_X8 (uN (uR (uN (uR (uN R (p0 + 1)) p0 0 (p0 + 1)) (p0 + 2)) p0 1 (p0 + 2)) (p0 + 3)) (p0 + 3)) p0 2 (p0 + 3)) (p0 + 5)) (p0 + 5)) p0 3 (p0 + 5)) (p0 + 7)) p0 4 (p0 + 7)) (p0 + 8)) (p0 + 1) 0 (p0 + 8)) (p0 + 9)) (p0 + 1) 1 (p0 + 9)) (p0 + 10)) (p0 + 1) 2 (p0 + 10)) (p0 + 11)) (p0 + 1) 3 (p0 + 11)) (p0 + 12)) (p0 + 1) 4 (p0 + 12)) (p0 + 13)) (p0 + 1) 5 (p0 + 13)) (p0 + 14)) (p0 + 1) 6 (p0 + 14)) (p0 + 15)) (p0 + 1) 7 (p0 + 15)) (p0 + 16)) (p0 + 1) 8 (p0 + 16)) (p0 + 17)) (p0 + 2) 0 (p0 + 17)) p0 1 = some (p0 + 2) by simp (disch := omega) only [uR_eq, uR_ne, uN_ne, uR_nj, rc_X6_out, rc_X8_out]) dX5_init_96 ?_
  refine r_iload_n C0 dX5_init_99 rfl 0 rfl ?_
  refine rI_new C0 cl_X3 (hkk 18 (by decide +kernel)) qw_654 qw_675 qw_58 df_X3 hf (Nat.le_of_ble_eq_true rfl) (Nat.le_of_ble_eq_true rfl) dX5_init_100 (fun M29 eM29 hf => ?_)
  refine rI_eqS (S1 := (zct kd (uN (uR (uN (uR (uN (uR (uN (uR (uN (uR (uN (uR (uN (uR (uN (uR (uN (uR (uN (uR (uN (uR (uN (uR (rc_X6 (uN (uR (rc_X8 (uN (uR (uN (uR (uN R (p0 + 1)) p0 0 (p0 + 1)) (p0 + 2)) p0 1 (p0 + 2)) (p0 + 3)) (p0 + 3)) p0 2 (p0 + 3)) (p0 + 5)) (p0 + 5)) p0 3 (p0 + 5)) (p0 + 7)) p0 4 (p0 + 7)) (p0 + 8)) (p0 + 1) 0 (p0 + 8)) (p0 + 9)) (p0 + 1) 1 (p0 + 9)) (p0 + 10)) (p0 + 1) 2 (p0 + 10)) (p0 + 11)) (p0 + 1) 3 (p0 + 11)) (p0 + 12)) (p0 + 1) 4 (p0 + 12)) (p0 + 13)) (p0 + 1) 5 (p0 + 13)) (p0 + 14)) (p0 + 1) 6 (p0 + 14)) (p0 + 15)) (p0 + 1) 7 (p0 + 15)) (p0 + 16)) (p0 + 1) 8 (p0 + 16)) (p0 + 17)) (p0 + 2) 0 (p0 + 17)) (p0 + 18)) (p0 + 19))) rfl (rI_eqZ (Z1 := (· = p0 + 19)) rfl (r_widen (k1 := 18) (s1 := 114) (by decide) (by decide) ?_))
  refine r_dup C0 dX5_init_103 rfl ?_
  refine rI_call C0 hf vs_156 (fun hl r30 hr30 => c_X3_init hl F (p0 + 18) (kk_sub hkk (b := 18) (by decide) (by decide +kernel)) (uN (uR (uN (uR (uN (uR (uN (uR (uN (uR (uN (uR (uN (uR (uN (uR (uN (uR (uN (uR (uN (uR (uN (uR (rc_X6 (uN (uR (rc_X8 (uN (uR (uN (uR (uN R (p0 + 1)) p0 0 (p0 + 1)) (p0 + 2)) p0 1 (p0 + 2)) (p0 + 3)) (p0 + 3)) p0 2 (p0 + 3)) (p0 + 5)) (p0 + 5)) p0 3 (p0 + 5)) (p0 + 7)) p0 4 (p0 + 7)) (p0 + 8)) (p0 + 1) 0 (p0 + 8)) (p0 + 9)) (p0 + 1) 1 (p0 + 9)) (p0 + 10)) (p0 + 1) 2 (p0 + 10)) (p0 + 11)) (p0 + 1) 3 (p0 + 11)) (p0 + 12)) (p0 + 1) 4 (p0 + 12)) (p0 + 13)) (p0 + 1) 5 (p0 + 13)) (p0 + 14)) (p0 + 1) 6 (p0 + 14)) (p0 + 15)) (p0 + 1) 7 (p0 + 15)) (p0 + 16)) (p0 + 1) 8 (p0 + 16)) (p0 + 17)) (p0 + 2) 0 (p0 + 17)) (p0 + 18)) M29 r30 hr30) (Nat.le_of_ble_eq_true rfl) dX5_init_104 (zrm_ok rfl) (fun r30 hr30 hf => ?_)
  refine rI_eqS (S1 := (zct kd (uN (uR (uN (uR (uN (uR (uN (uR (uN (uR (uN (uR (uN (uR (uN (uR (uN (uR (uN (uR (uN (uR (uN (uR (rc_X6 (uN (uR (rc_X8 (uN (uR (uN (uR (uN R (p0 + 1)) p0 0 (p0 + 1)) (p0 + 2)) p0 1 (p0 + 2)) (p0 + 3)) (p0 + 3)) p0 2 (p0 + 3)) (p0 + 5)) (p0 + 5)) p0 3 (p0 + 5)) (p0 + 7)) p0 4 (p0 + 7)) (p0 + 8)) (p0 + 1) 0 (p0 + 8)) (p0 + 9)) (p0 + 1) 1 (p0 + 9)) (p0 + 10)) (p0 + 1) 2 (p0 + 10)) (p0 + 11)) (p0 + 1) 3 (p0 + 11)) (p0 + 12)) (p0 + 1) 4 (p0 + 12)) (p0 + 13)) (p0 + 1) 5 (p0 + 13)) (p0 + 14)) (p0 + 1) 6 (p0 + 14)) (p0 + 15)) (p0 + 1) 7 (p0 + 15)) (p0 + 16)) (p0 + 1) 8 (p0 + 16)) (p0 + 17)) (p0 + 2) 0 (p0 + 17)) (p0 + 18)) (p0 + 19))) rfl (rI_eqZ (Z1 := (· = p0 + 19)) rfl (r_widen (k1 := 18) (s1 := 114) (by decide) (by decide) ?_))
  refine rI_aast (t := 4) (n0 := 4) (j := 1) C0 (zct_k (by omega) (hkk 2 (by decide +kernel))) (by decide) (by decide) rfl (zct_k (by omega) (hkk 18 (by decide +kernel))) rfl rfl rfl dX5_init_107 ?_
  refine rI_eqS (S1 := (zct kd (uR (uN (uR (uN (uR (uN (uR (uN (uR (uN (uR (uN (uR (uN (uR (uN (uR (uN (uR (uN (uR (uN (uR (uN (uR (rc_X6 (uN (uR (rc_X8 (uN (uR (uN (uR (uN R (p0 + 1)) p0 0 (p0 + 1)) (p0 + 2)) p0 1 (p0 + 2)) (p0 + 3)) (p0 + 3)) p0 2 (p0 + 3)) (p0 + 5)) (p0 + 5)) p0 3 (p0 + 5)) (p0 + 7)) p0 4 (p0 + 7)) (p0 + 8)) (p0 + 1) 0 (p0 + 8)) (p0 + 9)) (p0 + 1) 1 (p0 + 9)) (p0 + 10)) (p0 + 1) 2 (p0 + 10)) (p0 + 11)) (p0 + 1) 3 (p0 + 11)) (p0 + 12)) (p0 + 1) 4 (p0 + 12)) (p0 + 13)) (p0 + 1) 5 (p0 + 13)) (p0 + 14)) (p0 + 1) 6 (p0 + 14)) (p0 + 15)) (p0 + 1) 7 (p0 + 15)) (p0 + 16)) (p0 + 1) 8 (p0 + 16)) (p0 + 17)) (p0 + 2) 0 (p0 + 17)) (p0 + 18)) (p0 + 2) 1 (p0 + 18)) (p0 + 19))) rfl ?_
  refine r_iinc (j := 0) (v := (2 : Int32)) (L' := [(1, .int (2 : Int32)), (0, .ref p0)]) C0 dX5_init_108 rfl (by decide) (by decide) rfl ?_
  refine r_goto C0 86 dX5_init_111 (by decide) ?_
  refine r_iload_n C0 dX5_init_86 rfl 0 rfl ?_
  refine r_aload_n C0 dX5_init_87 rfl 1 rfl ?_
  refine r_getR C0 (C := RX5) (T := TX5) cl_X5 (zct_k (by omega) (hkk 0 (by decide +kernel))) (k := 1) (by decide) qw_56 rfl (show (uR (uN (uR (uN (uR (uN (uR (uN (uR (uN (uR (uN (uR (uN (uR (uN (uR (uN (uR (uN (uR (uN (uR (uN (uR (rc_X6 (uN (uR (rc_X8 (uN (uR (uN (uR (uN R (p0 + 1)) p0 0 (p0 + 1)) (p0 + 2)) p0 1 (p0 + 2)) (p0 + 3)) (p0 + 3)) p0 2 (p0 + 3)) (p0 + 5)) (p0 + 5)) p0 3 (p0 + 5)) (p0 + 7)) p0 4 (p0 + 7)) (p0 + 8)) (p0 + 1) 0 (p0 + 8)) (p0 + 9)) (p0 + 1) 1 (p0 + 9)) (p0 + 10)) (p0 + 1) 2 (p0 + 10)) (p0 + 11)) (p0 + 1) 3 (p0 + 11)) (p0 + 12)) (p0 + 1) 4 (p0 + 12)) (p0 + 13)) (p0 + 1) 5 (p0 + 13)) (p0 + 14)) (p0 + 1) 6 (p0 + 14)) (p0 + 15)) (p0 + 1) 7 (p0 + 15)) (p0 + 16)) (p0 + 1) 8 (p0 + 16)) (p0 + 17)) (p0 + 2) 0 (p0 + 17)) (p0 + 18)) (p0 + 2) 1 (p0 + 18)) p0 1 = some (p0 + 2) by simp (disch := omega) only [uR_eq, uR_ne, uN_ne, uR_nj, rc_X6_out, rc_X8_out]) dX5_init_88 ?_
  refine r_alen (v := 4) C0 (zct_k (by omega) (hkk 2 (by decide +kernel))) (by decide) rfl dX5_init_91 ?_
  refine r_icmp_ge_f C0 114 dX5_init_92 (by decide) (by decide) ?_
  refine r_aload_n C0 dX5_init_95 rfl 1 rfl ?_
  refine r_getR C0 (C := RX5) (T := TX5) cl_X5 (zct_k (by omega) (hkk 0 (by decide +kernel))) (k := 1) (by decide) qw_56 rfl (show (uR (uN (uR (uN (uR (uN (uR (uN (uR (uN (uR (uN (uR (uN (uR (uN (uR (uN (uR (uN (uR (uN (uR (uN (uR (rc_X6 (uN (uR (rc_X8 (uN (uR (uN (uR (uN R (p0 + 1)) p0 0 (p0 + 1)) (p0 + 2)) p0 1 (p0 + 2)) (p0 + 3)) (p0 + 3)) p0 2 (p0 + 3)) (p0 + 5)) (p0 + 5)) p0 3 (p0 + 5)) (p0 + 7)) p0 4 (p0 + 7)) (p0 + 8)) (p0 + 1) 0 (p0 + 8)) (p0 + 9)) (p0 + 1) 1 (p0 + 9)) (p0 + 10)) (p0 + 1) 2 (p0 + 10)) (p0 + 11)) (p0 + 1) 3 (p0 + 11)) (p0 + 12)) (p0 + 1) 4 (p0 + 12)) (p0 + 13)) (p0 + 1) 5 (p0 + 13)) (p0 + 14)) (p0 + 1) 6 (p0 + 14)) (p0 + 15)) (p0 + 1) 7 (p0 + 15)) (p0 + 16)) (p0 + 1) 8 (p0 + 16)) (p0 + 17)) (p0 + 2) 0 (p0 + 17)) (p0 + 18)) (p0 + 2) 1 (p0 + 18)) p0 1 = some (p0 + 2) by simp (disch := omega) only [uR_eq, uR_ne, uN_ne, uR_nj, rc_X6_out, rc_X8_out]) dX5_init_96 ?_
  refine r_iload_n C0 dX5_init_99 rfl 0 rfl ?_
  refine rI_new C0 cl_X3 (hkk 19 (by decide +kernel)) qw_654 qw_675 qw_58 df_X3 hf (Nat.le_of_ble_eq_true rfl) (Nat.le_of_ble_eq_true rfl) dX5_init_100 (fun M31 eM31 hf => ?_)
  refine rI_eqS (S1 := (zct kd (uN (uR (uN (uR (uN (uR (uN (uR (uN (uR (uN (uR (uN (uR (uN (uR (uN (uR (uN (uR (uN (uR (uN (uR (uN (uR (rc_X6 (uN (uR (rc_X8 (uN (uR (uN (uR (uN R (p0 + 1)) p0 0 (p0 + 1)) (p0 + 2)) p0 1 (p0 + 2)) (p0 + 3)) (p0 + 3)) p0 2 (p0 + 3)) (p0 + 5)) (p0 + 5)) p0 3 (p0 + 5)) (p0 + 7)) p0 4 (p0 + 7)) (p0 + 8)) (p0 + 1) 0 (p0 + 8)) (p0 + 9)) (p0 + 1) 1 (p0 + 9)) (p0 + 10)) (p0 + 1) 2 (p0 + 10)) (p0 + 11)) (p0 + 1) 3 (p0 + 11)) (p0 + 12)) (p0 + 1) 4 (p0 + 12)) (p0 + 13)) (p0 + 1) 5 (p0 + 13)) (p0 + 14)) (p0 + 1) 6 (p0 + 14)) (p0 + 15)) (p0 + 1) 7 (p0 + 15)) (p0 + 16)) (p0 + 1) 8 (p0 + 16)) (p0 + 17)) (p0 + 2) 0 (p0 + 17)) (p0 + 18)) (p0 + 2) 1 (p0 + 18)) (p0 + 19)) (p0 + 20))) rfl (rI_eqZ (Z1 := (· = p0 + 20)) rfl (r_widen (k1 := 19) (s1 := 122) (by decide) (by decide) ?_))
  refine r_dup C0 dX5_init_103 rfl ?_
  refine rI_call C0 hf vs_156 (fun hl r32 hr32 => c_X3_init hl F (p0 + 19) (kk_sub hkk (b := 19) (by decide) (by decide +kernel)) (uN (uR (uN (uR (uN (uR (uN (uR (uN (uR (uN (uR (uN (uR (uN (uR (uN (uR (uN (uR (uN (uR (uN (uR (uN (uR (rc_X6 (uN (uR (rc_X8 (uN (uR (uN (uR (uN R (p0 + 1)) p0 0 (p0 + 1)) (p0 + 2)) p0 1 (p0 + 2)) (p0 + 3)) (p0 + 3)) p0 2 (p0 + 3)) (p0 + 5)) (p0 + 5)) p0 3 (p0 + 5)) (p0 + 7)) p0 4 (p0 + 7)) (p0 + 8)) (p0 + 1) 0 (p0 + 8)) (p0 + 9)) (p0 + 1) 1 (p0 + 9)) (p0 + 10)) (p0 + 1) 2 (p0 + 10)) (p0 + 11)) (p0 + 1) 3 (p0 + 11)) (p0 + 12)) (p0 + 1) 4 (p0 + 12)) (p0 + 13)) (p0 + 1) 5 (p0 + 13)) (p0 + 14)) (p0 + 1) 6 (p0 + 14)) (p0 + 15)) (p0 + 1) 7 (p0 + 15)) (p0 + 16)) (p0 + 1) 8 (p0 + 16)) (p0 + 17)) (p0 + 2) 0 (p0 + 17)) (p0 + 18)) (p0 + 2) 1 (p0 + 18)) (p0 + 19)) M31 r32 hr32) (Nat.le_of_ble_eq_true rfl) dX5_init_104 (zrm_ok rfl) (fun r32 hr32 hf => ?_)
  refine rI_eqS (S1 := (zct kd (uN (uR (uN (uR (uN (uR (uN (uR (uN (uR (uN (uR (uN (uR (uN (uR (uN (uR (uN (uR (uN (uR (uN (uR (uN (uR (rc_X6 (uN (uR (rc_X8 (uN (uR (uN (uR (uN R (p0 + 1)) p0 0 (p0 + 1)) (p0 + 2)) p0 1 (p0 + 2)) (p0 + 3)) (p0 + 3)) p0 2 (p0 + 3)) (p0 + 5)) (p0 + 5)) p0 3 (p0 + 5)) (p0 + 7)) p0 4 (p0 + 7)) (p0 + 8)) (p0 + 1) 0 (p0 + 8)) (p0 + 9)) (p0 + 1) 1 (p0 + 9)) (p0 + 10)) (p0 + 1) 2 (p0 + 10)) (p0 + 11)) (p0 + 1) 3 (p0 + 11)) (p0 + 12)) (p0 + 1) 4 (p0 + 12)) (p0 + 13)) (p0 + 1) 5 (p0 + 13)) (p0 + 14)) (p0 + 1) 6 (p0 + 14)) (p0 + 15)) (p0 + 1) 7 (p0 + 15)) (p0 + 16)) (p0 + 1) 8 (p0 + 16)) (p0 + 17)) (p0 + 2) 0 (p0 + 17)) (p0 + 18)) (p0 + 2) 1 (p0 + 18)) (p0 + 19)) (p0 + 20))) rfl (rI_eqZ (Z1 := (· = p0 + 20)) rfl (r_widen (k1 := 19) (s1 := 122) (by decide) (by decide) ?_))
  refine rI_aast (t := 4) (n0 := 4) (j := 2) C0 (zct_k (by omega) (hkk 2 (by decide +kernel))) (by decide) (by decide) rfl (zct_k (by omega) (hkk 19 (by decide +kernel))) rfl rfl rfl dX5_init_107 ?_
  refine rI_eqS (S1 := (zct kd (uR (uN (uR (uN (uR (uN (uR (uN (uR (uN (uR (uN (uR (uN (uR (uN (uR (uN (uR (uN (uR (uN (uR (uN (uR (uN (uR (rc_X6 (uN (uR (rc_X8 (uN (uR (uN (uR (uN R (p0 + 1)) p0 0 (p0 + 1)) (p0 + 2)) p0 1 (p0 + 2)) (p0 + 3)) (p0 + 3)) p0 2 (p0 + 3)) (p0 + 5)) (p0 + 5)) p0 3 (p0 + 5)) (p0 + 7)) p0 4 (p0 + 7)) (p0 + 8)) (p0 + 1) 0 (p0 + 8)) (p0 + 9)) (p0 + 1) 1 (p0 + 9)) (p0 + 10)) (p0 + 1) 2 (p0 + 10)) (p0 + 11)) (p0 + 1) 3 (p0 + 11)) (p0 + 12)) (p0 + 1) 4 (p0 + 12)) (p0 + 13)) (p0 + 1) 5 (p0 + 13)) (p0 + 14)) (p0 + 1) 6 (p0 + 14)) (p0 + 15)) (p0 + 1) 7 (p0 + 15)) (p0 + 16)) (p0 + 1) 8 (p0 + 16)) (p0 + 17)) (p0 + 2) 0 (p0 + 17)) (p0 + 18)) (p0 + 2) 1 (p0 + 18)) (p0 + 19)) (p0 + 2) 2 (p0 + 19)) (p0 + 20))) rfl ?_
  refine r_iinc (j := 0) (v := (3 : Int32)) (L' := [(1, .int (3 : Int32)), (0, .ref p0)]) C0 dX5_init_108 rfl (by decide) (by decide) rfl ?_
  refine r_goto C0 86 dX5_init_111 (by decide) ?_
  refine r_iload_n C0 dX5_init_86 rfl 0 rfl ?_
  refine r_aload_n C0 dX5_init_87 rfl 1 rfl ?_
  refine r_getR C0 (C := RX5) (T := TX5) cl_X5 (zct_k (by omega) (hkk 0 (by decide +kernel))) (k := 1) (by decide) qw_56 rfl (show (uR (uN (uR (uN (uR (uN (uR (uN (uR (uN (uR (uN (uR (uN (uR (uN (uR (uN (uR (uN (uR (uN (uR (uN (uR (uN (uR (rc_X6 (uN (uR (rc_X8 (uN (uR (uN (uR (uN R (p0 + 1)) p0 0 (p0 + 1)) (p0 + 2)) p0 1 (p0 + 2)) (p0 + 3)) (p0 + 3)) p0 2 (p0 + 3)) (p0 + 5)) (p0 + 5)) p0 3 (p0 + 5)) (p0 + 7)) p0 4 (p0 + 7)) (p0 + 8)) (p0 + 1) 0 (p0 + 8)) (p0 + 9)) (p0 + 1) 1 (p0 + 9)) (p0 + 10)) (p0 + 1) 2 (p0 + 10)) (p0 + 11)) (p0 + 1) 3 (p0 + 11)) (p0 + 12)) (p0 + 1) 4 (p0 + 12)) (p0 + 13)) (p0 + 1) 5 (p0 + 13)) (p0 + 14)) (p0 + 1) 6 (p0 + 14)) (p0 + 15)) (p0 + 1) 7 (p0 + 15)) (p0 + 16)) (p0 + 1) 8 (p0 + 16)) (p0 + 17)) (p0 + 2) 0 (p0 + 17)) (p0 + 18)) (p0 + 2) 1 (p0 + 18)) (p0 + 19)) (p0 + 2) 2 (p0 + 19)) p0 1 = some (p0 + 2) by simp (disch := omega) only [uR_eq, uR_ne, uN_ne, uR_nj, rc_X6_out, rc_X8_out]) dX5_init_88 ?_
  refine r_alen (v := 4) C0 (zct_k (by omega) (hkk 2 (by decide +kernel))) (by decide) rfl dX5_init_91 ?_
  refine r_icmp_ge_f C0 114 dX5_init_92 (by decide) (by decide) ?_
  refine r_aload_n C0 dX5_init_95 rfl 1 rfl ?_
  refine r_getR C0 (C := RX5) (T := TX5) cl_X5 (zct_k (by omega) (hkk 0 (by decide +kernel))) (k := 1) (by decide) qw_56 rfl (show (uR (uN (uR (uN (uR (uN (uR (uN (uR (uN (uR (uN (uR (uN (uR (uN (uR (uN (uR (uN (uR (uN (uR (uN (uR (uN (uR (rc_X6 (uN (uR (rc_X8 (uN (uR (uN (uR (uN R (p0 + 1)) p0 0 (p0 + 1)) (p0 + 2)) p0 1 (p0 + 2)) (p0 + 3)) (p0 + 3)) p0 2 (p0 + 3)) (p0 + 5)) (p0 + 5)) p0 3 (p0 + 5)) (p0 + 7)) p0 4 (p0 + 7)) (p0 + 8)) (p0 + 1) 0 (p0 + 8)) (p0 + 9)) (p0 + 1) 1 (p0 + 9)) (p0 + 10)) (p0 + 1) 2 (p0 + 10)) (p0 + 11)) (p0 + 1) 3 (p0 + 11)) (p0 + 12)) (p0 + 1) 4 (p0 + 12)) (p0 + 13)) (p0 + 1) 5 (p0 + 13)) (p0 + 14)) (p0 + 1) 6 (p0 + 14)) (p0 + 15)) (p0 + 1) 7 (p0 + 15)) (p0 + 16)) (p0 + 1) 8 (p0 + 16)) (p0 + 17)) (p0 + 2) 0 (p0 + 17)) (p0 + 18)) (p0 + 2) 1 (p0 + 18)) (p0 + 19)) (p0 + 2) 2 (p0 + 19)) p0 1 = some (p0 + 2) by simp (disch := omega) only [uR_eq, uR_ne, uN_ne, uR_nj, rc_X6_out, rc_X8_out]) dX5_init_96 ?_
  refine r_iload_n C0 dX5_init_99 rfl 0 rfl ?_
  refine rI_new C0 cl_X3 (hkk 20 (by decide +kernel)) qw_654 qw_675 qw_58 df_X3 hf (Nat.le_of_ble_eq_true rfl) (Nat.le_of_ble_eq_true rfl) dX5_init_100 (fun M33 eM33 hf => ?_)
  refine rI_eqS (S1 := (zct kd (uN (uR (uN (uR (uN (uR (uN (uR (uN (uR (uN (uR (uN (uR (uN (uR (uN (uR (uN (uR (uN (uR (uN (uR (uN (uR (uN (uR (rc_X6 (uN (uR (rc_X8 (uN (uR (uN (uR (uN R (p0 + 1)) p0 0 (p0 + 1)) (p0 + 2)) p0 1 (p0 + 2)) (p0 + 3)) (p0 + 3)) p0 2 (p0 + 3)) (p0 + 5)) (p0 + 5)) p0 3 (p0 + 5)) (p0 + 7)) p0 4 (p0 + 7)) (p0 + 8)) (p0 + 1) 0 (p0 + 8)) (p0 + 9)) (p0 + 1) 1 (p0 + 9)) (p0 + 10)) (p0 + 1) 2 (p0 + 10)) (p0 + 11)) (p0 + 1) 3 (p0 + 11)) (p0 + 12)) (p0 + 1) 4 (p0 + 12)) (p0 + 13)) (p0 + 1) 5 (p0 + 13)) (p0 + 14)) (p0 + 1) 6 (p0 + 14)) (p0 + 15)) (p0 + 1) 7 (p0 + 15)) (p0 + 16)) (p0 + 1) 8 (p0 + 16)) (p0 + 17)) (p0 + 2) 0 (p0 + 17)) (p0 + 18)) (p0 + 2) 1 (p0 + 18)) (p0 + 19)) (p0 + 2) 2 (p0 + 19)) (p0 + 20)) (p0 + 21))) rfl (rI_eqZ (Z1 := (· = p0 + 21)) rfl (r_widen (k1 := 20) (s1 := 130) (by decide) (by decide) ?_))
  refine r_dup C0 dX5_init_103 rfl ?_
  refine rI_call C0 hf vs_156 (fun hl r34 hr34 => c_X3_init hl F (p0 + 20) (kk_sub hkk (b := 20) (by decide) (by decide +kernel)) (uN (uR (uN (uR (uN (uR (uN (uR (uN (uR (uN (uR (uN (uR (uN (uR (uN (uR (uN (uR (uN (uR (uN (uR (uN (uR (uN (uR (rc_X6 (uN (uR (rc_X8 (uN (uR (uN (uR (uN R (p0 + 1)) p0 0 (p0 + 1)) (p0 + 2)) p0 1 (p0 + 2)) (p0 + 3)) (p0 + 3)) p0 2 (p0 + 3)) (p0 + 5)) (p0 + 5)) p0 3 (p0 + 5)) (p0 + 7)) p0 4 (p0 + 7)) (p0 + 8)) (p0 + 1) 0 (p0 + 8)) (p0 + 9)) (p0 + 1) 1 (p0 + 9)) (p0 + 10)) (p0 + 1) 2 (p0 + 10)) (p0 + 11)) (p0 + 1) 3 (p0 + 11)) (p0 + 12)) (p0 + 1) 4 (p0 + 12)) (p0 + 13)) (p0 + 1) 5 (p0 + 13)) (p0 + 14)) (p0 + 1) 6 (p0 + 14)) (p0 + 15)) (p0 + 1) 7 (p0 + 15)) (p0 + 16)) (p0 + 1) 8 (p0 + 16)) (p0 + 17)) (p0 + 2) 0 (p0 + 17)) (p0 + 18)) (p0 + 2) 1 (p0 + 18)) (p0 + 19)) (p0 + 2) 2 (p0 + 19)) (p0 + 20)) M33 r34 hr34) (Nat.le_of_ble_eq_true rfl) dX5_init_104 (zrm_ok rfl) (fun r34 hr34 hf => ?_)
  refine rI_eqS (S1 := (zct kd (uN (uR (uN (uR (uN (uR (uN (uR (uN (uR (uN (uR (uN (uR (uN (uR (uN (uR (uN (uR (uN (uR (uN (uR (uN (uR (uN (uR (rc_X6 (uN (uR (rc_X8 (uN (uR (uN (uR (uN R (p0 + 1)) p0 0 (p0 + 1)) (p0 + 2)) p0 1 (p0 + 2)) (p0 + 3)) (p0 + 3)) p0 2 (p0 + 3)) (p0 + 5)) (p0 + 5)) p0 3 (p0 + 5)) (p0 + 7)) p0 4 (p0 + 7)) (p0 + 8)) (p0 + 1) 0 (p0 + 8)) (p0 + 9)) (p0 + 1) 1 (p0 + 9)) (p0 + 10)) (p0 + 1) 2 (p0 + 10)) (p0 + 11)) (p0 + 1) 3 (p0 + 11)) (p0 + 12)) (p0 + 1) 4 (p0 + 12)) (p0 + 13)) (p0 + 1) 5 (p0 + 13)) (p0 + 14)) (p0 + 1) 6 (p0 + 14)) (p0 + 15)) (p0 + 1) 7 (p0 + 15)) (p0 + 16)) (p0 + 1) 8 (p0 + 16)) (p0 + 17)) (p0 + 2) 0 (p0 + 17)) (p0 + 18)) (p0 + 2) 1 (p0 + 18)) (p0 + 19)) (p0 + 2) 2 (p0 + 19)) (p0 + 20)) (p0 + 21))) rfl (rI_eqZ (Z1 := (· = p0 + 21)) rfl (r_widen (k1 := 20) (s1 := 130) (by decide) (by decide) ?_))
  refine rI_aast (t := 4) (n0 := 4) (j := 3) C0 (zct_k (by omega) (hkk 2 (by decide +kernel))) (by decide) (by decide) rfl (zct_k (by omega) (hkk 20 (by decide +kernel))) rfl rfl rfl dX5_init_107 ?_
  refine rI_eqS (S1 := (zct kd (uR (uN (uR (uN (uR (uN (uR (uN (uR (uN (uR (uN (uR (uN (uR (uN (uR (uN (uR (uN (uR (uN (uR (uN (uR (uN (uR (uN (uR (rc_X6 (uN (uR (rc_X8 (uN (uR (uN (uR (uN R (p0 + 1)) p0 0 (p0 + 1)) (p0 + 2)) p0 1 (p0 + 2)) (p0 + 3)) (p0 + 3)) p0 2 (p0 + 3)) (p0 + 5)) (p0 + 5)) p0 3 (p0 + 5)) (p0 + 7)) p0 4 (p0 + 7)) (p0 + 8)) (p0 + 1) 0 (p0 + 8)) (p0 + 9)) (p0 + 1) 1 (p0 + 9)) (p0 + 10)) (p0 + 1) 2 (p0 + 10)) (p0 + 11)) (p0 + 1) 3 (p0 + 11)) (p0 + 12)) (p0 + 1) 4 (p0 + 12)) (p0 + 13)) (p0 + 1) 5 (p0 + 13)) (p0 + 14)) (p0 + 1) 6 (p0 + 14)) (p0 + 15)) (p0 + 1) 7 (p0 + 15)) (p0 + 16)) (p0 + 1) 8 (p0 + 16)) (p0 + 17)) (p0 + 2) 0 (p0 + 17)) (p0 + 18)) (p0 + 2) 1 (p0 + 18)) (p0 + 19)) (p0 + 2) 2 (p0 + 19)) (p0 + 20)) (p0 + 2) 3 (p0 + 20)) (p0 + 21))) rfl ?_
  refine r_iinc (j := 0) (v := (4 : Int32)) (L' := [(1, .int (4 : Int32)), (0, .ref p0)]) C0 dX5_init_108 rfl (by decide) (by decide) rfl ?_
  refine r_goto C0 86 dX5_init_111 (by decide) ?_
  refine r_iload_n C0 dX5_init_86 rfl 0 rfl ?_
  refine r_aload_n C0 dX5_init_87 rfl 1 rfl ?_
  refine r_getR C0 (C := RX5) (T := TX5) cl_X5 (zct_k (by omega) (hkk 0 (by decide +kernel))) (k := 1) (by decide) qw_56 rfl (show (uR (uN (uR (uN (uR (uN (uR (uN (uR (uN (uR (uN (uR (uN (uR (uN (uR (uN (uR (uN (uR (uN (uR (uN (uR (uN (uR (uN (uR (rc_X6 (uN (uR (rc_X8 (uN (uR (uN (uR (uN R (p0 + 1)) p0 0 (p0 + 1)) (p0 + 2)) p0 1 (p0 + 2)) (p0 + 3)) (p0 + 3)) p0 2 (p0 + 3)) (p0 + 5)) (p0 + 5)) p0 3 (p0 + 5)) (p0 + 7)) p0 4 (p0 + 7)) (p0 + 8)) (p0 + 1) 0 (p0 + 8)) (p0 + 9)) (p0 + 1) 1 (p0 + 9)) (p0 + 10)) (p0 + 1) 2 (p0 + 10)) (p0 + 11)) (p0 + 1) 3 (p0 + 11)) (p0 + 12)) (p0 + 1) 4 (p0 + 12)) (p0 + 13)) (p0 + 1) 5 (p0 + 13)) (p0 + 14)) (p0 + 1) 6 (p0 + 14)) (p0 + 15)) (p0 + 1) 7 (p0 + 15)) (p0 + 16)) (p0 + 1) 8 (p0 + 16)) (p0 + 17)) (p0 + 2) 0 (p0 + 17)) (p0 + 18)) (p0 + 2) 1 (p0 + 18)) (p0 + 19)) (p0 + 2) 2 (p0 + 19)) (p0 + 20)) (p0 + 2) 3 (p0 + 20)) p0 1 = some (p0 + 2) by simp (disch := omega) only [uR_eq, uR_ne, uN_ne, uR_nj, rc_X6_out, rc_X8_out]) dX5_init_88 ?_
  refine r_alen (v := 4) C0 (zct_k (by omega) (hkk 2 (by decide +kernel))) (by decide) rfl dX5_init_91 ?_
  refine r_icmp_ge_t C0 114 dX5_init_92 (by decide) (by decide) ?_
  obtain rfl := Option.some.inj hf
  exact r_vret C0 dX5_init_114
theorem rc_X5_out {R : zRf} {a q : Nat} (h : q < a ∨ a + 21 ≤ q) : rc_X5 R a q = R q := by
  unfold rc_X5
  simp (disch := omega) only [uR_eq, uR_ne, uN_ne, uR_nj, rc_X6_out, rc_X8_out]
set_option maxHeartbeats 16000000 in
set_option maxRecDepth 100000 in
theorem rr_X5_mk {R : zRf} {a : Nat} : rr_X5 (rc_X5 R a) a := by
  unfold rr_X5 rc_X5
  generalize hRC : uR (uN (uR (uN (uR (uN (uR (uN (uR (uN (uR (uN (uR (uN (uR (uN (uR (uN (uR (uN (uR (uN (uR (uN (uR (uN (uR (uN (uR (rc_X6 (uN (uR (rc_X8 (uN (uR (uN (uR (uN R (a + 1)) a 0 (a + 1)) (a + 2)) a 1 (a + 2)) (a + 3)) (a + 3)) a 2 (a + 3)) (a + 5)) (a + 5)) a 3 (a + 5)) (a + 7)) a 4 (a + 7)) (a + 8)) (a + 1) 0 (a + 8)) (a + 9)) (a + 1) 1 (a + 9)) (a + 10)) (a + 1) 2 (a + 10)) (a + 11)) (a + 1) 3 (a + 11)) (a + 12)) (a + 1) 4 (a + 12)) (a + 13)) (a + 1) 5 (a + 13)) (a + 14)) (a + 1) 6 (a + 14)) (a + 15)) (a + 1) 7 (a + 15)) (a + 16)) (a + 1) 8 (a + 16)) (a + 17)) (a + 2) 0 (a + 17)) (a + 18)) (a + 2) 1 (a + 18)) (a + 19)) (a + 2) 2 (a + 19)) (a + 20)) (a + 2) 3 (a + 20) = RC
  refine ⟨?_, ?_, ?_, ?_, ?_, ?_, ?_, ?_, ?_⟩
  · rw [← hRC]; exact by simp (disch := omega) only [uR_eq, uR_ne, uN_ne, uR_nj, rc_X6_out, rc_X8_out]
  · rw [← hRC]; exact fun j hj => by rcases (by omega : j = 0 ∨ j = 1 ∨ j = 2 ∨ j = 3 ∨ j = 4 ∨ j = 5 ∨ j = 6 ∨ j = 7 ∨ j = 8) with rfl | rfl | rfl | rfl | rfl | rfl | rfl | rfl | rfl <;> simp (disch := omega) only [uR_eq, uR_ne, uN_ne, uR_nj, rc_X6_out, rc_X8_out]
  · rw [← hRC]; exact by simp (disch := omega) only [uR_eq, uR_ne, uN_ne, uR_nj, rc_X6_out, rc_X8_out]
  · rw [← hRC]; exact fun j hj => by rcases (by omega : j = 0 ∨ j = 1 ∨ j = 2 ∨ j = 3) with rfl | rfl | rfl | rfl <;> simp (disch := omega) only [uR_eq, uR_ne, uN_ne, uR_nj, rc_X6_out, rc_X8_out]
  · rw [← hRC]; exact by simp (disch := omega) only [uR_eq, uR_ne, uN_ne, uR_nj, rc_X6_out, rc_X8_out]
  · rw [← hRC]; exact rr_X8_ext (fun q h1 h2 => by simp (disch := omega) only [uR_eq, uR_ne, uN_ne, uR_nj, rc_X6_out, rc_X8_out]) (rr_X8_mk (R := uN (uR (uN (uR (uN R (a + 1)) a 0 (a + 1)) (a + 2)) a 1 (a + 2)) (a + 3)) (a := a + 3))
  · rw [← hRC]; exact by simp (disch := omega) only [uR_eq, uR_ne, uN_ne, uR_nj, rc_X6_out, rc_X8_out]
  · rw [← hRC]; exact rr_X6_ext (fun q h1 h2 => by simp (disch := omega) only [uR_eq, uR_ne, uN_ne, uR_nj, rc_X6_out, rc_X8_out]) (rr_X6_mk (R := uN (uR (rc_X8 (uN (uR (uN (uR (uN R (a + 1)) a 0 (a + 1)) (a + 2)) a 1 (a + 2)) (a + 3)) (a + 3)) a 2 (a + 3)) (a + 5)) (a := a + 5))
  · rw [← hRC]; exact by simp (disch := omega) only [uR_eq, uR_ne, uN_ne, uR_nj, rc_X6_out, rc_X8_out]
def rc_X0 (R : zRf) (a : Nat) : zRf := uR (rc_X5 (uN (uR (rc_X5 (uN (uR (rc_X5 (uN (uR (rc_X5 (uN (uR (rc_X5 (uN (uR (rc_X5 (uN (uR (rc_X5 (uN (uR (rc_X5 (uN (uR (rc_X5 (uN (uR (rc_X5 (uN (uR (rc_X5 (uN (uR (rc_X5 (uN (uR (rc_X5 (uN (uR (rc_X5 (uN (uR (uN R (a + 1)) a 0 (a + 1)) (a + 2)) (a + 2)) (a + 1) 0 (a + 2)) (a + 23)) (a + 23)) (a + 1) 1 (a + 23)) (a + 44)) (a + 44)) (a + 1) 2 (a + 44)) (a + 65)) (a + 65)) (a + 1) 3 (a + 65)) (a + 86)) (a + 86)) (a + 1) 4 (a + 86)) (a + 107)) (a + 107)) (a + 1) 5 (a + 107)) (a + 128)) (a + 128)) (a + 1) 6 (a + 128)) (a + 149)) (a + 149)) (a + 1) 7 (a + 149)) (a + 170)) (a + 170)) (a + 1) 8 (a + 170)) (a + 191)) (a + 191)) (a + 1) 9 (a + 191)) (a + 212)) (a + 212)) (a + 1) 10 (a + 212)) (a + 233)) (a + 233)) (a + 1) 11 (a + 233)) (a + 254)) (a + 254)) (a + 1) 12 (a + 254)) (a + 275)) (a + 275)) (a + 1) 13 (a + 275)
set_option maxHeartbeats 16000000 in
set_option maxRecDepth 100000 in
theorem c_X0_init {l : Launch} {E : zEn} {kd : zKd} {X : zMl} (hl : l.stackTraces = false) (F : Nat) (p0 : Nat) (hkk : ∀ o, o < 296 → kd (p0 + o) = kdo_X0 o) (R : zRf) (M : zMi) (r : zMi) (hf : f_X0_init F p0 M = some r) : zM l E yX0_init cX0_init 2 (Option.none : Option Jvm.ClassFile.FieldType) { frames := 3, cells := 295, slots := 2002, locals := 61 } 295 2002 [.ref p0] (zct kd R (p0 + 1)) (· = p0 + 1) M X (zct kd (rc_X0 R p0) (p0 + 296)) (· = p0 + 296) none r X := by
  refine zM.intro (L0 := [(0, .ref p0)]) hl (by decide) (Nat.le_of_ble_eq_true rfl) rfl (fun Γ C0 hs => ?_)
  unfold f_X0_init at hf
  unfold rc_X0
  refine r_aload_n C0 dX0_init_0 rfl 0 rfl ?_
  refine rI_objInit C0 qw_679 qw_644 qw_645 (Nat.le_of_ble_eq_true rfl) (Nat.le_of_ble_eq_true rfl) dX0_init_1 ?_
  refine r_aload_n C0 dX0_init_4 rfl 0 rfl ?_
  refine r_bipush (v := 14) C0 dX0_init_5 (by decide) ?_
  refine rI_anew (t := 6) (N := 14) C0 (by decide) (by decide) rfl (hkk 1 (by decide +kernel)) qw_680 qw_681 (by decide) (by decide) (by decide) hf (Nat.le_of_ble_eq_true rfl) (Nat.le_of_ble_eq_true rfl) dX0_init_7 (fun M1 eM1 hf => ?_)
  refine rI_eqS (S1 := (zct kd (uN R (p0 + 1)) (p0 + 2))) rfl (rI_eqZ (Z1 := (· = p0 + 2)) rfl (r_widen (k1 := 1) (s1 := 14) (by decide) (by decide) ?_))
  refine r_putR C0 (C := RX0) (T := TX0) cl_X0 (zct_k (by omega) (hkk 0 (by decide +kernel))) (k := 0) (by decide) qw_2 rfl rfl (rI_init (own9 := "") hs rfl) rfl rfl rfl dX0_init_10 ?_
  refine rI_eqS (S1 := (zct kd (uR (uN R (p0 + 1)) p0 0 (p0 + 1)) (p0 + 2))) rfl ?_
  refine r_iconst (v := 0) C0 dX0_init_13 (by decide) ?_
  refine r_istore_n (L' := [(1, .int (0 : Int32)), (0, .ref p0)]) C0 dX0_init_14 rfl (by decide) rfl ?_
  refine r_iload_n C0 dX0_init_15 rfl 0 rfl ?_
  refine r_aload_n C0 dX0_init_16 rfl 1 rfl ?_
  refine r_getR C0 (C := RX0) (T := TX0) cl_X0 (zct_k (by omega) (hkk 0 (by decide +kernel))) (k := 0) (by decide) qw_2 rfl (show (uR (uN R (p0 + 1)) p0 0 (p0 + 1)) p0 0 = some (p0 + 1) by simp (disch := omega) only [uR_eq, uR_ne, uN_ne, uR_nj]) dX0_init_17 ?_
  refine r_alen (v := 14) C0 (zct_k (by omega) (hkk 1 (by decide +kernel))) (by decide) rfl dX0_init_20 ?_
  refine r_icmp_ge_f C0 43 dX0_init_21 (by decide) (by decide) ?_
  refine r_aload_n C0 dX0_init_24 rfl 1 rfl ?_
  refine r_getR C0 (C := RX0) (T := TX0) cl_X0 (zct_k (by omega) (hkk 0 (by decide +kernel))) (k := 0) (by decide) qw_2 rfl (show (uR (uN R (p0 + 1)) p0 0 (p0 + 1)) p0 0 = some (p0 + 1) by simp (disch := omega) only [uR_eq, uR_ne, uN_ne, uR_nj]) dX0_init_25 ?_
  refine r_iload_n C0 dX0_init_28 rfl 0 rfl ?_
  refine rI_new C0 cl_X5 (hkk 2 (by decide +kernel)) qw_680 qw_682 qw_74 df_X5 hf (Nat.le_of_ble_eq_true rfl) (Nat.le_of_ble_eq_true rfl) dX0_init_29 (fun M2 eM2 hf => ?_)
  refine rI_eqS (S1 := (zct kd (uN (uR (uN R (p0 + 1)) p0 0 (p0 + 1)) (p0 + 2)) (p0 + 3))) rfl (rI_eqZ (Z1 := (· = p0 + 3)) rfl (r_widen (k1 := 2) (s1 := 26) (by decide) (by decide) ?_))
  refine r_dup C0 dX0_init_32 rfl ?_
  refine rI_call C0 hf vs_157 (fun hl r3 hr3 => c_X5_init hl F (p0 + 2) (kk_sub hkk (b := 2) (by decide) (by decide +kernel)) (uN (uR (uN R (p0 + 1)) p0 0 (p0 + 1)) (p0 + 2)) M2 r3 hr3) (Nat.le_of_ble_eq_true rfl) dX0_init_33 (zrm_ok rfl) (fun r3 hr3 hf => ?_)
  refine rI_eqS (S1 := (zct kd (rc_X5 (uN (uR (uN R (p0 + 1)) p0 0 (p0 + 1)) (p0 + 2)) (p0 + 2)) (p0 + 23))) rfl (rI_eqZ (Z1 := (· = p0 + 23)) rfl (r_widen (k1 := 22) (s1 := 156) (by decide) (by decide) ?_))
  refine rI_aast (t := 6) (n0 := 14) (j := 0) C0 (zct_k (by omega) (hkk 1 (by decide +kernel))) (by decide) (by decide) rfl (zct_k (by omega) (hkk 2 (by decide +kernel))) rfl rfl rfl dX0_init_36 ?_
  refine rI_eqS (S1 := (zct kd (uR (rc_X5 (uN (uR (uN R (p0 + 1)) p0 0 (p0 + 1)) (p0 + 2)) (p0 + 2)) (p0 + 1) 0 (p0 + 2)) (p0 + 23))) rfl ?_
  refine r_iinc (j := 0) (v := (1 : Int32)) (L' := [(1, .int (1 : Int32)), (0, .ref p0)]) C0 dX0_init_37 rfl (by decide) (by decide) rfl ?_
  refine r_goto C0 15 dX0_init_40 (by decide) ?_
  refine r_iload_n C0 dX0_init_15 rfl 0 rfl ?_
  refine r_aload_n C0 dX0_init_16 rfl 1 rfl ?_
  refine r_getR C0 (C := RX0) (T := TX0) cl_X0 (zct_k (by omega) (hkk 0 (by decide +kernel))) (k := 0) (by decide) qw_2 rfl (show (uR (rc_X5 (uN (uR (uN R (p0 + 1)) p0 0 (p0 + 1)) (p0 + 2)) (p0 + 2)) (p0 + 1) 0 (p0 + 2)) p0 0 = some (p0 + 1) by simp (disch := omega) only [uR_eq, uR_ne, uN_ne, uR_nj, rc_X5_out]) dX0_init_17 ?_
  refine r_alen (v := 14) C0 (zct_k (by omega) (hkk 1 (by decide +kernel))) (by decide) rfl dX0_init_20 ?_
  refine r_icmp_ge_f C0 43 dX0_init_21 (by decide) (by decide) ?_
  refine r_aload_n C0 dX0_init_24 rfl 1 rfl ?_
  refine r_getR C0 (C := RX0) (T := TX0) cl_X0 (zct_k (by omega) (hkk 0 (by decide +kernel))) (k := 0) (by decide) qw_2 rfl (show (uR (rc_X5 (uN (uR (uN R (p0 + 1)) p0 0 (p0 + 1)) (p0 + 2)) (p0 + 2)) (p0 + 1) 0 (p0 + 2)) p0 0 = some (p0 + 1) by simp (disch := omega) only [uR_eq, uR_ne, uN_ne, uR_nj, rc_X5_out]) dX0_init_25 ?_
  refine r_iload_n C0 dX0_init_28 rfl 0 rfl ?_
  refine rI_new C0 cl_X5 (hkk 23 (by decide +kernel)) qw_680 qw_682 qw_74 df_X5 hf (Nat.le_of_ble_eq_true rfl) (Nat.le_of_ble_eq_true rfl) dX0_init_29 (fun M4 eM4 hf => ?_)
  refine rI_eqS (S1 := (zct kd (uN (uR (rc_X5 (uN (uR (uN R (p0 + 1)) p0 0 (p0 + 1)) (p0 + 2)) (p0 + 2)) (p0 + 1) 0 (p0 + 2)) (p0 + 23)) (p0 + 24))) rfl (rI_eqZ (Z1 := (· = p0 + 24)) rfl (r_widen (k1 := 23) (s1 := 168) (by decide) (by decide) ?_))
  refine r_dup C0 dX0_init_32 rfl ?_
  refine rI_call C0 hf vs_157 (fun hl r5 hr5 => c_X5_init hl F (p0 + 23) (kk_sub hkk (b := 23) (by decide) (by decide +kernel)) (uN (uR (rc_X5 (uN (uR (uN R (p0 + 1)) p0 0 (p0 + 1)) (p0 + 2)) (p0 + 2)) (p0 + 1) 0 (p0 + 2)) (p0 + 23)) M4 r5 hr5) (Nat.le_of_ble_eq_true rfl) dX0_init_33 (zrm_ok rfl) (fun r5 hr5 hf => ?_)
  refine rI_eqS (S1 := (zct kd (rc_X5 (uN (uR (rc_X5 (uN (uR (uN R (p0 + 1)) p0 0 (p0 + 1)) (p0 + 2)) (p0 + 2)) (p0 + 1) 0 (p0 + 2)) (p0 + 23)) (p0 + 23)) (p0 + 44))) rfl (rI_eqZ (Z1 := (· = p0 + 44)) rfl (r_widen (k1 := 43) (s1 := 298) (by decide) (by decide) ?_))
  refine rI_aast (t := 6) (n0 := 14) (j := 1) C0 (zct_k (by omega) (hkk 1 (by decide +kernel))) (by decide) (by decide) rfl (zct_k (by omega) (hkk 23 (by decide +kernel))) rfl rfl rfl dX0_init_36 ?_
  refine rI_eqS (S1 := (zct kd (uR (rc_X5 (uN (uR (rc_X5 (uN (uR (uN R (p0 + 1)) p0 0 (p0 + 1)) (p0 + 2)) (p0 + 2)) (p0 + 1) 0 (p0 + 2)) (p0 + 23)) (p0 + 23)) (p0 + 1) 1 (p0 + 23)) (p0 + 44))) rfl ?_
  refine r_iinc (j := 0) (v := (2 : Int32)) (L' := [(1, .int (2 : Int32)), (0, .ref p0)]) C0 dX0_init_37 rfl (by decide) (by decide) rfl ?_
  refine r_goto C0 15 dX0_init_40 (by decide) ?_
  refine r_iload_n C0 dX0_init_15 rfl 0 rfl ?_
  refine r_aload_n C0 dX0_init_16 rfl 1 rfl ?_
  refine r_getR C0 (C := RX0) (T := TX0) cl_X0 (zct_k (by omega) (hkk 0 (by decide +kernel))) (k := 0) (by decide) qw_2 rfl (show (uR (rc_X5 (uN (uR (rc_X5 (uN (uR (uN R (p0 + 1)) p0 0 (p0 + 1)) (p0 + 2)) (p0 + 2)) (p0 + 1) 0 (p0 + 2)) (p0 + 23)) (p0 + 23)) (p0 + 1) 1 (p0 + 23)) p0 0 = some (p0 + 1) by simp (disch := omega) only [uR_eq, uR_ne, uN_ne, uR_nj, rc_X5_out]) dX0_init_17 ?_
  refine r_alen (v := 14) C0 (zct_k (by omega) (hkk 1 (by decide +kernel))) (by decide) rfl dX0_init_20 ?_
  refine r_icmp_ge_f C0 43 dX0_init_21 (by decide) (by decide) ?_
  refine r_aload_n C0 dX0_init_24 rfl 1 rfl ?_
  refine r_getR C0 (C := RX0) (T := TX0) cl_X0 (zct_k (by omega) (hkk 0 (by decide +kernel))) (k := 0) (by decide) qw_2 rfl (show (uR (rc_X5 (uN (uR (rc_X5 (uN (uR (uN R (p0 + 1)) p0 0 (p0 + 1)) (p0 + 2)) (p0 + 2)) (p0 + 1) 0 (p0 + 2)) (p0 + 23)) (p0 + 23)) (p0 + 1) 1 (p0 + 23)) p0 0 = some (p0 + 1) by simp (disch := omega) only [uR_eq, uR_ne, uN_ne, uR_nj, rc_X5_out]) dX0_init_25 ?_
  refine r_iload_n C0 dX0_init_28 rfl 0 rfl ?_
  refine rI_new C0 cl_X5 (hkk 44 (by decide +kernel)) qw_680 qw_682 qw_74 df_X5 hf (Nat.le_of_ble_eq_true rfl) (Nat.le_of_ble_eq_true rfl) dX0_init_29 (fun M6 eM6 hf => ?_)
  refine rI_eqS (S1 := (zct kd (uN (uR (rc_X5 (uN (uR (rc_X5 (uN (uR (uN R (p0 + 1)) p0 0 (p0 + 1)) (p0 + 2)) (p0 + 2)) (p0 + 1) 0 (p0 + 2)) (p0 + 23)) (p0 + 23)) (p0 + 1) 1 (p0 + 23)) (p0 + 44)) (p0 + 45))) rfl (rI_eqZ (Z1 := (· = p0 + 45)) rfl (r_widen (k1 := 44) (s1 := 310) (by decide) (by decide) ?_))
  refine r_dup C0 dX0_init_32 rfl ?_
  refine rI_call C0 hf vs_157 (fun hl r7 hr7 => c_X5_init hl F (p0 + 44) (kk_sub hkk (b := 44) (by decide) (by decide +kernel)) (uN (uR (rc_X5 (uN (uR (rc_X5 (uN (uR (uN R (p0 + 1)) p0 0 (p0 + 1)) (p0 + 2)) (p0 + 2)) (p0 + 1) 0 (p0 + 2)) (p0 + 23)) (p0 + 23)) (p0 + 1) 1 (p0 + 23)) (p0 + 44)) M6 r7 hr7) (Nat.le_of_ble_eq_true rfl) dX0_init_33 (zrm_ok rfl) (fun r7 hr7 hf => ?_)
  refine rI_eqS (S1 := (zct kd (rc_X5 (uN (uR (rc_X5 (uN (uR (rc_X5 (uN (uR (uN R (p0 + 1)) p0 0 (p0 + 1)) (p0 + 2)) (p0 + 2)) (p0 + 1) 0 (p0 + 2)) (p0 + 23)) (p0 + 23)) (p0 + 1) 1 (p0 + 23)) (p0 + 44)) (p0 + 44)) (p0 + 65))) rfl (rI_eqZ (Z1 := (· = p0 + 65)) rfl (r_widen (k1 := 64) (s1 := 440) (by decide) (by decide) ?_))
  refine rI_aast (t := 6) (n0 := 14) (j := 2) C0 (zct_k (by omega) (hkk 1 (by decide +kernel))) (by decide) (by decide) rfl (zct_k (by omega) (hkk 44 (by decide +kernel))) rfl rfl rfl dX0_init_36 ?_
  refine rI_eqS (S1 := (zct kd (uR (rc_X5 (uN (uR (rc_X5 (uN (uR (rc_X5 (uN (uR (uN R (p0 + 1)) p0 0 (p0 + 1)) (p0 + 2)) (p0 + 2)) (p0 + 1) 0 (p0 + 2)) (p0 + 23)) (p0 + 23)) (p0 + 1) 1 (p0 + 23)) (p0 + 44)) (p0 + 44)) (p0 + 1) 2 (p0 + 44)) (p0 + 65))) rfl ?_
  refine r_iinc (j := 0) (v := (3 : Int32)) (L' := [(1, .int (3 : Int32)), (0, .ref p0)]) C0 dX0_init_37 rfl (by decide) (by decide) rfl ?_
  refine r_goto C0 15 dX0_init_40 (by decide) ?_
  refine r_iload_n C0 dX0_init_15 rfl 0 rfl ?_
  refine r_aload_n C0 dX0_init_16 rfl 1 rfl ?_
  refine r_getR C0 (C := RX0) (T := TX0) cl_X0 (zct_k (by omega) (hkk 0 (by decide +kernel))) (k := 0) (by decide) qw_2 rfl (show (uR (rc_X5 (uN (uR (rc_X5 (uN (uR (rc_X5 (uN (uR (uN R (p0 + 1)) p0 0 (p0 + 1)) (p0 + 2)) (p0 + 2)) (p0 + 1) 0 (p0 + 2)) (p0 + 23)) (p0 + 23)) (p0 + 1) 1 (p0 + 23)) (p0 + 44)) (p0 + 44)) (p0 + 1) 2 (p0 + 44)) p0 0 = some (p0 + 1) by simp (disch := omega) only [uR_eq, uR_ne, uN_ne, uR_nj, rc_X5_out]) dX0_init_17 ?_
  refine r_alen (v := 14) C0 (zct_k (by omega) (hkk 1 (by decide +kernel))) (by decide) rfl dX0_init_20 ?_
  refine r_icmp_ge_f C0 43 dX0_init_21 (by decide) (by decide) ?_
  refine r_aload_n C0 dX0_init_24 rfl 1 rfl ?_
  refine r_getR C0 (C := RX0) (T := TX0) cl_X0 (zct_k (by omega) (hkk 0 (by decide +kernel))) (k := 0) (by decide) qw_2 rfl (show (uR (rc_X5 (uN (uR (rc_X5 (uN (uR (rc_X5 (uN (uR (uN R (p0 + 1)) p0 0 (p0 + 1)) (p0 + 2)) (p0 + 2)) (p0 + 1) 0 (p0 + 2)) (p0 + 23)) (p0 + 23)) (p0 + 1) 1 (p0 + 23)) (p0 + 44)) (p0 + 44)) (p0 + 1) 2 (p0 + 44)) p0 0 = some (p0 + 1) by simp (disch := omega) only [uR_eq, uR_ne, uN_ne, uR_nj, rc_X5_out]) dX0_init_25 ?_
  refine r_iload_n C0 dX0_init_28 rfl 0 rfl ?_
  refine rI_new C0 cl_X5 (hkk 65 (by decide +kernel)) qw_680 qw_682 qw_74 df_X5 hf (Nat.le_of_ble_eq_true rfl) (Nat.le_of_ble_eq_true rfl) dX0_init_29 (fun M8 eM8 hf => ?_)
  refine rI_eqS (S1 := (zct kd (uN (uR (rc_X5 (uN (uR (rc_X5 (uN (uR (rc_X5 (uN (uR (uN R (p0 + 1)) p0 0 (p0 + 1)) (p0 + 2)) (p0 + 2)) (p0 + 1) 0 (p0 + 2)) (p0 + 23)) (p0 + 23)) (p0 + 1) 1 (p0 + 23)) (p0 + 44)) (p0 + 44)) (p0 + 1) 2 (p0 + 44)) (p0 + 65)) (p0 + 66))) rfl (rI_eqZ (Z1 := (· = p0 + 66)) rfl (r_widen (k1 := 65) (s1 := 452) (by decide) (by decide) ?_))
  refine r_dup C0 dX0_init_32 rfl ?_
  refine rI_call C0 hf vs_157 (fun hl r9 hr9 => c_X5_init hl F (p0 + 65) (kk_sub hkk (b := 65) (by decide) (by decide +kernel)) (uN (uR (rc_X5 (uN (uR (rc_X5 (uN (uR (rc_X5 (uN (uR (uN R (p0 + 1)) p0 0 (p0 + 1)) (p0 + 2)) (p0 + 2)) (p0 + 1) 0 (p0 + 2)) (p0 + 23)) (p0 + 23)) (p0 + 1) 1 (p0 + 23)) (p0 + 44)) (p0 + 44)) (p0 + 1) 2 (p0 + 44)) (p0 + 65)) M8 r9 hr9) (Nat.le_of_ble_eq_true rfl) dX0_init_33 (zrm_ok rfl) (fun r9 hr9 hf => ?_)
  refine rI_eqS (S1 := (zct kd (rc_X5 (uN (uR (rc_X5 (uN (uR (rc_X5 (uN (uR (rc_X5 (uN (uR (uN R (p0 + 1)) p0 0 (p0 + 1)) (p0 + 2)) (p0 + 2)) (p0 + 1) 0 (p0 + 2)) (p0 + 23)) (p0 + 23)) (p0 + 1) 1 (p0 + 23)) (p0 + 44)) (p0 + 44)) (p0 + 1) 2 (p0 + 44)) (p0 + 65)) (p0 + 65)) (p0 + 86))) rfl (rI_eqZ (Z1 := (· = p0 + 86)) rfl (r_widen (k1 := 85) (s1 := 582) (by decide) (by decide) ?_))
  refine rI_aast (t := 6) (n0 := 14) (j := 3) C0 (zct_k (by omega) (hkk 1 (by decide +kernel))) (by decide) (by decide) rfl (zct_k (by omega) (hkk 65 (by decide +kernel))) rfl rfl rfl dX0_init_36 ?_
  refine rI_eqS (S1 := (zct kd (uR (rc_X5 (uN (uR (rc_X5 (uN (uR (rc_X5 (uN (uR (rc_X5 (uN (uR (uN R (p0 + 1)) p0 0 (p0 + 1)) (p0 + 2)) (p0 + 2)) (p0 + 1) 0 (p0 + 2)) (p0 + 23)) (p0 + 23)) (p0 + 1) 1 (p0 + 23)) (p0 + 44)) (p0 + 44)) (p0 + 1) 2 (p0 + 44)) (p0 + 65)) (p0 + 65)) (p0 + 1) 3 (p0 + 65)) (p0 + 86))) rfl ?_
  refine r_iinc (j := 0) (v := (4 : Int32)) (L' := [(1, .int (4 : Int32)), (0, .ref p0)]) C0 dX0_init_37 rfl (by decide) (by decide) rfl ?_
  refine r_goto C0 15 dX0_init_40 (by decide) ?_
  refine r_iload_n C0 dX0_init_15 rfl 0 rfl ?_
  refine r_aload_n C0 dX0_init_16 rfl 1 rfl ?_
  refine r_getR C0 (C := RX0) (T := TX0) cl_X0 (zct_k (by omega) (hkk 0 (by decide +kernel))) (k := 0) (by decide) qw_2 rfl (show (uR (rc_X5 (uN (uR (rc_X5 (uN (uR (rc_X5 (uN (uR (rc_X5 (uN (uR (uN R (p0 + 1)) p0 0 (p0 + 1)) (p0 + 2)) (p0 + 2)) (p0 + 1) 0 (p0 + 2)) (p0 + 23)) (p0 + 23)) (p0 + 1) 1 (p0 + 23)) (p0 + 44)) (p0 + 44)) (p0 + 1) 2 (p0 + 44)) (p0 + 65)) (p0 + 65)) (p0 + 1) 3 (p0 + 65)) p0 0 = some (p0 + 1) by simp (disch := omega) only [uR_eq, uR_ne, uN_ne, uR_nj, rc_X5_out]) dX0_init_17 ?_
  refine r_alen (v := 14) C0 (zct_k (by omega) (hkk 1 (by decide +kernel))) (by decide) rfl dX0_init_20 ?_
  refine r_icmp_ge_f C0 43 dX0_init_21 (by decide) (by decide) ?_
  refine r_aload_n C0 dX0_init_24 rfl 1 rfl ?_
  refine r_getR C0 (C := RX0) (T := TX0) cl_X0 (zct_k (by omega) (hkk 0 (by decide +kernel))) (k := 0) (by decide) qw_2 rfl (show (uR (rc_X5 (uN (uR (rc_X5 (uN (uR (rc_X5 (uN (uR (rc_X5 (uN (uR (uN R (p0 + 1)) p0 0 (p0 + 1)) (p0 + 2)) (p0 + 2)) (p0 + 1) 0 (p0 + 2)) (p0 + 23)) (p0 + 23)) (p0 + 1) 1 (p0 + 23)) (p0 + 44)) (p0 + 44)) (p0 + 1) 2 (p0 + 44)) (p0 + 65)) (p0 + 65)) (p0 + 1) 3 (p0 + 65)) p0 0 = some (p0 + 1) by simp (disch := omega) only [uR_eq, uR_ne, uN_ne, uR_nj, rc_X5_out]) dX0_init_25 ?_
  refine r_iload_n C0 dX0_init_28 rfl 0 rfl ?_
  refine rI_new C0 cl_X5 (hkk 86 (by decide +kernel)) qw_680 qw_682 qw_74 df_X5 hf (Nat.le_of_ble_eq_true rfl) (Nat.le_of_ble_eq_true rfl) dX0_init_29 (fun M10 eM10 hf => ?_)
  refine rI_eqS (S1 := (zct kd (uN (uR (rc_X5 (uN (uR (rc_X5 (uN (uR (rc_X5 (uN (uR (rc_X5 (uN (uR (uN R (p0 + 1)) p0 0 (p0 + 1)) (p0 + 2)) (p0 + 2)) (p0 + 1) 0 (p0 + 2)) (p0 + 23)) (p0 + 23)) (p0 + 1) 1 (p0 + 23)) (p0 + 44)) (p0 + 44)) (p0 + 1) 2 (p0 + 44)) (p0 + 65)) (p0 + 65)) (p0 + 1) 3 (p0 + 65)) (p0 + 86)) (p0 + 87))) rfl (rI_eqZ (Z1 := (· = p0 + 87)) rfl (r_widen (k1 := 86) (s1 := 594) (by decide) (by decide) ?_))
  refine r_dup C0 dX0_init_32 rfl ?_
  refine rI_call C0 hf vs_157 (fun hl r11 hr11 => c_X5_init hl F (p0 + 86) (kk_sub hkk (b := 86) (by decide) (by decide +kernel)) (uN (uR (rc_X5 (uN (uR (rc_X5 (uN (uR (rc_X5 (uN (uR (rc_X5 (uN (uR (uN R (p0 + 1)) p0 0 (p0 + 1)) (p0 + 2)) (p0 + 2)) (p0 + 1) 0 (p0 + 2)) (p0 + 23)) (p0 + 23)) (p0 + 1) 1 (p0 + 23)) (p0 + 44)) (p0 + 44)) (p0 + 1) 2 (p0 + 44)) (p0 + 65)) (p0 + 65)) (p0 + 1) 3 (p0 + 65)) (p0 + 86)) M10 r11 hr11) (Nat.le_of_ble_eq_true rfl) dX0_init_33 (zrm_ok rfl) (fun r11 hr11 hf => ?_)
  refine rI_eqS (S1 := (zct kd (rc_X5 (uN (uR (rc_X5 (uN (uR (rc_X5 (uN (uR (rc_X5 (uN (uR (rc_X5 (uN (uR (uN R (p0 + 1)) p0 0 (p0 + 1)) (p0 + 2)) (p0 + 2)) (p0 + 1) 0 (p0 + 2)) (p0 + 23)) (p0 + 23)) (p0 + 1) 1 (p0 + 23)) (p0 + 44)) (p0 + 44)) (p0 + 1) 2 (p0 + 44)) (p0 + 65)) (p0 + 65)) (p0 + 1) 3 (p0 + 65)) (p0 + 86)) (p0 + 86)) (p0 + 107))) rfl (rI_eqZ (Z1 := (· = p0 + 107)) rfl (r_widen (k1 := 106) (s1 := 724) (by decide) (by decide) ?_))
  refine rI_aast (t := 6) (n0 := 14) (j := 4) C0 (zct_k (by omega) (hkk 1 (by decide +kernel))) (by decide) (by decide) rfl (zct_k (by omega) (hkk 86 (by decide +kernel))) rfl rfl rfl dX0_init_36 ?_
  refine rI_eqS (S1 := (zct kd (uR (rc_X5 (uN (uR (rc_X5 (uN (uR (rc_X5 (uN (uR (rc_X5 (uN (uR (rc_X5 (uN (uR (uN R (p0 + 1)) p0 0 (p0 + 1)) (p0 + 2)) (p0 + 2)) (p0 + 1) 0 (p0 + 2)) (p0 + 23)) (p0 + 23)) (p0 + 1) 1 (p0 + 23)) (p0 + 44)) (p0 + 44)) (p0 + 1) 2 (p0 + 44)) (p0 + 65)) (p0 + 65)) (p0 + 1) 3 (p0 + 65)) (p0 + 86)) (p0 + 86)) (p0 + 1) 4 (p0 + 86)) (p0 + 107))) rfl ?_
  refine r_iinc (j := 0) (v := (5 : Int32)) (L' := [(1, .int (5 : Int32)), (0, .ref p0)]) C0 dX0_init_37 rfl (by decide) (by decide) rfl ?_
  refine r_goto C0 15 dX0_init_40 (by decide) ?_
  refine r_iload_n C0 dX0_init_15 rfl 0 rfl ?_
  refine r_aload_n C0 dX0_init_16 rfl 1 rfl ?_
  refine r_getR C0 (C := RX0) (T := TX0) cl_X0 (zct_k (by omega) (hkk 0 (by decide +kernel))) (k := 0) (by decide) qw_2 rfl (show (uR (rc_X5 (uN (uR (rc_X5 (uN (uR (rc_X5 (uN (uR (rc_X5 (uN (uR (rc_X5 (uN (uR (uN R (p0 + 1)) p0 0 (p0 + 1)) (p0 + 2)) (p0 + 2)) (p0 + 1) 0 (p0 + 2)) (p0 + 23)) (p0 + 23)) (p0 + 1) 1 (p0 + 23)) (p0 + 44)) (p0 + 44)) (p0 + 1) 2 (p0 + 44)) (p0 + 65)) (p0 + 65)) (p0 + 1) 3 (p0 + 65)) (p0 + 86)) (p0 + 86)) (p0 + 1) 4 (p0 + 86)) p0 0 = some (p0 + 1) by simp (disch := omega) only [uR_eq, uR_ne, uN_ne, uR_nj, rc_X5_out]) dX0_init_17 ?_
  refine r_alen (v := 14) C0 (zct_k (by omega) (hkk 1 (by decide +kernel))) (by decide) rfl dX0_init_20 ?_
  refine r_icmp_ge_f C0 43 dX0_init_21 (by decide) (by decide) ?_
  refine r_aload_n C0 dX0_init_24 rfl 1 rfl ?_
  refine r_getR C0 (C := RX0) (T := TX0) cl_X0 (zct_k (by omega) (hkk 0 (by decide +kernel))) (k := 0) (by decide) qw_2 rfl (show (uR (rc_X5 (uN (uR (rc_X5 (uN (uR (rc_X5 (uN (uR (rc_X5 (uN (uR (rc_X5 (uN (uR (uN R (p0 + 1)) p0 0 (p0 + 1)) (p0 + 2)) (p0 + 2)) (p0 + 1) 0 (p0 + 2)) (p0 + 23)) (p0 + 23)) (p0 + 1) 1 (p0 + 23)) (p0 + 44)) (p0 + 44)) (p0 + 1) 2 (p0 + 44)) (p0 + 65)) (p0 + 65)) (p0 + 1) 3 (p0 + 65)) (p0 + 86)) (p0 + 86)) (p0 + 1) 4 (p0 + 86)) p0 0 = some (p0 + 1) by simp (disch := omega) only [uR_eq, uR_ne, uN_ne, uR_nj, rc_X5_out]) dX0_init_25 ?_
  refine r_iload_n C0 dX0_init_28 rfl 0 rfl ?_
  refine rI_new C0 cl_X5 (hkk 107 (by decide +kernel)) qw_680 qw_682 qw_74 df_X5 hf (Nat.le_of_ble_eq_true rfl) (Nat.le_of_ble_eq_true rfl) dX0_init_29 (fun M12 eM12 hf => ?_)
  refine rI_eqS (S1 := (zct kd (uN (uR (rc_X5 (uN (uR (rc_X5 (uN (uR (rc_X5 (uN (uR (rc_X5 (uN (uR (rc_X5 (uN (uR (uN R (p0 + 1)) p0 0 (p0 + 1)) (p0 + 2)) (p0 + 2)) (p0 + 1) 0 (p0 + 2)) (p0 + 23)) (p0 + 23)) (p0 + 1) 1 (p0 + 23)) (p0 + 44)) (p0 + 44)) (p0 + 1) 2 (p0 + 44)) (p0 + 65)) (p0 + 65)) (p0 + 1) 3 (p0 + 65)) (p0 + 86)) (p0 + 86)) (p0 + 1) 4 (p0 + 86)) (p0 + 107)) (p0 + 108))) rfl (rI_eqZ (Z1 := (· = p0 + 108)) rfl (r_widen (k1 := 107) (s1 := 736) (by decide) (by decide) ?_))
  refine r_dup C0 dX0_init_32 rfl ?_
  refine rI_call C0 hf vs_157 (fun hl r13 hr13 => c_X5_init hl F (p0 + 107) (kk_sub hkk (b := 107) (by decide) (by decide +kernel)) (uN (uR (rc_X5 (uN (uR (rc_X5 (uN (uR (rc_X5 (uN (uR (rc_X5 (uN (uR (rc_X5 (uN (uR (uN R (p0 + 1)) p0 0 (p0 + 1)) (p0 + 2)) (p0 + 2)) (p0 + 1) 0 (p0 + 2)) (p0 + 23)) (p0 + 23)) (p0 + 1) 1 (p0 + 23)) (p0 + 44)) (p0 + 44)) (p0 + 1) 2 (p0 + 44)) (p0 + 65)) (p0 + 65)) (p0 + 1) 3 (p0 + 65)) (p0 + 86)) (p0 + 86)) (p0 + 1) 4 (p0 + 86)) (p0 + 107)) M12 r13 hr13) (Nat.le_of_ble_eq_true rfl) dX0_init_33 (zrm_ok rfl) (fun r13 hr13 hf => ?_)
  refine rI_eqS (S1 := (zct kd (rc_X5 (uN (uR (rc_X5 (uN (uR (rc_X5 (uN (uR (rc_X5 (uN (uR (rc_X5 (uN (uR (rc_X5 (uN (uR (uN R (p0 + 1)) p0 0 (p0 + 1)) (p0 + 2)) (p0 + 2)) (p0 + 1) 0 (p0 + 2)) (p0 + 23)) (p0 + 23)) (p0 + 1) 1 (p0 + 23)) (p0 + 44)) (p0 + 44)) (p0 + 1) 2 (p0 + 44)) (p0 + 65)) (p0 + 65)) (p0 + 1) 3 (p0 + 65)) (p0 + 86)) (p0 + 86)) (p0 + 1) 4 (p0 + 86)) (p0 + 107)) (p0 + 107)) (p0 + 128))) rfl (rI_eqZ (Z1 := (· = p0 + 128)) rfl (r_widen (k1 := 127) (s1 := 866) (by decide) (by decide) ?_))
  refine rI_aast (t := 6) (n0 := 14) (j := 5) C0 (zct_k (by omega) (hkk 1 (by decide +kernel))) (by decide) (by decide) rfl (zct_k (by omega) (hkk 107 (by decide +kernel))) rfl rfl rfl dX0_init_36 ?_
  refine rI_eqS (S1 := (zct kd (uR (rc_X5 (uN (uR (rc_X5 (uN (uR (rc_X5 (uN (uR (rc_X5 (uN (uR (rc_X5 (uN (uR (rc_X5 (uN (uR (uN R (p0 + 1)) p0 0 (p0 + 1)) (p0 + 2)) (p0 + 2)) (p0 + 1) 0 (p0 + 2)) (p0 + 23)) (p0 + 23)) (p0 + 1) 1 (p0 + 23)) (p0 + 44)) (p0 + 44)) (p0 + 1) 2 (p0 + 44)) (p0 + 65)) (p0 + 65)) (p0 + 1) 3 (p0 + 65)) (p0 + 86)) (p0 + 86)) (p0 + 1) 4 (p0 + 86)) (p0 + 107)) (p0 + 107)) (p0 + 1) 5 (p0 + 107)) (p0 + 128))) rfl ?_
  refine r_iinc (j := 0) (v := (6 : Int32)) (L' := [(1, .int (6 : Int32)), (0, .ref p0)]) C0 dX0_init_37 rfl (by decide) (by decide) rfl ?_
  refine r_goto C0 15 dX0_init_40 (by decide) ?_
  refine r_iload_n C0 dX0_init_15 rfl 0 rfl ?_
  refine r_aload_n C0 dX0_init_16 rfl 1 rfl ?_
  refine r_getR C0 (C := RX0) (T := TX0) cl_X0 (zct_k (by omega) (hkk 0 (by decide +kernel))) (k := 0) (by decide) qw_2 rfl (show (uR (rc_X5 (uN (uR (rc_X5 (uN (uR (rc_X5 (uN (uR (rc_X5 (uN (uR (rc_X5 (uN (uR (rc_X5 (uN (uR (uN R (p0 + 1)) p0 0 (p0 + 1)) (p0 + 2)) (p0 + 2)) (p0 + 1) 0 (p0 + 2)) (p0 + 23)) (p0 + 23)) (p0 + 1) 1 (p0 + 23)) (p0 + 44)) (p0 + 44)) (p0 + 1) 2 (p0 + 44)) (p0 + 65)) (p0 + 65)) (p0 + 1) 3 (p0 + 65)) (p0 + 86)) (p0 + 86)) (p0 + 1) 4 (p0 + 86)) (p0 + 107)) (p0 + 107)) (p0 + 1) 5 (p0 + 107)) p0 0 = some (p0 + 1) by simp (disch := omega) only [uR_eq, uR_ne, uN_ne, uR_nj, rc_X5_out]) dX0_init_17 ?_
  refine r_alen (v := 14) C0 (zct_k (by omega) (hkk 1 (by decide +kernel))) (by decide) rfl dX0_init_20 ?_
  refine r_icmp_ge_f C0 43 dX0_init_21 (by decide) (by decide) ?_
  refine r_aload_n C0 dX0_init_24 rfl 1 rfl ?_
  refine r_getR C0 (C := RX0) (T := TX0) cl_X0 (zct_k (by omega) (hkk 0 (by decide +kernel))) (k := 0) (by decide) qw_2 rfl (show (uR (rc_X5 (uN (uR (rc_X5 (uN (uR (rc_X5 (uN (uR (rc_X5 (uN (uR (rc_X5 (uN (uR (rc_X5 (uN (uR (uN R (p0 + 1)) p0 0 (p0 + 1)) (p0 + 2)) (p0 + 2)) (p0 + 1) 0 (p0 + 2)) (p0 + 23)) (p0 + 23)) (p0 + 1) 1 (p0 + 23)) (p0 + 44)) (p0 + 44)) (p0 + 1) 2 (p0 + 44)) (p0 + 65)) (p0 + 65)) (p0 + 1) 3 (p0 + 65)) (p0 + 86)) (p0 + 86)) (p0 + 1) 4 (p0 + 86)) (p0 + 107)) (p0 + 107)) (p0 + 1) 5 (p0 + 107)) p0 0 = some (p0 + 1) by simp (disch := omega) only [uR_eq, uR_ne, uN_ne, uR_nj, rc_X5_out]) dX0_init_25 ?_
  refine r_iload_n C0 dX0_init_28 rfl 0 rfl ?_
  refine rI_new C0 cl_X5 (hkk 128 (by decide +kernel)) qw_680 qw_682 qw_74 df_X5 hf (Nat.le_of_ble_eq_true rfl) (Nat.le_of_ble_eq_true rfl) dX0_init_29 (fun M14 eM14 hf => ?_)
  refine rI_eqS (S1 := (zct kd (uN (uR (rc_X5 (uN (uR (rc_X5 (uN (uR (rc_X5 (uN (uR (rc_X5 (uN (uR (rc_X5 (uN (uR (rc_X5 (uN (uR (uN R (p0 + 1)) p0 0 (p0 + 1)) (p0 + 2)) (p0 + 2)) (p0 + 1) 0 (p0 + 2)) (p0 + 23)) (p0 + 23)) (p0 + 1) 1 (p0 + 23)) (p0 + 44)) (p0 + 44)) (p0 + 1) 2 (p0 + 44)) (p0 + 65)) (p0 + 65)) (p0 + 1) 3 (p0 + 65)) (p0 + 86)) (p0 + 86)) (p0 + 1) 4 (p0 + 86)) (p0 + 107)) (p0 + 107)) (p0 + 1) 5 (p0 + 107)) (p0 + 128)) (p0 + 129))) rfl (rI_eqZ (Z1 := (· = p0 + 129)) rfl (r_widen (k1 := 128) (s1 := 878) (by decide) (by decide) ?_))
  refine r_dup C0 dX0_init_32 rfl ?_
  refine rI_call C0 hf vs_157 (fun hl r15 hr15 => c_X5_init hl F (p0 + 128) (kk_sub hkk (b := 128) (by decide) (by decide +kernel)) (uN (uR (rc_X5 (uN (uR (rc_X5 (uN (uR (rc_X5 (uN (uR (rc_X5 (uN (uR (rc_X5 (uN (uR (rc_X5 (uN (uR (uN R (p0 + 1)) p0 0 (p0 + 1)) (p0 + 2)) (p0 + 2)) (p0 + 1) 0 (p0 + 2)) (p0 + 23)) (p0 + 23)) (p0 + 1) 1 (p0 + 23)) (p0 + 44)) (p0 + 44)) (p0 + 1) 2 (p0 + 44)) (p0 + 65)) (p0 + 65)) (p0 + 1) 3 (p0 + 65)) (p0 + 86)) (p0 + 86)) (p0 + 1) 4 (p0 + 86)) (p0 + 107)) (p0 + 107)) (p0 + 1) 5 (p0 + 107)) (p0 + 128)) M14 r15 hr15) (Nat.le_of_ble_eq_true rfl) dX0_init_33 (zrm_ok rfl) (fun r15 hr15 hf => ?_)
  refine rI_eqS (S1 := (zct kd (rc_X5 (uN (uR (rc_X5 (uN (uR (rc_X5 (uN (uR (rc_X5 (uN (uR (rc_X5 (uN (uR (rc_X5 (uN (uR (rc_X5 (uN (uR (uN R (p0 + 1)) p0 0 (p0 + 1)) (p0 + 2)) (p0 + 2)) (p0 + 1) 0 (p0 + 2)) (p0 + 23)) (p0 + 23)) (p0 + 1) 1 (p0 + 23)) (p0 + 44)) (p0 + 44)) (p0 + 1) 2 (p0 + 44)) (p0 + 65)) (p0 + 65)) (p0 + 1) 3 (p0 + 65)) (p0 + 86)) (p0 + 86)) (p0 + 1) 4 (p0 + 86)) (p0 + 107)) (p0 + 107)) (p0 + 1) 5 (p0 + 107)) (p0 + 128)) (p0 + 128)) (p0 + 149))) rfl (rI_eqZ (Z1 := (· = p0 + 149)) rfl (r_widen (k1 := 148) (s1 := 1008) (by decide) (by decide) ?_))
  refine rI_aast (t := 6) (n0 := 14) (j := 6) C0 (zct_k (by omega) (hkk 1 (by decide +kernel))) (by decide) (by decide) rfl (zct_k (by omega) (hkk 128 (by decide +kernel))) rfl rfl rfl dX0_init_36 ?_
  refine rI_eqS (S1 := (zct kd (uR (rc_X5 (uN (uR (rc_X5 (uN (uR (rc_X5 (uN (uR (rc_X5 (uN (uR (rc_X5 (uN (uR (rc_X5 (uN (uR (rc_X5 (uN (uR (uN R (p0 + 1)) p0 0 (p0 + 1)) (p0 + 2)) (p0 + 2)) (p0 + 1) 0 (p0 + 2)) (p0 + 23)) (p0 + 23)) (p0 + 1) 1 (p0 + 23)) (p0 + 44)) (p0 + 44)) (p0 + 1) 2 (p0 + 44)) (p0 + 65)) (p0 + 65)) (p0 + 1) 3 (p0 + 65)) (p0 + 86)) (p0 + 86)) (p0 + 1) 4 (p0 + 86)) (p0 + 107)) (p0 + 107)) (p0 + 1) 5 (p0 + 107)) (p0 + 128)) (p0 + 128)) (p0 + 1) 6 (p0 + 128)) (p0 + 149))) rfl ?_
  refine r_iinc (j := 0) (v := (7 : Int32)) (L' := [(1, .int (7 : Int32)), (0, .ref p0)]) C0 dX0_init_37 rfl (by decide) (by decide) rfl ?_
  refine r_goto C0 15 dX0_init_40 (by decide) ?_
  refine r_iload_n C0 dX0_init_15 rfl 0 rfl ?_
  refine r_aload_n C0 dX0_init_16 rfl 1 rfl ?_
  refine r_getR C0 (C := RX0) (T := TX0) cl_X0 (zct_k (by omega) (hkk 0 (by decide +kernel))) (k := 0) (by decide) qw_2 rfl (show (uR (rc_X5 (uN (uR (rc_X5 (uN (uR (rc_X5 (uN (uR (rc_X5 (uN (uR (rc_X5 (uN (uR (rc_X5 (uN (uR (rc_X5 (uN (uR (uN R (p0 + 1)) p0 0 (p0 + 1)) (p0 + 2)) (p0 + 2)) (p0 + 1) 0 (p0 + 2)) (p0 + 23)) (p0 + 23)) (p0 + 1) 1 (p0 + 23)) (p0 + 44)) (p0 + 44)) (p0 + 1) 2 (p0 + 44)) (p0 + 65)) (p0 + 65)) (p0 + 1) 3 (p0 + 65)) (p0 + 86)) (p0 + 86)) (p0 + 1) 4 (p0 + 86)) (p0 + 107)) (p0 + 107)) (p0 + 1) 5 (p0 + 107)) (p0 + 128)) (p0 + 128)) (p0 + 1) 6 (p0 + 128)) p0 0 = some (p0 + 1) by simp (disch := omega) only [uR_eq, uR_ne, uN_ne, uR_nj, rc_X5_out]) dX0_init_17 ?_
  refine r_alen (v := 14) C0 (zct_k (by omega) (hkk 1 (by decide +kernel))) (by decide) rfl dX0_init_20 ?_
  refine r_icmp_ge_f C0 43 dX0_init_21 (by decide) (by decide) ?_
  refine r_aload_n C0 dX0_init_24 rfl 1 rfl ?_
  refine r_getR C0 (C := RX0) (T := TX0) cl_X0 (zct_k (by omega) (hkk 0 (by decide +kernel))) (k := 0) (by decide) qw_2 rfl (show (uR (rc_X5 (uN (uR (rc_X5 (uN (uR (rc_X5 (uN (uR (rc_X5 (uN (uR (rc_X5 (uN (uR (rc_X5 (uN (uR (rc_X5 (uN (uR (uN R (p0 + 1)) p0 0 (p0 + 1)) (p0 + 2)) (p0 + 2)) (p0 + 1) 0 (p0 + 2)) (p0 + 23)) (p0 + 23)) (p0 + 1) 1 (p0 + 23)) (p0 + 44)) (p0 + 44)) (p0 + 1) 2 (p0 + 44)) (p0 + 65)) (p0 + 65)) (p0 + 1) 3 (p0 + 65)) (p0 + 86)) (p0 + 86)) (p0 + 1) 4 (p0 + 86)) (p0 + 107)) (p0 + 107)) (p0 + 1) 5 (p0 + 107)) (p0 + 128)) (p0 + 128)) (p0 + 1) 6 (p0 + 128)) p0 0 = some (p0 + 1) by simp (disch := omega) only [uR_eq, uR_ne, uN_ne, uR_nj, rc_X5_out]) dX0_init_25 ?_
  refine r_iload_n C0 dX0_init_28 rfl 0 rfl ?_
  refine rI_new C0 cl_X5 (hkk 149 (by decide +kernel)) qw_680 qw_682 qw_74 df_X5 hf (Nat.le_of_ble_eq_true rfl) (Nat.le_of_ble_eq_true rfl) dX0_init_29 (fun M16 eM16 hf => ?_)
  refine rI_eqS (S1 := (zct kd (uN (uR (rc_X5 (uN (uR (rc_X5 (uN (uR (rc_X5 (uN (uR (rc_X5 (uN (uR (rc_X5 (uN (uR (rc_X5 (uN (uR (rc_X5 (uN (uR (uN R (p0 + 1)) p0 0 (p0 + 1)) (p0 + 2)) (p0 + 2)) (p0 + 1) 0 (p0 + 2)) (p0 + 23)) (p0 + 23)) (p0 + 1) 1 (p0 + 23)) (p0 + 44)) (p0 + 44)) (p0 + 1) 2 (p0 + 44)) (p0 + 65)) (p0 + 65)) (p0 + 1) 3 (p0 + 65)) (p0 + 86)) (p0 + 86)) (p0 + 1) 4 (p0 + 86)) (p0 + 107)) (p0 + 107)) (p0 + 1) 5 (p0 + 107)) (p0 + 128)) (p0 + 128)) (p0 + 1) 6 (p0 + 128)) (p0 + 149)) (p0 + 150))) rfl (rI_eqZ (Z1 := (· = p0 + 150)) rfl (r_widen (k1 := 149) (s1 := 1020) (by decide) (by decide) ?_))
  refine r_dup C0 dX0_init_32 rfl ?_
  refine rI_call C0 hf vs_157 (fun hl r17 hr17 => c_X5_init hl F (p0 + 149) (kk_sub hkk (b := 149) (by decide) (by decide +kernel)) (uN (uR (rc_X5 (uN (uR (rc_X5 (uN (uR (rc_X5 (uN (uR (rc_X5 (uN (uR (rc_X5 (uN (uR (rc_X5 (uN (uR (rc_X5 (uN (uR (uN R (p0 + 1)) p0 0 (p0 + 1)) (p0 + 2)) (p0 + 2)) (p0 + 1) 0 (p0 + 2)) (p0 + 23)) (p0 + 23)) (p0 + 1) 1 (p0 + 23)) (p0 + 44)) (p0 + 44)) (p0 + 1) 2 (p0 + 44)) (p0 + 65)) (p0 + 65)) (p0 + 1) 3 (p0 + 65)) (p0 + 86)) (p0 + 86)) (p0 + 1) 4 (p0 + 86)) (p0 + 107)) (p0 + 107)) (p0 + 1) 5 (p0 + 107)) (p0 + 128)) (p0 + 128)) (p0 + 1) 6 (p0 + 128)) (p0 + 149)) M16 r17 hr17) (Nat.le_of_ble_eq_true rfl) dX0_init_33 (zrm_ok rfl) (fun r17 hr17 hf => ?_)
  refine rI_eqS (S1 := (zct kd (rc_X5 (uN (uR (rc_X5 (uN (uR (rc_X5 (uN (uR (rc_X5 (uN (uR (rc_X5 (uN (uR (rc_X5 (uN (uR (rc_X5 (uN (uR (rc_X5 (uN (uR (uN R (p0 + 1)) p0 0 (p0 + 1)) (p0 + 2)) (p0 + 2)) (p0 + 1) 0 (p0 + 2)) (p0 + 23)) (p0 + 23)) (p0 + 1) 1 (p0 + 23)) (p0 + 44)) (p0 + 44)) (p0 + 1) 2 (p0 + 44)) (p0 + 65)) (p0 + 65)) (p0 + 1) 3 (p0 + 65)) (p0 + 86)) (p0 + 86)) (p0 + 1) 4 (p0 + 86)) (p0 + 107)) (p0 + 107)) (p0 + 1) 5 (p0 + 107)) (p0 + 128)) (p0 + 128)) (p0 + 1) 6 (p0 + 128)) (p0 + 149)) (p0 + 149)) (p0 + 170))) rfl (rI_eqZ (Z1 := (· = p0 + 170)) rfl (r_widen (k1 := 169) (s1 := 1150) (by decide) (by decide) ?_))
  refine rI_aast (t := 6) (n0 := 14) (j := 7) C0 (zct_k (by omega) (hkk 1 (by decide +kernel))) (by decide) (by decide) rfl (zct_k (by omega) (hkk 149 (by decide +kernel))) rfl rfl rfl dX0_init_36 ?_
  refine rI_eqS (S1 := (zct kd (uR (rc_X5 (uN (uR (rc_X5 (uN (uR (rc_X5 (uN (uR (rc_X5 (uN (uR (rc_X5 (uN (uR (rc_X5 (uN (uR (rc_X5 (uN (uR (rc_X5 (uN (uR (uN R (p0 + 1)) p0 0 (p0 + 1)) (p0 + 2)) (p0 + 2)) (p0 + 1) 0 (p0 + 2)) (p0 + 23)) (p0 + 23)) (p0 + 1) 1 (p0 + 23)) (p0 + 44)) (p0 + 44)) (p0 + 1) 2 (p0 + 44)) (p0 + 65)) (p0 + 65)) (p0 + 1) 3 (p0 + 65)) (p0 + 86)) (p0 + 86)) (p0 + 1) 4 (p0 + 86)) (p0 + 107)) (p0 + 107)) (p0 + 1) 5 (p0 + 107)) (p0 + 128)) (p0 + 128)) (p0 + 1) 6 (p0 + 128)) (p0 + 149)) (p0 + 149)) (p0 + 1) 7 (p0 + 149)) (p0 + 170))) rfl ?_
  refine r_iinc (j := 0) (v := (8 : Int32)) (L' := [(1, .int (8 : Int32)), (0, .ref p0)]) C0 dX0_init_37 rfl (by decide) (by decide) rfl ?_
  refine r_goto C0 15 dX0_init_40 (by decide) ?_
  refine r_iload_n C0 dX0_init_15 rfl 0 rfl ?_
  refine r_aload_n C0 dX0_init_16 rfl 1 rfl ?_
  refine r_getR C0 (C := RX0) (T := TX0) cl_X0 (zct_k (by omega) (hkk 0 (by decide +kernel))) (k := 0) (by decide) qw_2 rfl (show (uR (rc_X5 (uN (uR (rc_X5 (uN (uR (rc_X5 (uN (uR (rc_X5 (uN (uR (rc_X5 (uN (uR (rc_X5 (uN (uR (rc_X5 (uN (uR (rc_X5 (uN (uR (uN R (p0 + 1)) p0 0 (p0 + 1)) (p0 + 2)) (p0 + 2)) (p0 + 1) 0 (p0 + 2)) (p0 + 23)) (p0 + 23)) (p0 + 1) 1 (p0 + 23)) (p0 + 44)) (p0 + 44)) (p0 + 1) 2 (p0 + 44)) (p0 + 65)) (p0 + 65)) (p0 + 1) 3 (p0 + 65)) (p0 + 86)) (p0 + 86)) (p0 + 1) 4 (p0 + 86)) (p0 + 107)) (p0 + 107)) (p0 + 1) 5 (p0 + 107)) (p0 + 128)) (p0 + 128)) (p0 + 1) 6 (p0 + 128)) (p0 + 149)) (p0 + 149)) (p0 + 1) 7 (p0 + 149)) p0 0 = some (p0 + 1) by simp (disch := omega) only [uR_eq, uR_ne, uN_ne, uR_nj, rc_X5_out]) dX0_init_17 ?_
  refine r_alen (v := 14) C0 (zct_k (by omega) (hkk 1 (by decide +kernel))) (by decide) rfl dX0_init_20 ?_
  refine r_icmp_ge_f C0 43 dX0_init_21 (by decide) (by decide) ?_
  refine r_aload_n C0 dX0_init_24 rfl 1 rfl ?_
  refine r_getR C0 (C := RX0) (T := TX0) cl_X0 (zct_k (by omega) (hkk 0 (by decide +kernel))) (k := 0) (by decide) qw_2 rfl (show (uR (rc_X5 (uN (uR (rc_X5 (uN (uR (rc_X5 (uN (uR (rc_X5 (uN (uR (rc_X5 (uN (uR (rc_X5 (uN (uR (rc_X5 (uN (uR (rc_X5 (uN (uR (uN R (p0 + 1)) p0 0 (p0 + 1)) (p0 + 2)) (p0 + 2)) (p0 + 1) 0 (p0 + 2)) (p0 + 23)) (p0 + 23)) (p0 + 1) 1 (p0 + 23)) (p0 + 44)) (p0 + 44)) (p0 + 1) 2 (p0 + 44)) (p0 + 65)) (p0 + 65)) (p0 + 1) 3 (p0 + 65)) (p0 + 86)) (p0 + 86)) (p0 + 1) 4 (p0 + 86)) (p0 + 107)) (p0 + 107)) (p0 + 1) 5 (p0 + 107)) (p0 + 128)) (p0 + 128)) (p0 + 1) 6 (p0 + 128)) (p0 + 149)) (p0 + 149)) (p0 + 1) 7 (p0 + 149)) p0 0 = some (p0 + 1) by simp (disch := omega) only [uR_eq, uR_ne, uN_ne, uR_nj, rc_X5_out]) dX0_init_25 ?_
  refine r_iload_n C0 dX0_init_28 rfl 0 rfl ?_
  refine rI_new C0 cl_X5 (hkk 170 (by decide +kernel)) qw_680 qw_682 qw_74 df_X5 hf (Nat.le_of_ble_eq_true rfl) (Nat.le_of_ble_eq_true rfl) dX0_init_29 (fun M18 eM18 hf => ?_)
  refine rI_eqS (S1 := (zct kd (uN (uR (rc_X5 (uN (uR (rc_X5 (uN (uR (rc_X5 (uN (uR (rc_X5 (uN (uR (rc_X5 (uN (uR (rc_X5 (uN (uR (rc_X5 (uN (uR (rc_X5 (uN (uR (uN R (p0 + 1)) p0 0 (p0 + 1)) (p0 + 2)) (p0 + 2)) (p0 + 1) 0 (p0 + 2)) (p0 + 23)) (p0 + 23)) (p0 + 1) 1 (p0 + 23)) (p0 + 44)) (p0 + 44)) (p0 + 1) 2 (p0 + 44)) (p0 + 65)) (p0 + 65)) (p0 + 1) 3 (p0 + 65)) (p0 + 86)) (p0 + 86)) (p0 + 1) 4 (p0 + 86)) (p0 + 107)) (p0 + 107)) (p0 + 1) 5 (p0 + 107)) (p0 + 128)) (p0 + 128)) (p0 + 1) 6 (p0 + 128)) (p0 + 149)) (p0 + 149)) (p0 + 1) 7 (p0 + 149)) (p0 + 170)) (p0 + 171))) rfl (rI_eqZ (Z1 := (· = p0 + 171)) rfl (r_widen (k1 := 170) (s1 := 1162) (by decide) (by decide) ?_))
  refine r_dup C0 dX0_init_32 rfl ?_
  refine rI_call C0 hf vs_157 (fun hl r19 hr19 => c_X5_init hl F (p0 + 170) (kk_sub hkk (b := 170) (by decide) (by decide +kernel)) (uN (uR (rc_X5 (uN (uR (rc_X5 (uN (uR (rc_X5 (uN (uR (rc_X5 (uN (uR (rc_X5 (uN (uR (rc_X5 (uN (uR (rc_X5 (uN (uR (rc_X5 (uN (uR (uN R (p0 + 1)) p0 0 (p0 + 1)) (p0 + 2)) (p0 + 2)) (p0 + 1) 0 (p0 + 2)) (p0 + 23)) (p0 + 23)) (p0 + 1) 1 (p0 + 23)) (p0 + 44)) (p0 + 44)) (p0 + 1) 2 (p0 + 44)) (p0 + 65)) (p0 + 65)) (p0 + 1) 3 (p0 + 65)) (p0 + 86)) (p0 + 86)) (p0 + 1) 4 (p0 + 86)) (p0 + 107)) (p0 + 107)) (p0 + 1) 5 (p0 + 107)) (p0 + 128)) (p0 + 128)) (p0 + 1) 6 (p0 + 128)) (p0 + 149)) (p0 + 149)) (p0 + 1) 7 (p0 + 149)) (p0 + 170)) M18 r19 hr19) (Nat.le_of_ble_eq_true rfl) dX0_init_33 (zrm_ok rfl) (fun r19 hr19 hf => ?_)
  refine rI_eqS (S1 := (zct kd (rc_X5 (uN (uR (rc_X5 (uN (uR (rc_X5 (uN (uR (rc_X5 (uN (uR (rc_X5 (uN (uR (rc_X5 (uN (uR (rc_X5 (uN (uR (rc_X5 (uN (uR (rc_X5 (uN (uR (uN R (p0 + 1)) p0 0 (p0 + 1)) (p0 + 2)) (p0 + 2)) (p0 + 1) 0 (p0 + 2)) (p0 + 23)) (p0 + 23)) (p0 + 1) 1 (p0 + 23)) (p0 + 44)) (p0 + 44)) (p0 + 1) 2 (p0 + 44)) (p0 + 65)) (p0 + 65)) (p0 + 1) 3 (p0 + 65)) (p0 + 86)) (p0 + 86)) (p0 + 1) 4 (p0 + 86)) (p0 + 107)) (p0 + 107)) (p0 + 1) 5 (p0 + 107)) (p0 + 128)) (p0 + 128)) (p0 + 1) 6 (p0 + 128)) (p0 + 149)) (p0 + 149)) (p0 + 1) 7 (p0 + 149)) (p0 + 170)) (p0 + 170)) (p0 + 191))) rfl (rI_eqZ (Z1 := (· = p0 + 191)) rfl (r_widen (k1 := 190) (s1 := 1292) (by decide) (by decide) ?_))
  refine rI_aast (t := 6) (n0 := 14) (j := 8) C0 (zct_k (by omega) (hkk 1 (by decide +kernel))) (by decide) (by decide) rfl (zct_k (by omega) (hkk 170 (by decide +kernel))) rfl rfl rfl dX0_init_36 ?_
  refine rI_eqS (S1 := (zct kd (uR (rc_X5 (uN (uR (rc_X5 (uN (uR (rc_X5 (uN (uR (rc_X5 (uN (uR (rc_X5 (uN (uR (rc_X5 (uN (uR (rc_X5 (uN (uR (rc_X5 (uN (uR (rc_X5 (uN (uR (uN R (p0 + 1)) p0 0 (p0 + 1)) (p0 + 2)) (p0 + 2)) (p0 + 1) 0 (p0 + 2)) (p0 + 23)) (p0 + 23)) (p0 + 1) 1 (p0 + 23)) (p0 + 44)) (p0 + 44)) (p0 + 1) 2 (p0 + 44)) (p0 + 65)) (p0 + 65)) (p0 + 1) 3 (p0 + 65)) (p0 + 86)) (p0 + 86)) (p0 + 1) 4 (p0 + 86)) (p0 + 107)) (p0 + 107)) (p0 + 1) 5 (p0 + 107)) (p0 + 128)) (p0 + 128)) (p0 + 1) 6 (p0 + 128)) (p0 + 149)) (p0 + 149)) (p0 + 1) 7 (p0 + 149)) (p0 + 170)) (p0 + 170)) (p0 + 1) 8 (p0 + 170)) (p0 + 191))) rfl ?_
  refine r_iinc (j := 0) (v := (9 : Int32)) (L' := [(1, .int (9 : Int32)), (0, .ref p0)]) C0 dX0_init_37 rfl (by decide) (by decide) rfl ?_
  refine r_goto C0 15 dX0_init_40 (by decide) ?_
  refine r_iload_n C0 dX0_init_15 rfl 0 rfl ?_
  refine r_aload_n C0 dX0_init_16 rfl 1 rfl ?_
  refine r_getR C0 (C := RX0) (T := TX0) cl_X0 (zct_k (by omega) (hkk 0 (by decide +kernel))) (k := 0) (by decide) qw_2 rfl (show (uR (rc_X5 (uN (uR (rc_X5 (uN (uR (rc_X5 (uN (uR (rc_X5 (uN (uR (rc_X5 (uN (uR (rc_X5 (uN (uR (rc_X5 (uN (uR (rc_X5 (uN (uR (rc_X5 (uN (uR (uN R (p0 + 1)) p0 0 (p0 + 1)) (p0 + 2)) (p0 + 2)) (p0 + 1) 0 (p0 + 2)) (p0 + 23)) (p0 + 23)) (p0 + 1) 1 (p0 + 23)) (p0 + 44)) (p0 + 44)) (p0 + 1) 2 (p0 + 44)) (p0 + 65)) (p0 + 65)) (p0 + 1) 3 (p0 + 65)) (p0 + 86)) (p0 + 86)) (p0 + 1) 4 (p0 + 86)) (p0 + 107)) (p0 + 107)) (p0 + 1) 5 (p0 + 107)) (p0 + 128)) (p0 + 128)) (p0 + 1) 6 (p0 + 128)) (p0 + 149)) (p0 + 149)) (p0 + 1) 7 (p0 + 149)) (p0 + 170)) (p0 + 170)) (p0 + 1) 8 (p0 + 170)) p0 0 = some (p0 + 1) by simp (disch := omega) only [uR_eq, uR_ne, uN_ne, uR_nj, rc_X5_out]) dX0_init_17 ?_
  refine r_alen (v := 14) C0 (zct_k (by omega) (hkk 1 (by decide +kernel))) (by decide) rfl dX0_init_20 ?_
  refine r_icmp_ge_f C0 43 dX0_init_21 (by decide) (by decide) ?_
  refine r_aload_n C0 dX0_init_24 rfl 1 rfl ?_
  refine r_getR C0 (C := RX0) (T := TX0) cl_X0 (zct_k (by omega) (hkk 0 (by decide +kernel))) (k := 0) (by decide) qw_2 rfl (show (uR (rc_X5 (uN (uR (rc_X5 (uN (uR (rc_X5 (uN (uR (rc_X5 (uN (uR (rc_X5 (uN (uR (rc_X5 (uN (uR (rc_X5 (uN (uR (rc_X5 (uN (uR (rc_X5 (uN (uR (uN R (p0 + 1)) p0 0 (p0 + 1)) (p0 + 2)) (p0 + 2)) (p0 + 1) 0 (p0 + 2)) (p0 + 23)) (p0 + 23)) (p0 + 1) 1 (p0 + 23)) (p0 + 44)) (p0 + 44)) (p0 + 1) 2 (p0 + 44)) (p0 + 65)) (p0 + 65)) (p0 + 1) 3 (p0 + 65)) (p0 + 86)) (p0 + 86)) (p0 + 1) 4 (p0 + 86)) (p0 + 107)) (p0 + 107)) (p0 + 1) 5 (p0 + 107)) (p0 + 128)) (p0 + 128)) (p0 + 1) 6 (p0 + 128)) (p0 + 149)) (p0 + 149)) (p0 + 1) 7 (p0 + 149)) (p0 + 170)) (p0 + 170)) (p0 + 1) 8 (p0 + 170)) p0 0 = some (p0 + 1) by simp (disch := omega) only [uR_eq, uR_ne, uN_ne, uR_nj, rc_X5_out]) dX0_init_25 ?_
  refine r_iload_n C0 dX0_init_28 rfl 0 rfl ?_
  refine rI_new C0 cl_X5 (hkk 191 (by decide +kernel)) qw_680 qw_682 qw_74 df_X5 hf (Nat.le_of_ble_eq_true rfl) (Nat.le_of_ble_eq_true rfl) dX0_init_29 (fun M20 eM20 hf => ?_)
  refine rI_eqS (S1 := (zct kd (uN (uR (rc_X5 (uN (uR (rc_X5 (uN (uR (rc_X5 (uN (uR (rc_X5 (uN (uR (rc_X5 (uN (uR (rc_X5 (uN (uR (rc_X5 (uN (uR (rc_X5 (uN (uR (rc_X5 (uN (uR (uN R (p0 + 1)) p0 0 (p0 + 1)) (p0 + 2)) (p0 + 2)) (p0 + 1) 0 (p0 + 2)) (p0 + 23)) (p0 + 23)) (p0 + 1) 1 (p0 + 23)) (p0 + 44)) (p0 + 44)) (p0 + 1) 2 (p0 + 44)) (p0 + 65)) (p0 + 65)) (p0 + 1) 3 (p0 + 65)) (p0 + 86)) (p0 + 86)) (p0 + 1) 4 (p0 + 86)) (p0 + 107)) (p0 + 107)) (p0 + 1) 5 (p0 + 107)) (p0 + 128)) (p0 + 128)) (p0 + 1) 6 (p0 + 128)) (p0 + 149)) (p0 + 149)) (p0 + 1) 7 (p0 + 149)) (p0 + 170)) (p0 + 170)) (p0 + 1) 8 (p0 + 170)) (p0 + 191)) (p0 + 192))) rfl (rI_eqZ (Z1 := (· = p0 + 192)) rfl (r_widen (k1 := 191) (s1 := 1304) (by decide) (by decide) ?_))
  refine r_dup C0 dX0_init_32 rfl ?_
  refine rI_call C0 hf vs_157 (fun hl r21 hr21 => c_X5_init hl F (p0 + 191) (kk_sub hkk (b := 191) (by decide) (by decide +kernel)) (uN (uR (rc_X5 (uN (uR (rc_X5 (uN (uR (rc_X5 (uN (uR (rc_X5 (uN (uR (rc_X5 (uN (uR (rc_X5 (uN (uR (rc_X5 (uN (uR (rc_X5 (uN (uR (rc_X5 (uN (uR (uN R (p0 + 1)) p0 0 (p0 + 1)) (p0 + 2)) (p0 + 2)) (p0 + 1) 0 (p0 + 2)) (p0 + 23)) (p0 + 23)) (p0 + 1) 1 (p0 + 23)) (p0 + 44)) (p0 + 44)) (p0 + 1) 2 (p0 + 44)) (p0 + 65)) (p0 + 65)) (p0 + 1) 3 (p0 + 65)) (p0 + 86)) (p0 + 86)) (p0 + 1) 4 (p0 + 86)) (p0 + 107)) (p0 + 107)) (p0 + 1) 5 (p0 + 107)) (p0 + 128)) (p0 + 128)) (p0 + 1) 6 (p0 + 128)) (p0 + 149)) (p0 + 149)) (p0 + 1) 7 (p0 + 149)) (p0 + 170)) (p0 + 170)) (p0 + 1) 8 (p0 + 170)) (p0 + 191)) M20 r21 hr21) (Nat.le_of_ble_eq_true rfl) dX0_init_33 (zrm_ok rfl) (fun r21 hr21 hf => ?_)
  refine rI_eqS (S1 := (zct kd (rc_X5 (uN (uR (rc_X5 (uN (uR (rc_X5 (uN (uR (rc_X5 (uN (uR (rc_X5 (uN (uR (rc_X5 (uN (uR (rc_X5 (uN (uR (rc_X5 (uN (uR (rc_X5 (uN (uR (rc_X5 (uN (uR (uN R (p0 + 1)) p0 0 (p0 + 1)) (p0 + 2)) (p0 + 2)) (p0 + 1) 0 (p0 + 2)) (p0 + 23)) (p0 + 23)) (p0 + 1) 1 (p0 + 23)) (p0 + 44)) (p0 + 44)) (p0 + 1) 2 (p0 + 44)) (p0 + 65)) (p0 + 65)) (p0 + 1) 3 (p0 + 65)) (p0 + 86)) (p0 + 86)) (p0 + 1) 4 (p0 + 86)) (p0 + 107)) (p0 + 107)) (p0 + 1) 5 (p0 + 107)) (p0 + 128)) (p0 + 128)) (p0 + 1) 6 (p0 + 128)) (p0 + 149)) (p0 + 149)) (p0 + 1) 7 (p0 + 149)) (p0 + 170)) (p0 + 170)) (p0 + 1) 8 (p0 + 170)) (p0 + 191)) (p0 + 191)) (p0 + 212))) rfl (rI_eqZ (Z1 := (· = p0 + 212)) rfl (r_widen (k1 := 211) (s1 := 1434) (by decide) (by decide) ?_))
  refine rI_aast (t := 6) (n0 := 14) (j := 9) C0 (zct_k (by omega) (hkk 1 (by decide +kernel))) (by decide) (by decide) rfl (zct_k (by omega) (hkk 191 (by decide +kernel))) rfl rfl rfl dX0_init_36 ?_
  refine rI_eqS (S1 := (zct kd (uR (rc_X5 (uN (uR (rc_X5 (uN (uR (rc_X5 (uN (uR (rc_X5 (uN (uR (rc_X5 (uN (uR (rc_X5 (uN (uR (rc_X5 (uN (uR (rc_X5 (uN (uR (rc_X5 (uN (uR (rc_X5 (uN (uR (uN R (p0 + 1)) p0 0 (p0 + 1)) (p0 + 2)) (p0 + 2)) (p0 + 1) 0 (p0 + 2)) (p0 + 23)) (p0 + 23)) (p0 + 1) 1 (p0 + 23)) (p0 + 44)) (p0 + 44)) (p0 + 1) 2 (p0 + 44)) (p0 + 65)) (p0 + 65)) (p0 + 1) 3 (p0 + 65)) (p0 + 86)) (p0 + 86)) (p0 + 1) 4 (p0 + 86)) (p0 + 107)) (p0 + 107)) (p0 + 1) 5 (p0 + 107)) (p0 + 128)) (p0 + 128)) (p0 + 1) 6 (p0 + 128)) (p0 + 149)) (p0 + 149)) (p0 + 1) 7 (p0 + 149)) (p0 + 170)) (p0 + 170)) (p0 + 1) 8 (p0 + 170)) (p0 + 191)) (p0 + 191)) (p0 + 1) 9 (p0 + 191)) (p0 + 212))) rfl ?_
  refine r_iinc (j := 0) (v := (10 : Int32)) (L' := [(1, .int (10 : Int32)), (0, .ref p0)]) C0 dX0_init_37 rfl (by decide) (by decide) rfl ?_
  refine r_goto C0 15 dX0_init_40 (by decide) ?_
  refine r_iload_n C0 dX0_init_15 rfl 0 rfl ?_
  refine r_aload_n C0 dX0_init_16 rfl 1 rfl ?_
  refine r_getR C0 (C := RX0) (T := TX0) cl_X0 (zct_k (by omega) (hkk 0 (by decide +kernel))) (k := 0) (by decide) qw_2 rfl (show (uR (rc_X5 (uN (uR (rc_X5 (uN (uR (rc_X5 (uN (uR (rc_X5 (uN (uR (rc_X5 (uN (uR (rc_X5 (uN (uR (rc_X5 (uN (uR (rc_X5 (uN (uR (rc_X5 (uN (uR (rc_X5 (uN (uR (uN R (p0 + 1)) p0 0 (p0 + 1)) (p0 + 2)) (p0 + 2)) (p0 + 1) 0 (p0 + 2)) (p0 + 23)) (p0 + 23)) (p0 + 1) 1 (p0 + 23)) (p0 + 44)) (p0 + 44)) (p0 + 1) 2 (p0 + 44)) (p0 + 65)) (p0 + 65)) (p0 + 1) 3 (p0 + 65)) (p0 + 86)) (p0 + 86)) (p0 + 1) 4 (p0 + 86)) (p0 + 107)) (p0 + 107)) (p0 + 1) 5 (p0 + 107)) (p0 + 128)) (p0 + 128)) (p0 + 1) 6 (p0 + 128)) (p0 + 149)) (p0 + 149)) (p0 + 1) 7 (p0 + 149)) (p0 + 170)) (p0 + 170)) (p0 + 1) 8 (p0 + 170)) (p0 + 191)) (p0 + 191)) (p0 + 1) 9 (p0 + 191)) p0 0 = some (p0 + 1) by simp (disch := omega) only [uR_eq, uR_ne, uN_ne, uR_nj, rc_X5_out]) dX0_init_17 ?_
  refine r_alen (v := 14) C0 (zct_k (by omega) (hkk 1 (by decide +kernel))) (by decide) rfl dX0_init_20 ?_
  refine r_icmp_ge_f C0 43 dX0_init_21 (by decide) (by decide) ?_
  refine r_aload_n C0 dX0_init_24 rfl 1 rfl ?_
  refine r_getR C0 (C := RX0) (T := TX0) cl_X0 (zct_k (by omega) (hkk 0 (by decide +kernel))) (k := 0) (by decide) qw_2 rfl (show (uR (rc_X5 (uN (uR (rc_X5 (uN (uR (rc_X5 (uN (uR (rc_X5 (uN (uR (rc_X5 (uN (uR (rc_X5 (uN (uR (rc_X5 (uN (uR (rc_X5 (uN (uR (rc_X5 (uN (uR (rc_X5 (uN (uR (uN R (p0 + 1)) p0 0 (p0 + 1)) (p0 + 2)) (p0 + 2)) (p0 + 1) 0 (p0 + 2)) (p0 + 23)) (p0 + 23)) (p0 + 1) 1 (p0 + 23)) (p0 + 44)) (p0 + 44)) (p0 + 1) 2 (p0 + 44)) (p0 + 65)) (p0 + 65)) (p0 + 1) 3 (p0 + 65)) (p0 + 86)) (p0 + 86)) (p0 + 1) 4 (p0 + 86)) (p0 + 107)) (p0 + 107)) (p0 + 1) 5 (p0 + 107)) (p0 + 128)) (p0 + 128)) (p0 + 1) 6 (p0 + 128)) (p0 + 149)) (p0 + 149)) (p0 + 1) 7 (p0 + 149)) (p0 + 170)) (p0 + 170)) (p0 + 1) 8 (p0 + 170)) (p0 + 191)) (p0 + 191)) (p0 + 1) 9 (p0 + 191)) p0 0 = some (p0 + 1) by simp (disch := omega) only [uR_eq, uR_ne, uN_ne, uR_nj, rc_X5_out]) dX0_init_25 ?_
  refine r_iload_n C0 dX0_init_28 rfl 0 rfl ?_
  refine rI_new C0 cl_X5 (hkk 212 (by decide +kernel)) qw_680 qw_682 qw_74 df_X5 hf (Nat.le_of_ble_eq_true rfl) (Nat.le_of_ble_eq_true rfl) dX0_init_29 (fun M22 eM22 hf => ?_)
  refine rI_eqS (S1 := (zct kd (uN (uR (rc_X5 (uN (uR (rc_X5 (uN (uR (rc_X5 (uN (uR (rc_X5 (uN (uR (rc_X5 (uN (uR (rc_X5 (uN (uR (rc_X5 (uN (uR (rc_X5 (uN (uR (rc_X5 (uN (uR (rc_X5 (uN (uR (uN R (p0 + 1)) p0 0 (p0 + 1)) (p0 + 2)) (p0 + 2)) (p0 + 1) 0 (p0 + 2)) (p0 + 23)) (p0 + 23)) (p0 + 1) 1 (p0 + 23)) (p0 + 44)) (p0 + 44)) (p0 + 1) 2 (p0 + 44)) (p0 + 65)) (p0 + 65)) (p0 + 1) 3 (p0 + 65)) (p0 + 86)) (p0 + 86)) (p0 + 1) 4 (p0 + 86)) (p0 + 107)) (p0 + 107)) (p0 + 1) 5 (p0 + 107)) (p0 + 128)) (p0 + 128)) (p0 + 1) 6 (p0 + 128)) (p0 + 149)) (p0 + 149)) (p0 + 1) 7 (p0 + 149)) (p0 + 170)) (p0 + 170)) (p0 + 1) 8 (p0 + 170)) (p0 + 191)) (p0 + 191)) (p0 + 1) 9 (p0 + 191)) (p0 + 212)) (p0 + 213))) rfl (rI_eqZ (Z1 := (· = p0 + 213)) rfl (r_widen (k1 := 212) (s1 := 1446) (by decide) (by decide) ?_))
  refine r_dup C0 dX0_init_32 rfl ?_
  refine rI_call C0 hf vs_157 (fun hl r23 hr23 => c_X5_init hl F (p0 + 212) (kk_sub hkk (b := 212) (by decide) (by decide +kernel)) (uN (uR (rc_X5 (uN (uR (rc_X5 (uN (uR (rc_X5 (uN (uR (rc_X5 (uN (uR (rc_X5 (uN (uR (rc_X5 (uN (uR (rc_X5 (uN (uR (rc_X5 (uN (uR (rc_X5 (uN (uR (rc_X5 (uN (uR (uN R (p0 + 1)) p0 0 (p0 + 1)) (p0 + 2)) (p0 + 2)) (p0 + 1) 0 (p0 + 2)) (p0 + 23)) (p0 + 23)) (p0 + 1) 1 (p0 + 23)) (p0 + 44)) (p0 + 44)) (p0 + 1) 2 (p0 + 44)) (p0 + 65)) (p0 + 65)) (p0 + 1) 3 (p0 + 65)) (p0 + 86)) (p0 + 86)) (p0 + 1) 4 (p0 + 86)) (p0 + 107)) (p0 + 107)) (p0 + 1) 5 (p0 + 107)) (p0 + 128)) (p0 + 128)) (p0 + 1) 6 (p0 + 128)) (p0 + 149)) (p0 + 149)) (p0 + 1) 7 (p0 + 149)) (p0 + 170)) (p0 + 170)) (p0 + 1) 8 (p0 + 170)) (p0 + 191)) (p0 + 191)) (p0 + 1) 9 (p0 + 191)) (p0 + 212)) M22 r23 hr23) (Nat.le_of_ble_eq_true rfl) dX0_init_33 (zrm_ok rfl) (fun r23 hr23 hf => ?_)
  refine rI_eqS (S1 := (zct kd (rc_X5 (uN (uR (rc_X5 (uN (uR (rc_X5 (uN (uR (rc_X5 (uN (uR (rc_X5 (uN (uR (rc_X5 (uN (uR (rc_X5 (uN (uR (rc_X5 (uN (uR (rc_X5 (uN (uR (rc_X5 (uN (uR (rc_X5 (uN (uR (uN R (p0 + 1)) p0 0 (p0 + 1)) (p0 + 2)) (p0 + 2)) (p0 + 1) 0 (p0 + 2)) (p0 + 23)) (p0 + 23)) (p0 + 1) 1 (p0 + 23)) (p0 + 44)) (p0 + 44)) (p0 + 1) 2 (p0 + 44)) (p0 + 65)) (p0 + 65)) (p0 + 1) 3 (p0 + 65)) (p0 + 86)) (p0 + 86)) (p0 + 1) 4 (p0 + 86)) (p0 + 107)) (p0 + 107)) (p0 + 1) 5 (p0 + 107)) (p0 + 128)) (p0 + 128)) (p0 + 1) 6 (p0 + 128)) (p0 + 149)) (p0 + 149)) (p0 + 1) 7 (p0 + 149)) (p0 + 170)) (p0 + 170)) (p0 + 1) 8 (p0 + 170)) (p0 + 191)) (p0 + 191)) (p0 + 1) 9 (p0 + 191)) (p0 + 212)) (p0 + 212)) (p0 + 233))) rfl (rI_eqZ (Z1 := (· = p0 + 233)) rfl (r_widen (k1 := 232) (s1 := 1576) (by decide) (by decide) ?_))
  refine rI_aast (t := 6) (n0 := 14) (j := 10) C0 (zct_k (by omega) (hkk 1 (by decide +kernel))) (by decide) (by decide) rfl (zct_k (by omega) (hkk 212 (by decide +kernel))) rfl rfl rfl dX0_init_36 ?_
  refine rI_eqS (S1 := (zct kd (uR (rc_X5 (uN (uR (rc_X5 (uN (uR (rc_X5 (uN (uR (rc_X5 (uN (uR (rc_X5 (uN (uR (rc_X5 (uN (uR (rc_X5 (uN (uR (rc_X5 (uN (uR (rc_X5 (uN (uR (rc_X5 (uN (uR (rc_X5 (uN (uR (uN R (p0 + 1)) p0 0 (p0 + 1)) (p0 + 2)) (p0 + 2)) (p0 + 1) 0 (p0 + 2)) (p0 + 23)) (p0 + 23)) (p0 + 1) 1 (p0 + 23)) (p0 + 44)) (p0 + 44)) (p0 + 1) 2 (p0 + 44)) (p0 + 65)) (p0 + 65)) (p0 + 1) 3 (p0 + 65)) (p0 + 86)) (p0 + 86)) (p0 + 1) 4 (p0 + 86)) (p0 + 107)) (p0 + 107)) (p0 + 1) 5 (p0 + 107)) (p0 + 128)) (p0 + 128)) (p0 + 1) 6 (p0 + 128)) (p0 + 149)) (p0 + 149)) (p0 + 1) 7 (p0 + 149)) (p0 + 170)) (p0 + 170)) (p0 + 1) 8 (p0 + 170)) (p0 + 191)) (p0 + 191)) (p0 + 1) 9 (p0 + 191)) (p0 + 212)) (p0 + 212)) (p0 + 1) 10 (p0 + 212)) (p0 + 233))) rfl ?_
  refine r_iinc (j := 0) (v := (11 : Int32)) (L' := [(1, .int (11 : Int32)), (0, .ref p0)]) C0 dX0_init_37 rfl (by decide) (by decide) rfl ?_
  refine r_goto C0 15 dX0_init_40 (by decide) ?_
  refine r_iload_n C0 dX0_init_15 rfl 0 rfl ?_
  refine r_aload_n C0 dX0_init_16 rfl 1 rfl ?_
  refine r_getR C0 (C := RX0) (T := TX0) cl_X0 (zct_k (by omega) (hkk 0 (by decide +kernel))) (k := 0) (by decide) qw_2 rfl (show (uR (rc_X5 (uN (uR (rc_X5 (uN (uR (rc_X5 (uN (uR (rc_X5 (uN (uR (rc_X5 (uN (uR (rc_X5 (uN (uR (rc_X5 (uN (uR (rc_X5 (uN (uR (rc_X5 (uN (uR (rc_X5 (uN (uR (rc_X5 (uN (uR (uN R (p0 + 1)) p0 0 (p0 + 1)) (p0 + 2)) (p0 + 2)) (p0 + 1) 0 (p0 + 2)) (p0 + 23)) (p0 + 23)) (p0 + 1) 1 (p0 + 23)) (p0 + 44)) (p0 + 44)) (p0 + 1) 2 (p0 + 44)) (p0 + 65)) (p0 + 65)) (p0 + 1) 3 (p0 + 65)) (p0 + 86)) (p0 + 86)) (p0 + 1) 4 (p0 + 86)) (p0 + 107)) (p0 + 107)) (p0 + 1) 5 (p0 + 107)) (p0 + 128)) (p0 + 128)) (p0 + 1) 6 (p0 + 128)) (p0 + 149)) (p0 + 149)) (p0 + 1) 7 (p0 + 149)) (p0 + 170)) (p0 + 170)) (p0 + 1) 8 (p0 + 170)) (p0 + 191)) (p0 + 191)) (p0 + 1) 9 (p0 + 191)) (p0 + 212)) (p0 + 212)) (p0 + 1) 10 (p0 + 212)) p0 0 = some (p0 + 1) by simp (disch := omega) only [uR_eq, uR_ne, uN_ne, uR_nj, rc_X5_out]) dX0_init_17 ?_
  refine r_alen (v := 14) C0 (zct_k (by omega) (hkk 1 (by decide +kernel))) (by decide) rfl dX0_init_20 ?_
  refine r_icmp_ge_f C0 43 dX0_init_21 (by decide) (by decide) ?_
  refine r_aload_n C0 dX0_init_24 rfl 1 rfl ?_
  refine r_getR C0 (C := RX0) (T := TX0) cl_X0 (zct_k (by omega) (hkk 0 (by decide +kernel))) (k := 0) (by decide) qw_2 rfl (show (uR (rc_X5 (uN (uR (rc_X5 (uN (uR (rc_X5 (uN (uR (rc_X5 (uN (uR (rc_X5 (uN (uR (rc_X5 (uN (uR (rc_X5 (uN (uR (rc_X5 (uN (uR (rc_X5 (uN (uR (rc_X5 (uN (uR (rc_X5 (uN (uR (uN R (p0 + 1)) p0 0 (p0 + 1)) (p0 + 2)) (p0 + 2)) (p0 + 1) 0 (p0 + 2)) (p0 + 23)) (p0 + 23)) (p0 + 1) 1 (p0 + 23)) (p0 + 44)) (p0 + 44)) (p0 + 1) 2 (p0 + 44)) (p0 + 65)) (p0 + 65)) (p0 + 1) 3 (p0 + 65)) (p0 + 86)) (p0 + 86)) (p0 + 1) 4 (p0 + 86)) (p0 + 107)) (p0 + 107)) (p0 + 1) 5 (p0 + 107)) (p0 + 128)) (p0 + 128)) (p0 + 1) 6 (p0 + 128)) (p0 + 149)) (p0 + 149)) (p0 + 1) 7 (p0 + 149)) (p0 + 170)) (p0 + 170)) (p0 + 1) 8 (p0 + 170)) (p0 + 191)) (p0 + 191)) (p0 + 1) 9 (p0 + 191)) (p0 + 212)) (p0 + 212)) (p0 + 1) 10 (p0 + 212)) p0 0 = some (p0 + 1) by simp (disch := omega) only [uR_eq, uR_ne, uN_ne, uR_nj, rc_X5_out]) dX0_init_25 ?_
  refine r_iload_n C0 dX0_init_28 rfl 0 rfl ?_
  refine rI_new C0 cl_X5 (hkk 233 (by decide +kernel)) qw_680 qw_682 qw_74 df_X5 hf (Nat.le_of_ble_eq_true rfl) (Nat.le_of_ble_eq_true rfl) dX0_init_29 (fun M24 eM24 hf => ?_)
  refine rI_eqS (S1 := (zct kd (uN (uR (rc_X5 (uN (uR (rc_X5 (uN (uR (rc_X5 (uN (uR (rc_X5 (uN (uR (rc_X5 (uN (uR (rc_X5 (uN (uR (rc_X5 (uN (uR (rc_X5 (uN (uR (rc_X5 (uN (uR (rc_X5 (uN (uR (rc_X5 (uN (uR (uN R (p0 + 1)) p0 0 (p0 + 1)) (p0 + 2)) (p0 + 2)) (p0 + 1) 0 (p0 + 2)) (p0 + 23)) (p0 + 23)) (p0 + 1) 1 (p0 + 23)) (p0 + 44)) (p0 + 44)) (p0 + 1) 2 (p0 + 44)) (p0 + 65)) (p0 + 65)) (p0 + 1) 3 (p0 + 65)) (p0 + 86)) (p0 + 86)) (p0 + 1) 4 (p0 + 86)) (p0 + 107)) (p0 + 107)) (p0 + 1) 5 (p0 + 107)) (p0 + 128)) (p0 + 128)) (p0 + 1) 6 (p0 + 128)) (p0 + 149)) (p0 + 149)) (p0 + 1) 7 (p0 + 149)) (p0 + 170)) (p0 + 170)) (p0 + 1) 8 (p0 + 170)) (p0 + 191)) (p0 + 191)) (p0 + 1) 9 (p0 + 191)) (p0 + 212)) (p0 + 212)) (p0 + 1) 10 (p0 + 212)) (p0 + 233)) (p0 + 234))) rfl (rI_eqZ (Z1 := (· = p0 + 234)) rfl (r_widen (k1 := 233) (s1 := 1588) (by decide) (by decide) ?_))
  refine r_dup C0 dX0_init_32 rfl ?_
  refine rI_call C0 hf vs_157 (fun hl r25 hr25 => c_X5_init hl F (p0 + 233) (kk_sub hkk (b := 233) (by decide) (by decide +kernel)) (uN (uR (rc_X5 (uN (uR (rc_X5 (uN (uR (rc_X5 (uN (uR (rc_X5 (uN (uR (rc_X5 (uN (uR (rc_X5 (uN (uR (rc_X5 (uN (uR (rc_X5 (uN (uR (rc_X5 (uN (uR (rc_X5 (uN (uR (rc_X5 (uN (uR (uN R (p0 + 1)) p0 0 (p0 + 1)) (p0 + 2)) (p0 + 2)) (p0 + 1) 0 (p0 + 2)) (p0 + 23)) (p0 + 23)) (p0 + 1) 1 (p0 + 23)) (p0 + 44)) (p0 + 44)) (p0 + 1) 2 (p0 + 44)) (p0 + 65)) (p0 + 65)) (p0 + 1) 3 (p0 + 65)) (p0 + 86)) (p0 + 86)) (p0 + 1) 4 (p0 + 86)) (p0 + 107)) (p0 + 107)) (p0 + 1) 5 (p0 + 107)) (p0 + 128)) (p0 + 128)) (p0 + 1) 6 (p0 + 128)) (p0 + 149)) (p0 + 149)) (p0 + 1) 7 (p0 + 149)) (p0 + 170)) (p0 + 170)) (p0 + 1) 8 (p0 + 170)) (p0 + 191)) (p0 + 191)) (p0 + 1) 9 (p0 + 191)) (p0 + 212)) (p0 + 212)) (p0 + 1) 10 (p0 + 212)) (p0 + 233)) M24 r25 hr25) (Nat.le_of_ble_eq_true rfl) dX0_init_33 (zrm_ok rfl) (fun r25 hr25 hf => ?_)
  refine rI_eqS (S1 := (zct kd (rc_X5 (uN (uR (rc_X5 (uN (uR (rc_X5 (uN (uR (rc_X5 (uN (uR (rc_X5 (uN (uR (rc_X5 (uN (uR (rc_X5 (uN (uR (rc_X5 (uN (uR (rc_X5 (uN (uR (rc_X5 (uN (uR (rc_X5 (uN (uR (rc_X5 (uN (uR (uN R (p0 + 1)) p0 0 (p0 + 1)) (p0 + 2)) (p0 + 2)) (p0 + 1) 0 (p0 + 2)) (p0 + 23)) (p0 + 23)) (p0 + 1) 1 (p0 + 23)) (p0 + 44)) (p0 + 44)) (p0 + 1) 2 (p0 + 44)) (p0 + 65)) (p0 + 65)) (p0 + 1) 3 (p0 + 65)) (p0 + 86)) (p0 + 86)) (p0 + 1) 4 (p0 + 86)) (p0 + 107)) (p0 + 107)) (p0 + 1) 5 (p0 + 107)) (p0 + 128)) (p0 + 128)) (p0 + 1) 6 (p0 + 128)) (p0 + 149)) (p0 + 149)) (p0 + 1) 7 (p0 + 149)) (p0 + 170)) (p0 + 170)) (p0 + 1) 8 (p0 + 170)) (p0 + 191)) (p0 + 191)) (p0 + 1) 9 (p0 + 191)) (p0 + 212)) (p0 + 212)) (p0 + 1) 10 (p0 + 212)) (p0 + 233)) (p0 + 233)) (p0 + 254))) rfl (rI_eqZ (Z1 := (· = p0 + 254)) rfl (r_widen (k1 := 253) (s1 := 1718) (by decide) (by decide) ?_))
  refine rI_aast (t := 6) (n0 := 14) (j := 11) C0 (zct_k (by omega) (hkk 1 (by decide +kernel))) (by decide) (by decide) rfl (zct_k (by omega) (hkk 233 (by decide +kernel))) rfl rfl rfl dX0_init_36 ?_
  refine rI_eqS (S1 := (zct kd (uR (rc_X5 (uN (uR (rc_X5 (uN (uR (rc_X5 (uN (uR (rc_X5 (uN (uR (rc_X5 (uN (uR (rc_X5 (uN (uR (rc_X5 (uN (uR (rc_X5 (uN (uR (rc_X5 (uN (uR (rc_X5 (uN (uR (rc_X5 (uN (uR (rc_X5 (uN (uR (uN R (p0 + 1)) p0 0 (p0 + 1)) (p0 + 2)) (p0 + 2)) (p0 + 1) 0 (p0 + 2)) (p0 + 23)) (p0 + 23)) (p0 + 1) 1 (p0 + 23)) (p0 + 44)) (p0 + 44)) (p0 + 1) 2 (p0 + 44)) (p0 + 65)) (p0 + 65)) (p0 + 1) 3 (p0 + 65)) (p0 + 86)) (p0 + 86)) (p0 + 1) 4 (p0 + 86)) (p0 + 107)) (p0 + 107)) (p0 + 1) 5 (p0 + 107)) (p0 + 128)) (p0 + 128)) (p0 + 1) 6 (p0 + 128)) (p0 + 149)) (p0 + 149)) (p0 + 1) 7 (p0 + 149)) (p0 + 170)) (p0 + 170)) (p0 + 1) 8 (p0 + 170)) (p0 + 191)) (p0 + 191)) (p0 + 1) 9 (p0 + 191)) (p0 + 212)) (p0 + 212)) (p0 + 1) 10 (p0 + 212)) (p0 + 233)) (p0 + 233)) (p0 + 1) 11 (p0 + 233)) (p0 + 254))) rfl ?_
  refine r_iinc (j := 0) (v := (12 : Int32)) (L' := [(1, .int (12 : Int32)), (0, .ref p0)]) C0 dX0_init_37 rfl (by decide) (by decide) rfl ?_
  refine r_goto C0 15 dX0_init_40 (by decide) ?_
  refine r_iload_n C0 dX0_init_15 rfl 0 rfl ?_
  refine r_aload_n C0 dX0_init_16 rfl 1 rfl ?_
  refine r_getR C0 (C := RX0) (T := TX0) cl_X0 (zct_k (by omega) (hkk 0 (by decide +kernel))) (k := 0) (by decide) qw_2 rfl (show (uR (rc_X5 (uN (uR (rc_X5 (uN (uR (rc_X5 (uN (uR (rc_X5 (uN (uR (rc_X5 (uN (uR (rc_X5 (uN (uR (rc_X5 (uN (uR (rc_X5 (uN (uR (rc_X5 (uN (uR (rc_X5 (uN (uR (rc_X5 (uN (uR (rc_X5 (uN (uR (uN R (p0 + 1)) p0 0 (p0 + 1)) (p0 + 2)) (p0 + 2)) (p0 + 1) 0 (p0 + 2)) (p0 + 23)) (p0 + 23)) (p0 + 1) 1 (p0 + 23)) (p0 + 44)) (p0 + 44)) (p0 + 1) 2 (p0 + 44)) (p0 + 65)) (p0 + 65)) (p0 + 1) 3 (p0 + 65)) (p0 + 86)) (p0 + 86)) (p0 + 1) 4 (p0 + 86)) (p0 + 107)) (p0 + 107)) (p0 + 1) 5 (p0 + 107)) (p0 + 128)) (p0 + 128)) (p0 + 1) 6 (p0 + 128)) (p0 + 149)) (p0 + 149)) (p0 + 1) 7 (p0 + 149)) (p0 + 170)) (p0 + 170)) (p0 + 1) 8 (p0 + 170)) (p0 + 191)) (p0 + 191)) (p0 + 1) 9 (p0 + 191)) (p0 + 212)) (p0 + 212)) (p0 + 1) 10 (p0 + 212)) (p0 + 233)) (p0 + 233)) (p0 + 1) 11 (p0 + 233)) p0 0 = some (p0 + 1) by simp (disch := omega) only [uR_eq, uR_ne, uN_ne, uR_nj, rc_X5_out]) dX0_init_17 ?_
  refine r_alen (v := 14) C0 (zct_k (by omega) (hkk 1 (by decide +kernel))) (by decide) rfl dX0_init_20 ?_
  refine r_icmp_ge_f C0 43 dX0_init_21 (by decide) (by decide) ?_
  refine r_aload_n C0 dX0_init_24 rfl 1 rfl ?_
  refine r_getR C0 (C := RX0) (T := TX0) cl_X0 (zct_k (by omega) (hkk 0 (by decide +kernel))) (k := 0) (by decide) qw_2 rfl (show (uR (rc_X5 (uN (uR (rc_X5 (uN (uR (rc_X5 (uN (uR (rc_X5 (uN (uR (rc_X5 (uN (uR (rc_X5 (uN (uR (rc_X5 (uN (uR (rc_X5 (uN (uR (rc_X5 (uN (uR (rc_X5 (uN (uR (rc_X5 (uN (uR (rc_X5 (uN (uR (uN R (p0 + 1)) p0 0 (p0 + 1)) (p0 + 2)) (p0 + 2)) (p0 + 1) 0 (p0 + 2)) (p0 + 23)) (p0 + 23)) (p0 + 1) 1 (p0 + 23)) (p0 + 44)) (p0 + 44)) (p0 + 1) 2 (p0 + 44)) (p0 + 65)) (p0 + 65)) (p0 + 1) 3 (p0 + 65)) (p0 + 86)) (p0 + 86)) (p0 + 1) 4 (p0 + 86)) (p0 + 107)) (p0 + 107)) (p0 + 1) 5 (p0 + 107)) (p0 + 128)) (p0 + 128)) (p0 + 1) 6 (p0 + 128)) (p0 + 149)) (p0 + 149)) (p0 + 1) 7 (p0 + 149)) (p0 + 170)) (p0 + 170)) (p0 + 1) 8 (p0 + 170)) (p0 + 191)) (p0 + 191)) (p0 + 1) 9 (p0 + 191)) (p0 + 212)) (p0 + 212)) (p0 + 1) 10 (p0 + 212)) (p0 + 233)) (p0 + 233)) (p0 + 1) 11 (p0 + 233)) p0 0 = some (p0 + 1) by simp (disch := omega) only [uR_eq, uR_ne, uN_ne, uR_nj, rc_X5_out]) dX0_init_25 ?_
  refine r_iload_n C0 dX0_init_28 rfl 0 rfl ?_
  refine rI_new C0 cl_X5 (hkk 254 (by decide +kernel)) qw_680 qw_682 qw_74 df_X5 hf (Nat.le_of_ble_eq_true rfl) (Nat.le_of_ble_eq_true rfl) dX0_init_29 (fun M26 eM26 hf => ?_)
  refine rI_eqS (S1 := (zct kd (uN (uR (rc_X5 (uN (uR (rc_X5 (uN (uR (rc_X5 (uN (uR (rc_X5 (uN (uR (rc_X5 (uN (uR (rc_X5 (uN (uR (rc_X5 (uN (uR (rc_X5 (uN (uR (rc_X5 (uN (uR (rc_X5 (uN (uR (rc_X5 (uN (uR (rc_X5 (uN (uR (uN R (p0 + 1)) p0 0 (p0 + 1)) (p0 + 2)) (p0 + 2)) (p0 + 1) 0 (p0 + 2)) (p0 + 23)) (p0 + 23)) (p0 + 1) 1 (p0 + 23)) (p0 + 44)) (p0 + 44)) (p0 + 1) 2 (p0 + 44)) (p0 + 65)) (p0 + 65)) (p0 + 1) 3 (p0 + 65)) (p0 + 86)) (p0 + 86)) (p0 + 1) 4 (p0 + 86)) (p0 + 107)) (p0 + 107)) (p0 + 1) 5 (p0 + 107)) (p0 + 128)) (p0 + 128)) (p0 + 1) 6 (p0 + 128)) (p0 + 149)) (p0 + 149)) (p0 + 1) 7 (p0 + 149)) (p0 + 170)) (p0 + 170)) (p0 + 1) 8 (p0 + 170)) (p0 + 191)) (p0 + 191)) (p0 + 1) 9 (p0 + 191)) (p0 + 212)) (p0 + 212)) (p0 + 1) 10 (p0 + 212)) (p0 + 233)) (p0 + 233)) (p0 + 1) 11 (p0 + 233)) (p0 + 254)) (p0 + 255))) rfl (rI_eqZ (Z1 := (· = p0 + 255)) rfl (r_widen (k1 := 254) (s1 := 1730) (by decide) (by decide) ?_))
  refine r_dup C0 dX0_init_32 rfl ?_
  refine rI_call C0 hf vs_157 (fun hl r27 hr27 => c_X5_init hl F (p0 + 254) (kk_sub hkk (b := 254) (by decide) (by decide +kernel)) (uN (uR (rc_X5 (uN (uR (rc_X5 (uN (uR (rc_X5 (uN (uR (rc_X5 (uN (uR (rc_X5 (uN (uR (rc_X5 (uN (uR (rc_X5 (uN (uR (rc_X5 (uN (uR (rc_X5 (uN (uR (rc_X5 (uN (uR (rc_X5 (uN (uR (rc_X5 (uN (uR (uN R (p0 + 1)) p0 0 (p0 + 1)) (p0 + 2)) (p0 + 2)) (p0 + 1) 0 (p0 + 2)) (p0 + 23)) (p0 + 23)) (p0 + 1) 1 (p0 + 23)) (p0 + 44)) (p0 + 44)) (p0 + 1) 2 (p0 + 44)) (p0 + 65)) (p0 + 65)) (p0 + 1) 3 (p0 + 65)) (p0 + 86)) (p0 + 86)) (p0 + 1) 4 (p0 + 86)) (p0 + 107)) (p0 + 107)) (p0 + 1) 5 (p0 + 107)) (p0 + 128)) (p0 + 128)) (p0 + 1) 6 (p0 + 128)) (p0 + 149)) (p0 + 149)) (p0 + 1) 7 (p0 + 149)) (p0 + 170)) (p0 + 170)) (p0 + 1) 8 (p0 + 170)) (p0 + 191)) (p0 + 191)) (p0 + 1) 9 (p0 + 191)) (p0 + 212)) (p0 + 212)) (p0 + 1) 10 (p0 + 212)) (p0 + 233)) (p0 + 233)) (p0 + 1) 11 (p0 + 233)) (p0 + 254)) M26 r27 hr27) (Nat.le_of_ble_eq_true rfl) dX0_init_33 (zrm_ok rfl) (fun r27 hr27 hf => ?_)
  refine rI_eqS (S1 := (zct kd (rc_X5 (uN (uR (rc_X5 (uN (uR (rc_X5 (uN (uR (rc_X5 (uN (uR (rc_X5 (uN (uR (rc_X5 (uN (uR (rc_X5 (uN (uR (rc_X5 (uN (uR (rc_X5 (uN (uR (rc_X5 (uN (uR (rc_X5 (uN (uR (rc_X5 (uN (uR (rc_X5 (uN (uR (uN R (p0 + 1)) p0 0 (p0 + 1)) (p0 + 2)) (p0 + 2)) (p0 + 1) 0 (p0 + 2)) (p0 + 23)) (p0 + 23)) (p0 + 1) 1 (p0 + 23)) (p0 + 44)) (p0 + 44)) (p0 + 1) 2 (p0 + 44)) (p0 + 65)) (p0 + 65)) (p0 + 1) 3 (p0 + 65)) (p0 + 86)) (p0 + 86)) (p0 + 1) 4 (p0 + 86)) (p0 + 107)) (p0 + 107)) (p0 + 1) 5 (p0 + 107)) (p0 + 128)) (p0 + 128)) (p0 + 1) 6 (p0 + 128)) (p0 + 149)) (p0 + 149)) (p0 + 1) 7 (p0 + 149)) (p0 + 170)) (p0 + 170)) (p0 + 1) 8 (p0 + 170)) (p0 + 191)) (p0 + 191)) (p0 + 1) 9 (p0 + 191)) (p0 + 212)) (p0 + 212)) (p0 + 1) 10 (p0 + 212)) (p0 + 233)) (p0 + 233)) (p0 + 1) 11 (p0 + 233)) (p0 + 254)) (p0 + 254)) (p0 + 275))) rfl (rI_eqZ (Z1 := (· = p0 + 275)) rfl (r_widen (k1 := 274) (s1 := 1860) (by decide) (by decide) ?_))
  refine rI_aast (t := 6) (n0 := 14) (j := 12) C0 (zct_k (by omega) (hkk 1 (by decide +kernel))) (by decide) (by decide) rfl (zct_k (by omega) (hkk 254 (by decide +kernel))) rfl rfl rfl dX0_init_36 ?_
  refine rI_eqS (S1 := (zct kd (uR (rc_X5 (uN (uR (rc_X5 (uN (uR (rc_X5 (uN (uR (rc_X5 (uN (uR (rc_X5 (uN (uR (rc_X5 (uN (uR (rc_X5 (uN (uR (rc_X5 (uN (uR (rc_X5 (uN (uR (rc_X5 (uN (uR (rc_X5 (uN (uR (rc_X5 (uN (uR (rc_X5 (uN (uR (uN R (p0 + 1)) p0 0 (p0 + 1)) (p0 + 2)) (p0 + 2)) (p0 + 1) 0 (p0 + 2)) (p0 + 23)) (p0 + 23)) (p0 + 1) 1 (p0 + 23)) (p0 + 44)) (p0 + 44)) (p0 + 1) 2 (p0 + 44)) (p0 + 65)) (p0 + 65)) (p0 + 1) 3 (p0 + 65)) (p0 + 86)) (p0 + 86)) (p0 + 1) 4 (p0 + 86)) (p0 + 107)) (p0 + 107)) (p0 + 1) 5 (p0 + 107)) (p0 + 128)) (p0 + 128)) (p0 + 1) 6 (p0 + 128)) (p0 + 149)) (p0 + 149)) (p0 + 1) 7 (p0 + 149)) (p0 + 170)) (p0 + 170)) (p0 + 1) 8 (p0 + 170)) (p0 + 191)) (p0 + 191)) (p0 + 1) 9 (p0 + 191)) (p0 + 212)) (p0 + 212)) (p0 + 1) 10 (p0 + 212)) (p0 + 233)) (p0 + 233)) (p0 + 1) 11 (p0 + 233)) (p0 + 254)) (p0 + 254)) (p0 + 1) 12 (p0 + 254)) (p0 + 275))) rfl ?_
  refine r_iinc (j := 0) (v := (13 : Int32)) (L' := [(1, .int (13 : Int32)), (0, .ref p0)]) C0 dX0_init_37 rfl (by decide) (by decide) rfl ?_
  refine r_goto C0 15 dX0_init_40 (by decide) ?_
  refine r_iload_n C0 dX0_init_15 rfl 0 rfl ?_
  refine r_aload_n C0 dX0_init_16 rfl 1 rfl ?_
  refine r_getR C0 (C := RX0) (T := TX0) cl_X0 (zct_k (by omega) (hkk 0 (by decide +kernel))) (k := 0) (by decide) qw_2 rfl (show (uR (rc_X5 (uN (uR (rc_X5 (uN (uR (rc_X5 (uN (uR (rc_X5 (uN (uR (rc_X5 (uN (uR (rc_X5 (uN (uR (rc_X5 (uN (uR (rc_X5 (uN (uR (rc_X5 (uN (uR (rc_X5 (uN (uR (rc_X5 (uN (uR (rc_X5 (uN (uR (rc_X5 (uN (uR (uN R (p0 + 1)) p0 0 (p0 + 1)) (p0 + 2)) (p0 + 2)) (p0 + 1) 0 (p0 + 2)) (p0 + 23)) (p0 + 23)) (p0 + 1) 1 (p0 + 23)) (p0 + 44)) (p0 + 44)) (p0 + 1) 2 (p0 + 44)) (p0 + 65)) (p0 + 65)) (p0 + 1) 3 (p0 + 65)) (p0 + 86)) (p0 + 86)) (p0 + 1) 4 (p0 + 86)) (p0 + 107)) (p0 + 107)) (p0 + 1) 5 (p0 + 107)) (p0 + 128)) (p0 + 128)) (p0 + 1) 6 (p0 + 128)) (p0 + 149)) (p0 + 149)) (p0 + 1) 7 (p0 + 149)) (p0 + 170)) (p0 + 170)) (p0 + 1) 8 (p0 + 170)) (p0 + 191)) (p0 + 191)) (p0 + 1) 9 (p0 + 191)) (p0 + 212)) (p0 + 212)) (p0 + 1) 10 (p0 + 212)) (p0 + 233)) (p0 + 233)) (p0 + 1) 11 (p0 + 233)) (p0 + 254)) (p0 + 254)) (p0 + 1) 12 (p0 + 254)) p0 0 = some (p0 + 1) by simp (disch := omega) only [uR_eq, uR_ne, uN_ne, uR_nj, rc_X5_out]) dX0_init_17 ?_
  refine r_alen (v := 14) C0 (zct_k (by omega) (hkk 1 (by decide +kernel))) (by decide) rfl dX0_init_20 ?_
  refine r_icmp_ge_f C0 43 dX0_init_21 (by decide) (by decide) ?_
  refine r_aload_n C0 dX0_init_24 rfl 1 rfl ?_
  refine r_getR C0 (C := RX0) (T := TX0) cl_X0 (zct_k (by omega) (hkk 0 (by decide +kernel))) (k := 0) (by decide) qw_2 rfl (show (uR (rc_X5 (uN (uR (rc_X5 (uN (uR (rc_X5 (uN (uR (rc_X5 (uN (uR (rc_X5 (uN (uR (rc_X5 (uN (uR (rc_X5 (uN (uR (rc_X5 (uN (uR (rc_X5 (uN (uR (rc_X5 (uN (uR (rc_X5 (uN (uR (rc_X5 (uN (uR (rc_X5 (uN (uR (uN R (p0 + 1)) p0 0 (p0 + 1)) (p0 + 2)) (p0 + 2)) (p0 + 1) 0 (p0 + 2)) (p0 + 23)) (p0 + 23)) (p0 + 1) 1 (p0 + 23)) (p0 + 44)) (p0 + 44)) (p0 + 1) 2 (p0 + 44)) (p0 + 65)) (p0 + 65)) (p0 + 1) 3 (p0 + 65)) (p0 + 86)) (p0 + 86)) (p0 + 1) 4 (p0 + 86)) (p0 + 107)) (p0 + 107)) (p0 + 1) 5 (p0 + 107)) (p0 + 128)) (p0 + 128)) (p0 + 1) 6 (p0 + 128)) (p0 + 149)) (p0 + 149)) (p0 + 1) 7 (p0 + 149)) (p0 + 170)) (p0 + 170)) (p0 + 1) 8 (p0 + 170)) (p0 + 191)) (p0 + 191)) (p0 + 1) 9 (p0 + 191)) (p0 + 212)) (p0 + 212)) (p0 + 1) 10 (p0 + 212)) (p0 + 233)) (p0 + 233)) (p0 + 1) 11 (p0 + 233)) (p0 + 254)) (p0 + 254)) (p0 + 1) 12 (p0 + 254)) p0 0 = some (p0 + 1) by simp (disch := omega) only [uR_eq, uR_ne, uN_ne, uR_nj, rc_X5_out]) dX0_init_25 ?_
  refine r_iload_n C0 dX0_init_28 rfl 0 rfl ?_
  refine rI_new C0 cl_X5 (hkk 275 (by decide +kernel)) qw_680 qw_682 qw_74 df_X5 hf (Nat.le_of_ble_eq_true rfl) (Nat.le_of_ble_eq_true rfl) dX0_init_29 (fun M28 eM28 hf => ?_)
  refine rI_eqS (S1 := (zct kd (uN (uR (rc_X5 (uN (uR (rc_X5 (uN (uR (rc_X5 (uN (uR (rc_X5 (uN (uR (rc_X5 (uN (uR (rc_X5 (uN (uR (rc_X5 (uN (uR (rc_X5 (uN (uR (rc_X5 (uN (uR (rc_X5 (uN (uR (rc_X5 (uN (uR (rc_X5 (uN (uR (rc_X5 (uN (uR (uN R (p0 + 1)) p0 0 (p0 + 1)) (p0 + 2)) (p0 + 2)) (p0 + 1) 0 (p0 + 2)) (p0 + 23)) (p0 + 23)) (p0 + 1) 1 (p0 + 23)) (p0 + 44)) (p0 + 44)) (p0 + 1) 2 (p0 + 44)) (p0 + 65)) (p0 + 65)) (p0 + 1) 3 (p0 + 65)) (p0 + 86)) (p0 + 86)) (p0 + 1) 4 (p0 + 86)) (p0 + 107)) (p0 + 107)) (p0 + 1) 5 (p0 + 107)) (p0 + 128)) (p0 + 128)) (p0 + 1) 6 (p0 + 128)) (p0 + 149)) (p0 + 149)) (p0 + 1) 7 (p0 + 149)) (p0 + 170)) (p0 + 170)) (p0 + 1) 8 (p0 + 170)) (p0 + 191)) (p0 + 191)) (p0 + 1) 9 (p0 + 191)) (p0 + 212)) (p0 + 212)) (p0 + 1) 10 (p0 + 212)) (p0 + 233)) (p0 + 233)) (p0 + 1) 11 (p0 + 233)) (p0 + 254)) (p0 + 254)) (p0 + 1) 12 (p0 + 254)) (p0 + 275)) (p0 + 276))) rfl (rI_eqZ (Z1 := (· = p0 + 276)) rfl (r_widen (k1 := 275) (s1 := 1872) (by decide) (by decide) ?_))
  refine r_dup C0 dX0_init_32 rfl ?_
  refine rI_call C0 hf vs_157 (fun hl r29 hr29 => c_X5_init hl F (p0 + 275) (kk_sub hkk (b := 275) (by decide) (by decide +kernel)) (uN (uR (rc_X5 (uN (uR (rc_X5 (uN (uR (rc_X5 (uN (uR (rc_X5 (uN (uR (rc_X5 (uN (uR (rc_X5 (uN (uR (rc_X5 (uN (uR (rc_X5 (uN (uR (rc_X5 (uN (uR (rc_X5 (uN (uR (rc_X5 (uN (uR (rc_X5 (uN (uR (rc_X5 (uN (uR (uN R (p0 + 1)) p0 0 (p0 + 1)) (p0 + 2)) (p0 + 2)) (p0 + 1) 0 (p0 + 2)) (p0 + 23)) (p0 + 23)) (p0 + 1) 1 (p0 + 23)) (p0 + 44)) (p0 + 44)) (p0 + 1) 2 (p0 + 44)) (p0 + 65)) (p0 + 65)) (p0 + 1) 3 (p0 + 65)) (p0 + 86)) (p0 + 86)) (p0 + 1) 4 (p0 + 86)) (p0 + 107)) (p0 + 107)) (p0 + 1) 5 (p0 + 107)) (p0 + 128)) (p0 + 128)) (p0 + 1) 6 (p0 + 128)) (p0 + 149)) (p0 + 149)) (p0 + 1) 7 (p0 + 149)) (p0 + 170)) (p0 + 170)) (p0 + 1) 8 (p0 + 170)) (p0 + 191)) (p0 + 191)) (p0 + 1) 9 (p0 + 191)) (p0 + 212)) (p0 + 212)) (p0 + 1) 10 (p0 + 212)) (p0 + 233)) (p0 + 233)) (p0 + 1) 11 (p0 + 233)) (p0 + 254)) (p0 + 254)) (p0 + 1) 12 (p0 + 254)) (p0 + 275)) M28 r29 hr29) (Nat.le_of_ble_eq_true rfl) dX0_init_33 (zrm_ok rfl) (fun r29 hr29 hf => ?_)
  refine rI_eqS (S1 := (zct kd (rc_X5 (uN (uR (rc_X5 (uN (uR (rc_X5 (uN (uR (rc_X5 (uN (uR (rc_X5 (uN (uR (rc_X5 (uN (uR (rc_X5 (uN (uR (rc_X5 (uN (uR (rc_X5 (uN (uR (rc_X5 (uN (uR (rc_X5 (uN (uR (rc_X5 (uN (uR (rc_X5 (uN (uR (rc_X5 (uN (uR (uN R (p0 + 1)) p0 0 (p0 + 1)) (p0 + 2)) (p0 + 2)) (p0 + 1) 0 (p0 + 2)) (p0 + 23)) (p0 + 23)) (p0 + 1) 1 (p0 + 23)) (p0 + 44)) (p0 + 44)) (p0 + 1) 2 (p0 + 44)) (p0 + 65)) (p0 + 65)) (p0 + 1) 3 (p0 + 65)) (p0 + 86)) (p0 + 86)) (p0 + 1) 4 (p0 + 86)) (p0 + 107)) (p0 + 107)) (p0 + 1) 5 (p0 + 107)) (p0 + 128)) (p0 + 128)) (p0 + 1) 6 (p0 + 128)) (p0 + 149)) (p0 + 149)) (p0 + 1) 7 (p0 + 149)) (p0 + 170)) (p0 + 170)) (p0 + 1) 8 (p0 + 170)) (p0 + 191)) (p0 + 191)) (p0 + 1) 9 (p0 + 191)) (p0 + 212)) (p0 + 212)) (p0 + 1) 10 (p0 + 212)) (p0 + 233)) (p0 + 233)) (p0 + 1) 11 (p0 + 233)) (p0 + 254)) (p0 + 254)) (p0 + 1) 12 (p0 + 254)) (p0 + 275)) (p0 + 275)) (p0 + 296))) rfl (rI_eqZ (Z1 := (· = p0 + 296)) rfl (r_widen (k1 := 295) (s1 := 2002) (by decide) (by decide) ?_))
  refine rI_aast (t := 6) (n0 := 14) (j := 13) C0 (zct_k (by omega) (hkk 1 (by decide +kernel))) (by decide) (by decide) rfl (zct_k (by omega) (hkk 275 (by decide +kernel))) rfl rfl rfl dX0_init_36 ?_
  refine rI_eqS (S1 := (zct kd (uR (rc_X5 (uN (uR (rc_X5 (uN (uR (rc_X5 (uN (uR (rc_X5 (uN (uR (rc_X5 (uN (uR (rc_X5 (uN (uR (rc_X5 (uN (uR (rc_X5 (uN (uR (rc_X5 (uN (uR (rc_X5 (uN (uR (rc_X5 (uN (uR (rc_X5 (uN (uR (rc_X5 (uN (uR (rc_X5 (uN (uR (uN R (p0 + 1)) p0 0 (p0 + 1)) (p0 + 2)) (p0 + 2)) (p0 + 1) 0 (p0 + 2)) (p0 + 23)) (p0 + 23)) (p0 + 1) 1 (p0 + 23)) (p0 + 44)) (p0 + 44)) (p0 + 1) 2 (p0 + 44)) (p0 + 65)) (p0 + 65)) (p0 + 1) 3 (p0 + 65)) (p0 + 86)) (p0 + 86)) (p0 + 1) 4 (p0 + 86)) (p0 + 107)) (p0 + 107)) (p0 + 1) 5 (p0 + 107)) (p0 + 128)) (p0 + 128)) (p0 + 1) 6 (p0 + 128)) (p0 + 149)) (p0 + 149)) (p0 + 1) 7 (p0 + 149)) (p0 + 170)) (p0 + 170)) (p0 + 1) 8 (p0 + 170)) (p0 + 191)) (p0 + 191)) (p0 + 1) 9 (p0 + 191)) (p0 + 212)) (p0 + 212)) (p0 + 1) 10 (p0 + 212)) (p0 + 233)) (p0 + 233)) (p0 + 1) 11 (p0 + 233)) (p0 + 254)) (p0 + 254)) (p0 + 1) 12 (p0 + 254)) (p0 + 275)) (p0 + 275)) (p0 + 1) 13 (p0 + 275)) (p0 + 296))) rfl ?_
  refine r_iinc (j := 0) (v := (14 : Int32)) (L' := [(1, .int (14 : Int32)), (0, .ref p0)]) C0 dX0_init_37 rfl (by decide) (by decide) rfl ?_
  refine r_goto C0 15 dX0_init_40 (by decide) ?_
  refine r_iload_n C0 dX0_init_15 rfl 0 rfl ?_
  refine r_aload_n C0 dX0_init_16 rfl 1 rfl ?_
  refine r_getR C0 (C := RX0) (T := TX0) cl_X0 (zct_k (by omega) (hkk 0 (by decide +kernel))) (k := 0) (by decide) qw_2 rfl (show (uR (rc_X5 (uN (uR (rc_X5 (uN (uR (rc_X5 (uN (uR (rc_X5 (uN (uR (rc_X5 (uN (uR (rc_X5 (uN (uR (rc_X5 (uN (uR (rc_X5 (uN (uR (rc_X5 (uN (uR (rc_X5 (uN (uR (rc_X5 (uN (uR (rc_X5 (uN (uR (rc_X5 (uN (uR (rc_X5 (uN (uR (uN R (p0 + 1)) p0 0 (p0 + 1)) (p0 + 2)) (p0 + 2)) (p0 + 1) 0 (p0 + 2)) (p0 + 23)) (p0 + 23)) (p0 + 1) 1 (p0 + 23)) (p0 + 44)) (p0 + 44)) (p0 + 1) 2 (p0 + 44)) (p0 + 65)) (p0 + 65)) (p0 + 1) 3 (p0 + 65)) (p0 + 86)) (p0 + 86)) (p0 + 1) 4 (p0 + 86)) (p0 + 107)) (p0 + 107)) (p0 + 1) 5 (p0 + 107)) (p0 + 128)) (p0 + 128)) (p0 + 1) 6 (p0 + 128)) (p0 + 149)) (p0 + 149)) (p0 + 1) 7 (p0 + 149)) (p0 + 170)) (p0 + 170)) (p0 + 1) 8 (p0 + 170)) (p0 + 191)) (p0 + 191)) (p0 + 1) 9 (p0 + 191)) (p0 + 212)) (p0 + 212)) (p0 + 1) 10 (p0 + 212)) (p0 + 233)) (p0 + 233)) (p0 + 1) 11 (p0 + 233)) (p0 + 254)) (p0 + 254)) (p0 + 1) 12 (p0 + 254)) (p0 + 275)) (p0 + 275)) (p0 + 1) 13 (p0 + 275)) p0 0 = some (p0 + 1) by simp (disch := omega) only [uR_eq, uR_ne, uN_ne, uR_nj, rc_X5_out]) dX0_init_17 ?_
  refine r_alen (v := 14) C0 (zct_k (by omega) (hkk 1 (by decide +kernel))) (by decide) rfl dX0_init_20 ?_
  refine r_icmp_ge_t C0 43 dX0_init_21 (by decide) (by decide) ?_
  obtain rfl := Option.some.inj hf
  exact r_vret C0 dX0_init_43
theorem rc_X0_out {R : zRf} {a q : Nat} (h : q < a ∨ a + 296 ≤ q) : rc_X0 R a q = R q := by
  unfold rc_X0
  simp (disch := omega) only [uR_eq, uR_ne, uN_ne, uR_nj, rc_X5_out]
set_option maxHeartbeats 16000000 in
set_option maxRecDepth 100000 in
theorem rr_X0_mk {R : zRf} {a : Nat} : rr_X0 (rc_X0 R a) a := by
  unfold rr_X0 rc_X0
  generalize hRC : uR (rc_X5 (uN (uR (rc_X5 (uN (uR (rc_X5 (uN (uR (rc_X5 (uN (uR (rc_X5 (uN (uR (rc_X5 (uN (uR (rc_X5 (uN (uR (rc_X5 (uN (uR (rc_X5 (uN (uR (rc_X5 (uN (uR (rc_X5 (uN (uR (rc_X5 (uN (uR (rc_X5 (uN (uR (rc_X5 (uN (uR (uN R (a + 1)) a 0 (a + 1)) (a + 2)) (a + 2)) (a + 1) 0 (a + 2)) (a + 23)) (a + 23)) (a + 1) 1 (a + 23)) (a + 44)) (a + 44)) (a + 1) 2 (a + 44)) (a + 65)) (a + 65)) (a + 1) 3 (a + 65)) (a + 86)) (a + 86)) (a + 1) 4 (a + 86)) (a + 107)) (a + 107)) (a + 1) 5 (a + 107)) (a + 128)) (a + 128)) (a + 1) 6 (a + 128)) (a + 149)) (a + 149)) (a + 1) 7 (a + 149)) (a + 170)) (a + 170)) (a + 1) 8 (a + 170)) (a + 191)) (a + 191)) (a + 1) 9 (a + 191)) (a + 212)) (a + 212)) (a + 1) 10 (a + 212)) (a + 233)) (a + 233)) (a + 1) 11 (a + 233)) (a + 254)) (a + 254)) (a + 1) 12 (a + 254)) (a + 275)) (a + 275)) (a + 1) 13 (a + 275) = RC
  refine ⟨?_, ?_, ?_⟩
  · rw [← hRC]; exact by simp (disch := omega) only [uR_eq, uR_ne, uN_ne, uR_nj, rc_X5_out]
  · rw [← hRC]; exact fun j hj => by rcases (by omega : j = 0 ∨ j = 1 ∨ j = 2 ∨ j = 3 ∨ j = 4 ∨ j = 5 ∨ j = 6 ∨ j = 7 ∨ j = 8 ∨ j = 9 ∨ j = 10 ∨ j = 11 ∨ j = 12 ∨ j = 13) with rfl | rfl | rfl | rfl | rfl | rfl | rfl | rfl | rfl | rfl | rfl | rfl | rfl | rfl <;> simp (disch := omega) only [uR_eq, uR_ne, uN_ne, uR_nj, rc_X5_out]
  · intro j hj
    rcases (by omega : j = 0 ∨ j = 1 ∨ j = 2 ∨ j = 3 ∨ j = 4 ∨ j = 5 ∨ j = 6 ∨ j = 7 ∨ j = 8 ∨ j = 9 ∨ j = 10 ∨ j = 11 ∨ j = 12 ∨ j = 13) with rfl | rfl | rfl | rfl | rfl | rfl | rfl | rfl | rfl | rfl | rfl | rfl | rfl | rfl
    · have h9 := rr_X5_ext (R1 := RC) (fun q h1 h2 => by rw [← hRC]; simp (disch := omega) only [uR_eq, uR_ne, uN_ne, uR_nj, rc_X5_out]) (rr_X5_mk (R := uN (uR (uN R (a + 1)) a 0 (a + 1)) (a + 2)) (a := a + 2)); simpa [Nat.add_assoc] using h9
    · have h9 := rr_X5_ext (R1 := RC) (fun q h1 h2 => by rw [← hRC]; simp (disch := omega) only [uR_eq, uR_ne, uN_ne, uR_nj, rc_X5_out]) (rr_X5_mk (R := uN (uR (rc_X5 (uN (uR (uN R (a + 1)) a 0 (a + 1)) (a + 2)) (a + 2)) (a + 1) 0 (a + 2)) (a + 23)) (a := a + 23)); simpa [Nat.add_assoc] using h9
    · have h9 := rr_X5_ext (R1 := RC) (fun q h1 h2 => by rw [← hRC]; simp (disch := omega) only [uR_eq, uR_ne, uN_ne, uR_nj, rc_X5_out]) (rr_X5_mk (R := uN (uR (rc_X5 (uN (uR (rc_X5 (uN (uR (uN R (a + 1)) a 0 (a + 1)) (a + 2)) (a + 2)) (a + 1) 0 (a + 2)) (a + 23)) (a + 23)) (a + 1) 1 (a + 23)) (a + 44)) (a := a + 44)); simpa [Nat.add_assoc] using h9
    · have h9 := rr_X5_ext (R1 := RC) (fun q h1 h2 => by rw [← hRC]; simp (disch := omega) only [uR_eq, uR_ne, uN_ne, uR_nj, rc_X5_out]) (rr_X5_mk (R := uN (uR (rc_X5 (uN (uR (rc_X5 (uN (uR (rc_X5 (uN (uR (uN R (a + 1)) a 0 (a + 1)) (a + 2)) (a + 2)) (a + 1) 0 (a + 2)) (a + 23)) (a + 23)) (a + 1) 1 (a + 23)) (a + 44)) (a + 44)) (a + 1) 2 (a + 44)) (a + 65)) (a := a + 65)); simpa [Nat.add_assoc] using h9
    · have h9 := rr_X5_ext (R1 := RC) (fun q h1 h2 => by rw [← hRC]; simp (disch := omega) only [uR_eq, uR_ne, uN_ne, uR_nj, rc_X5_out]) (rr_X5_mk (R := uN (uR (rc_X5 (uN (uR (rc_X5 (uN (uR (rc_X5 (uN (uR (rc_X5 (uN (uR (uN R (a + 1)) a 0 (a + 1)) (a + 2)) (a + 2)) (a + 1) 0 (a + 2)) (a + 23)) (a + 23)) (a + 1) 1 (a + 23)) (a + 44)) (a + 44)) (a + 1) 2 (a + 44)) (a + 65)) (a + 65)) (a + 1) 3 (a + 65)) (a + 86)) (a := a + 86)); simpa [Nat.add_assoc] using h9
    · have h9 := rr_X5_ext (R1 := RC) (fun q h1 h2 => by rw [← hRC]; simp (disch := omega) only [uR_eq, uR_ne, uN_ne, uR_nj, rc_X5_out]) (rr_X5_mk (R := uN (uR (rc_X5 (uN (uR (rc_X5 (uN (uR (rc_X5 (uN (uR (rc_X5 (uN (uR (rc_X5 (uN (uR (uN R (a + 1)) a 0 (a + 1)) (a + 2)) (a + 2)) (a + 1) 0 (a + 2)) (a + 23)) (a + 23)) (a + 1) 1 (a + 23)) (a + 44)) (a + 44)) (a + 1) 2 (a + 44)) (a + 65)) (a + 65)) (a + 1) 3 (a + 65)) (a + 86)) (a + 86)) (a + 1) 4 (a + 86)) (a + 107)) (a := a + 107)); simpa [Nat.add_assoc] using h9
    · have h9 := rr_X5_ext (R1 := RC) (fun q h1 h2 => by rw [← hRC]; simp (disch := omega) only [uR_eq, uR_ne, uN_ne, uR_nj, rc_X5_out]) (rr_X5_mk (R := uN (uR (rc_X5 (uN (uR (rc_X5 (uN (uR (rc_X5 (uN (uR (rc_X5 (uN (uR (rc_X5 (uN (uR (rc_X5 (uN (uR (uN R (a + 1)) a 0 (a + 1)) (a + 2)) (a + 2)) (a + 1) 0 (a + 2)) (a + 23)) (a + 23)) (a + 1) 1 (a + 23)) (a + 44)) (a + 44)) (a + 1) 2 (a + 44)) (a + 65)) (a + 65)) (a + 1) 3 (a + 65)) (a + 86)) (a + 86)) (a + 1) 4 (a + 86)) (a + 107)) (a + 107)) (a + 1) 5 (a + 107)) (a + 128)) (a := a + 128)); simpa [Nat.add_assoc] using h9
    · have h9 := rr_X5_ext (R1 := RC) (fun q h1 h2 => by rw [← hRC]; simp (disch := omega) only [uR_eq, uR_ne, uN_ne, uR_nj, rc_X5_out]) (rr_X5_mk (R := uN (uR (rc_X5 (uN (uR (rc_X5 (uN (uR (rc_X5 (uN (uR (rc_X5 (uN (uR (rc_X5 (uN (uR (rc_X5 (uN (uR (rc_X5 (uN (uR (uN R (a + 1)) a 0 (a + 1)) (a + 2)) (a + 2)) (a + 1) 0 (a + 2)) (a + 23)) (a + 23)) (a + 1) 1 (a + 23)) (a + 44)) (a + 44)) (a + 1) 2 (a + 44)) (a + 65)) (a + 65)) (a + 1) 3 (a + 65)) (a + 86)) (a + 86)) (a + 1) 4 (a + 86)) (a + 107)) (a + 107)) (a + 1) 5 (a + 107)) (a + 128)) (a + 128)) (a + 1) 6 (a + 128)) (a + 149)) (a := a + 149)); simpa [Nat.add_assoc] using h9
    · have h9 := rr_X5_ext (R1 := RC) (fun q h1 h2 => by rw [← hRC]; simp (disch := omega) only [uR_eq, uR_ne, uN_ne, uR_nj, rc_X5_out]) (rr_X5_mk (R := uN (uR (rc_X5 (uN (uR (rc_X5 (uN (uR (rc_X5 (uN (uR (rc_X5 (uN (uR (rc_X5 (uN (uR (rc_X5 (uN (uR (rc_X5 (uN (uR (rc_X5 (uN (uR (uN R (a + 1)) a 0 (a + 1)) (a + 2)) (a + 2)) (a + 1) 0 (a + 2)) (a + 23)) (a + 23)) (a + 1) 1 (a + 23)) (a + 44)) (a + 44)) (a + 1) 2 (a + 44)) (a + 65)) (a + 65)) (a + 1) 3 (a + 65)) (a + 86)) (a + 86)) (a + 1) 4 (a + 86)) (a + 107)) (a + 107)) (a + 1) 5 (a + 107)) (a + 128)) (a + 128)) (a + 1) 6 (a + 128)) (a + 149)) (a + 149)) (a + 1) 7 (a + 149)) (a + 170)) (a := a + 170)); simpa [Nat.add_assoc] using h9
    · have h9 := rr_X5_ext (R1 := RC) (fun q h1 h2 => by rw [← hRC]; simp (disch := omega) only [uR_eq, uR_ne, uN_ne, uR_nj, rc_X5_out]) (rr_X5_mk (R := uN (uR (rc_X5 (uN (uR (rc_X5 (uN (uR (rc_X5 (uN (uR (rc_X5 (uN (uR (rc_X5 (uN (uR (rc_X5 (uN (uR (rc_X5 (uN (uR (rc_X5 (uN (uR (rc_X5 (uN (uR (uN R (a + 1)) a 0 (a + 1)) (a + 2)) (a + 2)) (a + 1) 0 (a + 2)) (a + 23)) (a + 23)) (a + 1) 1 (a + 23)) (a + 44)) (a + 44)) (a + 1) 2 (a + 44)) (a + 65)) (a + 65)) (a + 1) 3 (a + 65)) (a + 86)) (a + 86)) (a + 1) 4 (a + 86)) (a + 107)) (a + 107)) (a + 1) 5 (a + 107)) (a + 128)) (a + 128)) (a + 1) 6 (a + 128)) (a + 149)) (a + 149)) (a + 1) 7 (a + 149)) (a + 170)) (a + 170)) (a + 1) 8 (a + 170)) (a + 191)) (a := a + 191)); simpa [Nat.add_assoc] using h9
    · have h9 := rr_X5_ext (R1 := RC) (fun q h1 h2 => by rw [← hRC]; simp (disch := omega) only [uR_eq, uR_ne, uN_ne, uR_nj, rc_X5_out]) (rr_X5_mk (R := uN (uR (rc_X5 (uN (uR (rc_X5 (uN (uR (rc_X5 (uN (uR (rc_X5 (uN (uR (rc_X5 (uN (uR (rc_X5 (uN (uR (rc_X5 (uN (uR (rc_X5 (uN (uR (rc_X5 (uN (uR (rc_X5 (uN (uR (uN R (a + 1)) a 0 (a + 1)) (a + 2)) (a + 2)) (a + 1) 0 (a + 2)) (a + 23)) (a + 23)) (a + 1) 1 (a + 23)) (a + 44)) (a + 44)) (a + 1) 2 (a + 44)) (a + 65)) (a + 65)) (a + 1) 3 (a + 65)) (a + 86)) (a + 86)) (a + 1) 4 (a + 86)) (a + 107)) (a + 107)) (a + 1) 5 (a + 107)) (a + 128)) (a + 128)) (a + 1) 6 (a + 128)) (a + 149)) (a + 149)) (a + 1) 7 (a + 149)) (a + 170)) (a + 170)) (a + 1) 8 (a + 170)) (a + 191)) (a + 191)) (a + 1) 9 (a + 191)) (a + 212)) (a := a + 212)); simpa [Nat.add_assoc] using h9
    · have h9 := rr_X5_ext (R1 := RC) (fun q h1 h2 => by rw [← hRC]; simp (disch := omega) only [uR_eq, uR_ne, uN_ne, uR_nj, rc_X5_out]) (rr_X5_mk (R := uN (uR (rc_X5 (uN (uR (rc_X5 (uN (uR (rc_X5 (uN (uR (rc_X5 (uN (uR (rc_X5 (uN (uR (rc_X5 (uN (uR (rc_X5 (uN (uR (rc_X5 (uN (uR (rc_X5 (uN (uR (rc_X5 (uN (uR (rc_X5 (uN (uR (uN R (a + 1)) a 0 (a + 1)) (a + 2)) (a + 2)) (a + 1) 0 (a + 2)) (a + 23)) (a + 23)) (a + 1) 1 (a + 23)) (a + 44)) (a + 44)) (a + 1) 2 (a + 44)) (a + 65)) (a + 65)) (a + 1) 3 (a + 65)) (a + 86)) (a + 86)) (a + 1) 4 (a + 86)) (a + 107)) (a + 107)) (a + 1) 5 (a + 107)) (a + 128)) (a + 128)) (a + 1) 6 (a + 128)) (a + 149)) (a + 149)) (a + 1) 7 (a + 149)) (a + 170)) (a + 170)) (a + 1) 8 (a + 170)) (a + 191)) (a + 191)) (a + 1) 9 (a + 191)) (a + 212)) (a + 212)) (a + 1) 10 (a + 212)) (a + 233)) (a := a + 233)); simpa [Nat.add_assoc] using h9
    · have h9 := rr_X5_ext (R1 := RC) (fun q h1 h2 => by rw [← hRC]; simp (disch := omega) only [uR_eq, uR_ne, uN_ne, uR_nj, rc_X5_out]) (rr_X5_mk (R := uN (uR (rc_X5 (uN (uR (rc_X5 (uN (uR (rc_X5 (uN (uR (rc_X5 (uN (uR (rc_X5 (uN (uR (rc_X5 (uN (uR (rc_X5 (uN (uR (rc_X5 (uN (uR (rc_X5 (uN (uR (rc_X5 (uN (uR (rc_X5 (uN (uR (rc_X5 (uN (uR (uN R (a + 1)) a 0 (a + 1)) (a + 2)) (a + 2)) (a + 1) 0 (a + 2)) (a + 23)) (a + 23)) (a + 1) 1 (a + 23)) (a + 44)) (a + 44)) (a + 1) 2 (a + 44)) (a + 65)) (a + 65)) (a + 1) 3 (a + 65)) (a + 86)) (a + 86)) (a + 1) 4 (a + 86)) (a + 107)) (a + 107)) (a + 1) 5 (a + 107)) (a + 128)) (a + 128)) (a + 1) 6 (a + 128)) (a + 149)) (a + 149)) (a + 1) 7 (a + 149)) (a + 170)) (a + 170)) (a + 1) 8 (a + 170)) (a + 191)) (a + 191)) (a + 1) 9 (a + 191)) (a + 212)) (a + 212)) (a + 1) 10 (a + 212)) (a + 233)) (a + 233)) (a + 1) 11 (a + 233)) (a + 254)) (a := a + 254)); simpa [Nat.add_assoc] using h9
    · have h9 := rr_X5_ext (R1 := RC) (fun q h1 h2 => by rw [← hRC]; simp (disch := omega) only [uR_eq, uR_ne, uN_ne, uR_nj, rc_X5_out]) (rr_X5_mk (R := uN (uR (rc_X5 (uN (uR (rc_X5 (uN (uR (rc_X5 (uN (uR (rc_X5 (uN (uR (rc_X5 (uN (uR (rc_X5 (uN (uR (rc_X5 (uN (uR (rc_X5 (uN (uR (rc_X5 (uN (uR (rc_X5 (uN (uR (rc_X5 (uN (uR (rc_X5 (uN (uR (rc_X5 (uN (uR (uN R (a + 1)) a 0 (a + 1)) (a + 2)) (a + 2)) (a + 1) 0 (a + 2)) (a + 23)) (a + 23)) (a + 1) 1 (a + 23)) (a + 44)) (a + 44)) (a + 1) 2 (a + 44)) (a + 65)) (a + 65)) (a + 1) 3 (a + 65)) (a + 86)) (a + 86)) (a + 1) 4 (a + 86)) (a + 107)) (a + 107)) (a + 1) 5 (a + 107)) (a + 128)) (a + 128)) (a + 1) 6 (a + 128)) (a + 149)) (a + 149)) (a + 1) 7 (a + 149)) (a + 170)) (a + 170)) (a + 1) 8 (a + 170)) (a + 191)) (a + 191)) (a + 1) 9 (a + 191)) (a + 212)) (a + 212)) (a + 1) 10 (a + 212)) (a + 233)) (a + 233)) (a + 1) 11 (a + 233)) (a + 254)) (a + 254)) (a + 1) 12 (a + 254)) (a + 275)) (a := a + 275)); simpa [Nat.add_assoc] using h9
def rc_X4 (R : zRf) (a : Nat) : zRf := uR (rc_X5 (uN R (a + 1)) (a + 1)) a 0 (a + 1)
set_option maxHeartbeats 16000000 in
set_option maxRecDepth 100000 in
theorem c_X4_init {l : Launch} {E : zEn} {kd : zKd} {X : zMl} (hl : l.stackTraces = false) (F : Nat) (p0 : Nat) (hkk : ∀ o, o < 22 → kd (p0 + o) = kdo_X4 o) (R : zRf) (M : zMi) (r : zMi) (hf : f_X4_init F p0 M = some r) : zM l E yX4_init cX4_init 1 (Option.none : Option Jvm.ClassFile.FieldType) { frames := 3, cells := 21, slots := 142, locals := 61 } 21 142 [.ref p0] (zct kd R (p0 + 1)) (· = p0 + 1) M X (zct kd (rc_X4 R p0) (p0 + 22)) (· = p0 + 22) none r X := by
  refine zM.intro (L0 := [(0, .ref p0)]) hl (by decide) (Nat.le_of_ble_eq_true rfl) rfl (fun Γ C0 hs => ?_)
  unfold f_X4_init at hf
  unfold rc_X4
  refine r_aload_n C0 dX4_init_0 rfl 0 rfl ?_
  refine rI_objInit C0 qw_686 qw_644 qw_645 (Nat.le_of_ble_eq_true rfl) (Nat.le_of_ble_eq_true rfl) dX4_init_1 ?_
  refine r_aload_n C0 dX4_init_4 rfl 0 rfl ?_
  refine rI_new C0 cl_X5 (hkk 1 (by decide +kernel)) qw_687 qw_682 qw_74 df_X5 hf (Nat.le_of_ble_eq_true rfl) (Nat.le_of_ble_eq_true rfl) dX4_init_5 (fun M1 eM1 hf => ?_)
  refine rI_eqS (S1 := (zct kd (uN R (p0 + 1)) (p0 + 2))) rfl (rI_eqZ (Z1 := (· = p0 + 2)) rfl (r_widen (k1 := 1) (s1 := 12) (by decide) (by decide) ?_))
  refine r_dup C0 dX4_init_8 rfl ?_
  refine rI_call C0 hf vs_158 (fun hl r2 hr2 => c_X5_init hl F (p0 + 1) (kk_sub hkk (b := 1) (by decide) (by decide +kernel)) (uN R (p0 + 1)) M1 r2 hr2) (Nat.le_of_ble_eq_true rfl) dX4_init_9 (zrm_ok rfl) (fun r2 hr2 hf => ?_)
  refine rI_eqS (S1 := (zct kd (rc_X5 (uN R (p0 + 1)) (p0 + 1)) (p0 + 22))) rfl (rI_eqZ (Z1 := (· = p0 + 22)) rfl (r_widen (k1 := 21) (s1 := 142) (by decide) (by decide) ?_))
  refine r_putR C0 (C := RX4) (T := TX4) cl_X4 (zct_k (by omega) (hkk 0 (by decide +kernel))) (k := 0) (by decide) qw_689 rfl rfl (rI_init (own9 := "") hs rfl) rfl rfl rfl dX4_init_12 ?_
  refine rI_eqS (S1 := (zct kd (uR (rc_X5 (uN R (p0 + 1)) (p0 + 1)) p0 0 (p0 + 1)) (p0 + 22))) rfl ?_
  obtain rfl := Option.some.inj hf
  exact r_vret C0 dX4_init_15
theorem rc_X4_out {R : zRf} {a q : Nat} (h : q < a ∨ a + 22 ≤ q) : rc_X4 R a q = R q := by
  unfold rc_X4
  simp (disch := omega) only [uR_eq, uR_ne, uN_ne, uR_nj, rc_X5_out]
set_option maxHeartbeats 16000000 in
set_option maxRecDepth 100000 in
theorem rr_X4_mk {R : zRf} {a : Nat} : rr_X4 (rc_X4 R a) a := by
  unfold rr_X4 rc_X4
  generalize hRC : uR (rc_X5 (uN R (a + 1)) (a + 1)) a 0 (a + 1) = RC
  refine ⟨?_, ?_⟩
  · rw [← hRC]; exact by simp (disch := omega) only [uR_eq, uR_ne, uN_ne, uR_nj, rc_X5_out]
  · rw [← hRC]; exact rr_X5_ext (fun q h1 h2 => by simp (disch := omega) only [uR_eq, uR_ne, uN_ne, uR_nj, rc_X5_out]) (rr_X5_mk (R := uN R (a + 1)) (a := a + 1))
def rc_X7 (R : zRf) (a : Nat) : zRf := uR (uN R (a + 1)) a 0 (a + 1)
set_option maxHeartbeats 16000000 in
set_option maxRecDepth 100000 in
theorem c_X7_init {l : Launch} {E : zEn} {kd : zKd} {X : zMl} (hl : l.stackTraces = false) (F : Nat) (p0 : Nat) (hkk : ∀ o, o < 2 → kd (p0 + o) = kdo_X7 o) (R : zRf) (M : zMi) (r : zMi) (hf : f_X7_init F p0 M = some r) : zM l E yX7_init cX7_init 1 (Option.none : Option Jvm.ClassFile.FieldType) { frames := 1, cells := 1, slots := 160, locals := 20 } 1 160 [.ref p0] (zct kd R (p0 + 1)) (· = p0 + 1) M X (zct kd (rc_X7 R p0) (p0 + 2)) (· = p0 + 2) none r X := by
  refine zM.intro (L0 := [(0, .ref p0)]) hl (by decide) (Nat.le_of_ble_eq_true rfl) rfl (fun Γ C0 hs => ?_)
  unfold f_X7_init at hf
  unfold rc_X7
  refine r_aload_n C0 dX7_init_0 rfl 0 rfl ?_
  refine rI_objInit C0 qw_690 qw_644 qw_645 (Nat.le_of_ble_eq_true rfl) (Nat.le_of_ble_eq_true rfl) dX7_init_1 ?_
  refine r_aload_n C0 dX7_init_4 rfl 0 rfl ?_
  refine r_sipush (v := 160) C0 dX7_init_5 (by decide) ?_
  refine rI_newa (atype := .char) (t := 1) (N := 160) C0 (by decide) rfl (fun _ _ h => h) rfl (hkk 1 (by decide +kernel)) qw_691 (by decide) (by decide) (by decide) hf (Nat.le_of_ble_eq_true rfl) (Nat.le_of_ble_eq_true rfl) dX7_init_8 (fun M1 eM1 hf => ?_)
  refine rI_eqS (S1 := (zct kd (uN R (p0 + 1)) (p0 + 2))) rfl (rI_eqZ (Z1 := (· = p0 + 2)) rfl (r_widen (k1 := 1) (s1 := 160) (by decide) (by decide) ?_))
  refine r_putR C0 (C := RX7) (T := TX7) cl_X7 (zct_k (by omega) (hkk 0 (by decide +kernel))) (k := 0) (by decide) qw_282 rfl rfl (rI_init (own9 := "") hs rfl) rfl rfl rfl dX7_init_10 ?_
  refine rI_eqS (S1 := (zct kd (uR (uN R (p0 + 1)) p0 0 (p0 + 1)) (p0 + 2))) rfl ?_
  obtain rfl := Option.some.inj hf
  exact r_vret C0 dX7_init_13
theorem rc_X7_out {R : zRf} {a q : Nat} (h : q < a ∨ a + 2 ≤ q) : rc_X7 R a q = R q := by
  unfold rc_X7
  simp (disch := omega) only [uR_eq, uR_ne, uN_ne, uR_nj]
set_option maxHeartbeats 16000000 in
set_option maxRecDepth 100000 in
theorem rr_X7_mk {R : zRf} {a : Nat} : rr_X7 (rc_X7 R a) a := by
  unfold rr_X7 rc_X7
  generalize hRC : uR (uN R (a + 1)) a 0 (a + 1) = RC
  rw [← hRC]; exact by simp (disch := omega) only [uR_eq, uR_ne, uN_ne, uR_nj]
def rc_X10 (R : zRf) (a : Nat) : zRf := uR (rc_X4 (uN (uR (rc_X4 (uN (uR (uN (uR (rc_X0 (uN (uR (rc_X5 (uN (uR (rc_X5 (uN (uR (rc_X7 (uN R (a + 1)) (a + 1)) a 0 (a + 1)) (a + 3)) (a + 3)) a 1 (a + 3)) (a + 24)) (a + 24)) a 2 (a + 24)) (a + 45)) (a + 45)) a 3 (a + 45)) (a + 341)) a 4 (a + 341)) (a + 342)) (a + 342)) (a + 341) 0 (a + 342)) (a + 364)) (a + 364)) (a + 341) 1 (a + 364)
set_option maxHeartbeats 16000000 in
set_option maxRecDepth 100000 in
theorem c_X10_init {l : Launch} {E : zEn} {kd : zKd} {X : zMl} (hl : l.stackTraces = false) (F : Nat) (p0 : Nat) (hkk : ∀ o, o < 386 → kd (p0 + o) = kdo_X10 o) (R : zRf) (M : zMi) (r : zMi) (hf : f_X10_init F p0 M = some r) : zM l E yX10_init cX10_init 2 (Option.none : Option Jvm.ClassFile.FieldType) { frames := 4, cells := 385, slots := 2743, locals := 82 } 385 2743 [.ref p0] (zct kd R (p0 + 1)) (· = p0 + 1) M X (zct kd (rc_X10 R p0) (p0 + 386)) (· = p0 + 386) none r X := by
  refine zM.intro (L0 := [(0, .ref p0)]) hl (by decide) (Nat.le_of_ble_eq_true rfl) rfl (fun Γ C0 hs => ?_)
  unfold f_X10_init at hf
  unfold rc_X10
  refine r_aload_n C0 dX10_init_0 rfl 0 rfl ?_
  refine rI_objInit C0 qw_692 qw_644 qw_645 (Nat.le_of_ble_eq_true rfl) (Nat.le_of_ble_eq_true rfl) dX10_init_1 ?_
  refine r_aload_n C0 dX10_init_4 rfl 0 rfl ?_
  refine rI_new C0 cl_X7 (hkk 1 (by decide +kernel)) qw_693 qw_694 qw_284 df_X7 hf (Nat.le_of_ble_eq_true rfl) (Nat.le_of_ble_eq_true rfl) dX10_init_5 (fun M1 eM1 hf => ?_)
  refine rI_eqS (S1 := (zct kd (uN R (p0 + 1)) (p0 + 2))) rfl (rI_eqZ (Z1 := (· = p0 + 2)) rfl (r_widen (k1 := 1) (s1 := 4) (by decide) (by decide) ?_))
  refine r_dup C0 dX10_init_8 rfl ?_
  refine rI_call C0 hf vs_159 (fun hl r2 hr2 => c_X7_init hl F (p0 + 1) (kk_sub hkk (b := 1) (by decide) (by decide +kernel)) (uN R (p0 + 1)) M1 r2 hr2) (Nat.le_of_ble_eq_true rfl) dX10_init_9 (zrm_ok rfl) (fun r2 hr2 hf => ?_)
  refine rI_eqS (S1 := (zct kd (rc_X7 (uN R (p0 + 1)) (p0 + 1)) (p0 + 3))) rfl (rI_eqZ (Z1 := (· = p0 + 3)) rfl (r_widen (k1 := 2) (s1 := 164) (by decide) (by decide) ?_))
  refine r_putR C0 (C := RX10) (T := TX10) cl_X10 (zct_k (by omega) (hkk 0 (by decide +kernel))) (k := 0) (by decide) qw_347 rfl rfl (rI_init (own9 := "") hs rfl) rfl rfl rfl dX10_init_12 ?_
  refine rI_eqS (S1 := (zct kd (uR (rc_X7 (uN R (p0 + 1)) (p0 + 1)) p0 0 (p0 + 1)) (p0 + 3))) rfl ?_
  refine r_aload_n C0 dX10_init_15 rfl 0 rfl ?_
  refine rI_new C0 cl_X5 (hkk 3 (by decide +kernel)) qw_698 qw_682 qw_74 df_X5 hf (Nat.le_of_ble_eq_true rfl) (Nat.le_of_ble_eq_true rfl) dX10_init_16 (fun M3 eM3 hf => ?_)
  refine rI_eqS (S1 := (zct kd (uN (uR (rc_X7 (uN R (p0 + 1)) (p0 + 1)) p0 0 (p0 + 1)) (p0 + 3)) (p0 + 4))) rfl (rI_eqZ (Z1 := (· = p0 + 4)) rfl (r_widen (k1 := 3) (s1 := 176) (by decide) (by decide) ?_))
  refine r_dup C0 dX10_init_19 rfl ?_
  refine rI_call C0 hf vs_160 (fun hl r4 hr4 => c_X5_init hl F (p0 + 3) (kk_sub hkk (b := 3) (by decide) (by decide +kernel)) (uN (uR (rc_X7 (uN R (p0 + 1)) (p0 + 1)) p0 0 (p0 + 1)) (p0 + 3)) M3 r4 hr4) (Nat.le_of_ble_eq_true rfl) dX10_init_20 (zrm_ok rfl) (fun r4 hr4 hf => ?_)
  refine rI_eqS (S1 := (zct kd (rc_X5 (uN (uR (rc_X7 (uN R (p0 + 1)) (p0 + 1)) p0 0 (p0 + 1)) (p0 + 3)) (p0 + 3)) (p0 + 24))) rfl (rI_eqZ (Z1 := (· = p0 + 24)) rfl (r_widen (k1 := 23) (s1 := 306) (by decide) (by decide) ?_))
  refine r_putR C0 (C := RX10) (T := TX10) cl_X10 (zct_k (by omega) (hkk 0 (by decide +kernel))) (k := 1) (by decide) qw_365 rfl rfl (rI_init (own9 := "") hs rfl) rfl rfl rfl dX10_init_23 ?_
  refine rI_eqS (S1 := (zct kd (uR (rc_X5 (uN (uR (rc_X7 (uN R (p0 + 1)) (p0 + 1)) p0 0 (p0 + 1)) (p0 + 3)) (p0 + 3)) p0 1 (p0 + 3)) (p0 + 24))) rfl ?_
  refine r_aload_n C0 dX10_init_26 rfl 0 rfl ?_
  refine rI_new C0 cl_X5 (hkk 24 (by decide +kernel)) qw_698 qw_682 qw_74 df_X5 hf (Nat.le_of_ble_eq_true rfl) (Nat.le_of_ble_eq_true rfl) dX10_init_27 (fun M5 eM5 hf => ?_)
  refine rI_eqS (S1 := (zct kd (uN (uR (rc_X5 (uN (uR (rc_X7 (uN R (p0 + 1)) (p0 + 1)) p0 0 (p0 + 1)) (p0 + 3)) (p0 + 3)) p0 1 (p0 + 3)) (p0 + 24)) (p0 + 25))) rfl (rI_eqZ (Z1 := (· = p0 + 25)) rfl (r_widen (k1 := 24) (s1 := 318) (by decide) (by decide) ?_))
  refine r_dup C0 dX10_init_30 rfl ?_
  refine rI_call C0 hf vs_160 (fun hl r6 hr6 => c_X5_init hl F (p0 + 24) (kk_sub hkk (b := 24) (by decide) (by decide +kernel)) (uN (uR (rc_X5 (uN (uR (rc_X7 (uN R (p0 + 1)) (p0 + 1)) p0 0 (p0 + 1)) (p0 + 3)) (p0 + 3)) p0 1 (p0 + 3)) (p0 + 24)) M5 r6 hr6) (Nat.le_of_ble_eq_true rfl) dX10_init_31 (zrm_ok rfl) (fun r6 hr6 hf => ?_)
  refine rI_eqS (S1 := (zct kd (rc_X5 (uN (uR (rc_X5 (uN (uR (rc_X7 (uN R (p0 + 1)) (p0 + 1)) p0 0 (p0 + 1)) (p0 + 3)) (p0 + 3)) p0 1 (p0 + 3)) (p0 + 24)) (p0 + 24)) (p0 + 45))) rfl (rI_eqZ (Z1 := (· = p0 + 45)) rfl (r_widen (k1 := 44) (s1 := 448) (by decide) (by decide) ?_))
  refine r_putR C0 (C := RX10) (T := TX10) cl_X10 (zct_k (by omega) (hkk 0 (by decide +kernel))) (k := 2) (by decide) qw_360 rfl rfl (rI_init (own9 := "") hs rfl) rfl rfl rfl dX10_init_34 ?_
  refine rI_eqS (S1 := (zct kd (uR (rc_X5 (uN (uR (rc_X5 (uN (uR (rc_X7 (uN R (p0 + 1)) (p0 + 1)) p0 0 (p0 + 1)) (p0 + 3)) (p0 + 3)) p0 1 (p0 + 3)) (p0 + 24)) (p0 + 24)) p0 2 (p0 + 24)) (p0 + 45))) rfl ?_
  refine r_aload_n C0 dX10_init_37 rfl 0 rfl ?_
  refine rI_new C0 cl_X0 (hkk 45 (by decide +kernel)) qw_700 qw_701 qw_69 df_X0 hf (Nat.le_of_ble_eq_true rfl) (Nat.le_of_ble_eq_true rfl) dX10_init_38 (fun M7 eM7 hf => ?_)
  refine rI_eqS (S1 := (zct kd (uN (uR (rc_X5 (uN (uR (rc_X5 (uN (uR (rc_X7 (uN R (p0 + 1)) (p0 + 1)) p0 0 (p0 + 1)) (p0 + 3)) (p0 + 3)) p0 1 (p0 + 3)) (p0 + 24)) (p0 + 24)) p0 2 (p0 + 24)) (p0 + 45)) (p0 + 46))) rfl (rI_eqZ (Z1 := (· = p0 + 46)) rfl (r_widen (k1 := 45) (s1 := 451) (by decide) (by decide) ?_))
  refine r_dup C0 dX10_init_41 rfl ?_
  refine rI_call C0 hf vs_161 (fun hl r8 hr8 => c_X0_init hl F (p0 + 45) (kk_sub hkk (b := 45) (by decide) (by decide +kernel)) (uN (uR (rc_X5 (uN (uR (rc_X5 (uN (uR (rc_X7 (uN R (p0 + 1)) (p0 + 1)) p0 0 (p0 + 1)) (p0 + 3)) (p0 + 3)) p0 1 (p0 + 3)) (p0 + 24)) (p0 + 24)) p0 2 (p0 + 24)) (p0 + 45)) M7 r8 hr8) (Nat.le_of_ble_eq_true rfl) dX10_init_42 (zrm_ok rfl) (fun r8 hr8 hf => ?_)
  refine rI_eqS (S1 := (zct kd (rc_X0 (uN (uR (rc_X5 (uN (uR (rc_X5 (uN (uR (rc_X7 (uN R (p0 + 1)) (p0 + 1)) p0 0 (p0 + 1)) (p0 + 3)) (p0 + 3)) p0 1 (p0 + 3)) (p0 + 24)) (p0 + 24)) p0 2 (p0 + 24)) (p0 + 45)) (p0 + 45)) (p0 + 341))) rfl (rI_eqZ (Z1 := (· = p0 + 341)) rfl (r_widen (k1 := 340) (s1 := 2453) (by decide) (by decide) ?_))
  refine r_putR C0 (C := RX10) (T := TX10) cl_X10 (zct_k (by omega) (hkk 0 (by decide +kernel))) (k := 3) (by decide) qw_369 rfl rfl (rI_init (own9 := "") hs rfl) rfl rfl rfl dX10_init_45 ?_
  refine rI_eqS (S1 := (zct kd (uR (rc_X0 (uN (uR (rc_X5 (uN (uR (rc_X5 (uN (uR (rc_X7 (uN R (p0 + 1)) (p0 + 1)) p0 0 (p0 + 1)) (p0 + 3)) (p0 + 3)) p0 1 (p0 + 3)) (p0 + 24)) (p0 + 24)) p0 2 (p0 + 24)) (p0 + 45)) (p0 + 45)) p0 3 (p0 + 45)) (p0 + 341))) rfl ?_
  refine r_aload_n C0 dX10_init_48 rfl 0 rfl ?_
  refine r_iconst (v := 2) C0 dX10_init_49 (by decide) ?_
  refine rI_anew (t := 5) (N := 2) C0 (by decide) (by decide) rfl (hkk 341 (by decide +kernel)) qw_705 qw_706 (by decide) (by decide) (by decide) hf (Nat.le_of_ble_eq_true rfl) (Nat.le_of_ble_eq_true rfl) dX10_init_50 (fun M9 eM9 hf => ?_)
  refine rI_eqS (S1 := (zct kd (uN (uR (rc_X0 (uN (uR (rc_X5 (uN (uR (rc_X5 (uN (uR (rc_X7 (uN R (p0 + 1)) (p0 + 1)) p0 0 (p0 + 1)) (p0 + 3)) (p0 + 3)) p0 1 (p0 + 3)) (p0 + 24)) (p0 + 24)) p0 2 (p0 + 24)) (p0 + 45)) (p0 + 45)) p0 3 (p0 + 45)) (p0 + 341)) (p0 + 342))) rfl (rI_eqZ (Z1 := (· = p0 + 342)) rfl (r_widen (k1 := 341) (s1 := 2455) (by decide) (by decide) ?_))
  refine r_putR C0 (C := RX10) (T := TX10) cl_X10 (zct_k (by omega) (hkk 0 (by decide +kernel))) (k := 4) (by decide) qw_374 rfl rfl (rI_init (own9 := "") hs rfl) rfl rfl rfl dX10_init_53 ?_
  refine rI_eqS (S1 := (zct kd (uR (uN (uR (rc_X0 (uN (uR (rc_X5 (uN (uR (rc_X5 (uN (uR (rc_X7 (uN R (p0 + 1)) (p0 + 1)) p0 0 (p0 + 1)) (p0 + 3)) (p0 + 3)) p0 1 (p0 + 3)) (p0 + 24)) (p0 + 24)) p0 2 (p0 + 24)) (p0 + 45)) (p0 + 45)) p0 3 (p0 + 45)) (p0 + 341)) p0 4 (p0 + 341)) (p0 + 342))) rfl ?_
  refine r_iconst (v := 0) C0 dX10_init_56 (by decide) ?_
  refine r_istore_n (L' := [(1, .int (0 : Int32)), (0, .ref p0)]) C0 dX10_init_57 rfl (by decide) rfl ?_
  refine r_iload_n C0 dX10_init_58 rfl 0 rfl ?_
  refine r_aload_n C0 dX10_init_59 rfl 1 rfl ?_
  refine r_getR C0 (C := RX10) (T := TX10) cl_X10 (zct_k (by omega) (hkk 0 (by decide +kernel))) (k := 4) (by decide) qw_374 rfl (show (uR (uN (uR (rc_X0 (uN (uR (rc_X5 (uN (uR (rc_X5 (uN (uR (rc_X7 (uN R (p0 + 1)) (p0 + 1)) p0 0 (p0 + 1)) (p0 + 3)) (p0 + 3)) p0 1 (p0 + 3)) (p0 + 24)) (p0 + 24)) p0 2 (p0 + 24)) (p0 + 45)) (p0 + 45)) p0 3 (p0 + 45)) (p0 + 341)) p0 4 (p0 + 341)) p0 4 = some (p0 + 341) by simp (disch := omega) only [uR_eq, uR_ne, uN_ne, uR_nj, rc_X0_out, rc_X5_out, rc_X7_out]) dX10_init_60 ?_
  refine r_alen (v := 2) C0 (zct_k (by omega) (hkk 341 (by decide +kernel))) (by decide) rfl dX10_init_63 ?_
  refine r_icmp_ge_f C0 86 dX10_init_64 (by decide) (by decide) ?_
  refine r_aload_n C0 dX10_init_67 rfl 1 rfl ?_
  refine r_getR C0 (C := RX10) (T := TX10) cl_X10 (zct_k (by omega) (hkk 0 (by decide +kernel))) (k := 4) (by decide) qw_374 rfl (show (uR (uN (uR (rc_X0 (uN (uR (rc_X5 (uN (uR (rc_X5 (uN (uR (rc_X7 (uN R (p0 + 1)) (p0 + 1)) p0 0 (p0 + 1)) (p0 + 3)) (p0 + 3)) p0 1 (p0 + 3)) (p0 + 24)) (p0 + 24)) p0 2 (p0 + 24)) (p0 + 45)) (p0 + 45)) p0 3 (p0 + 45)) (p0 + 341)) p0 4 (p0 + 341)) p0 4 = some (p0 + 341) by simp (disch := omega) only [uR_eq, uR_ne, uN_ne, uR_nj, rc_X0_out, rc_X5_out, rc_X7_out]) dX10_init_68 ?_
  refine r_iload_n C0 dX10_init_71 rfl 0 rfl ?_
  refine rI_new C0 cl_X4 (hkk 342 (by decide +kernel)) qw_705 qw_707 qw_708 df_X4 hf (Nat.le_of_ble_eq_true rfl) (Nat.le_of_ble_eq_true rfl) dX10_init_72 (fun M10 eM10 hf => ?_)
  refine rI_eqS (S1 := (zct kd (uN (uR (uN (uR (rc_X0 (uN (uR (rc_X5 (uN (uR (rc_X5 (uN (uR (rc_X7 (uN R (p0 + 1)) (p0 + 1)) p0 0 (p0 + 1)) (p0 + 3)) (p0 + 3)) p0 1 (p0 + 3)) (p0 + 24)) (p0 + 24)) p0 2 (p0 + 24)) (p0 + 45)) (p0 + 45)) p0 3 (p0 + 45)) (p0 + 341)) p0 4 (p0 + 341)) (p0 + 342)) (p0 + 343))) rfl (rI_eqZ (Z1 := (· = p0 + 343)) rfl (r_widen (k1 := 342) (s1 := 2457) (by decide) (by decide) ?_))
  refine r_dup C0 dX10_init_75 rfl ?_
  refine rI_call C0 hf vs_162 (fun hl r11 hr11 => c_X4_init hl F (p0 + 342) (kk_sub hkk (b := 342) (by decide) (by decide +kernel)) (uN (uR (uN (uR (rc_X0 (uN (uR (rc_X5 (uN (uR (rc_X5 (uN (uR (rc_X7 (uN R (p0 + 1)) (p0 + 1)) p0 0 (p0 + 1)) (p0 + 3)) (p0 + 3)) p0 1 (p0 + 3)) (p0 + 24)) (p0 + 24)) p0 2 (p0 + 24)) (p0 + 45)) (p0 + 45)) p0 3 (p0 + 45)) (p0 + 341)) p0 4 (p0 + 341)) (p0 + 342)) M10 r11 hr11) (Nat.le_of_ble_eq_true rfl) dX10_init_76 (zrm_ok rfl) (fun r11 hr11 hf => ?_)
  refine rI_eqS (S1 := (zct kd (rc_X4 (uN (uR (uN (uR (rc_X0 (uN (uR (rc_X5 (uN (uR (rc_X5 (uN (uR (rc_X7 (uN R (p0 + 1)) (p0 + 1)) p0 0 (p0 + 1)) (p0 + 3)) (p0 + 3)) p0 1 (p0 + 3)) (p0 + 24)) (p0 + 24)) p0 2 (p0 + 24)) (p0 + 45)) (p0 + 45)) p0 3 (p0 + 45)) (p0 + 341)) p0 4 (p0 + 341)) (p0 + 342)) (p0 + 342)) (p0 + 364))) rfl (rI_eqZ (Z1 := (· = p0 + 364)) rfl (r_widen (k1 := 363) (s1 := 2599) (by decide) (by decide) ?_))
  refine rI_aast (t := 5) (n0 := 2) (j := 0) C0 (zct_k (by omega) (hkk 341 (by decide +kernel))) (by decide) (by decide) rfl (zct_k (by omega) (hkk 342 (by decide +kernel))) rfl rfl rfl dX10_init_79 ?_
  refine rI_eqS (S1 := (zct kd (uR (rc_X4 (uN (uR (uN (uR (rc_X0 (uN (uR (rc_X5 (uN (uR (rc_X5 (uN (uR (rc_X7 (uN R (p0 + 1)) (p0 + 1)) p0 0 (p0 + 1)) (p0 + 3)) (p0 + 3)) p0 1 (p0 + 3)) (p0 + 24)) (p0 + 24)) p0 2 (p0 + 24)) (p0 + 45)) (p0 + 45)) p0 3 (p0 + 45)) (p0 + 341)) p0 4 (p0 + 341)) (p0 + 342)) (p0 + 342)) (p0 + 341) 0 (p0 + 342)) (p0 + 364))) rfl ?_
  refine r_iinc (j := 0) (v := (1 : Int32)) (L' := [(1, .int (1 : Int32)), (0, .ref p0)]) C0 dX10_init_80 rfl (by decide) (by decide) rfl ?_
  refine r_goto C0 58 dX10_init_83 (by decide) ?_
  refine r_iload_n C0 dX10_init_58 rfl 0 rfl ?_
  refine r_aload_n C0 dX10_init_59 rfl 1 rfl ?_
  refine r_getR C0 (C := RX10) (T := TX10) cl_X10 (zct_k (by omega) (hkk 0 (by decide +kernel))) (k := 4) (by decide) qw_374 rfl (show (uR (rc_X4 (uN (uR (uN (uR (rc_X0 (uN (uR (rc_X5 (uN (uR (rc_X5 (uN (uR (rc_X7 (uN R (p0 + 1)) (p0 + 1)) p0 0 (p0 + 1)) (p0 + 3)) (p0 + 3)) p0 1 (p0 + 3)) (p0 + 24)) (p0 + 24)) p0 2 (p0 + 24)) (p0 + 45)) (p0 + 45)) p0 3 (p0 + 45)) (p0 + 341)) p0 4 (p0 + 341)) (p0 + 342)) (p0 + 342)) (p0 + 341) 0 (p0 + 342)) p0 4 = some (p0 + 341) by simp (disch := omega) only [uR_eq, uR_ne, uN_ne, uR_nj, rc_X0_out, rc_X4_out, rc_X5_out, rc_X7_out]) dX10_init_60 ?_
  refine r_alen (v := 2) C0 (zct_k (by omega) (hkk 341 (by decide +kernel))) (by decide) rfl dX10_init_63 ?_
  refine r_icmp_ge_f C0 86 dX10_init_64 (by decide) (by decide) ?_
  refine r_aload_n C0 dX10_init_67 rfl 1 rfl ?_
  refine r_getR C0 (C := RX10) (T := TX10) cl_X10 (zct_k (by omega) (hkk 0 (by decide +kernel))) (k := 4) (by decide) qw_374 rfl (show (uR (rc_X4 (uN (uR (uN (uR (rc_X0 (uN (uR (rc_X5 (uN (uR (rc_X5 (uN (uR (rc_X7 (uN R (p0 + 1)) (p0 + 1)) p0 0 (p0 + 1)) (p0 + 3)) (p0 + 3)) p0 1 (p0 + 3)) (p0 + 24)) (p0 + 24)) p0 2 (p0 + 24)) (p0 + 45)) (p0 + 45)) p0 3 (p0 + 45)) (p0 + 341)) p0 4 (p0 + 341)) (p0 + 342)) (p0 + 342)) (p0 + 341) 0 (p0 + 342)) p0 4 = some (p0 + 341) by simp (disch := omega) only [uR_eq, uR_ne, uN_ne, uR_nj, rc_X0_out, rc_X4_out, rc_X5_out, rc_X7_out]) dX10_init_68 ?_
  refine r_iload_n C0 dX10_init_71 rfl 0 rfl ?_
  refine rI_new C0 cl_X4 (hkk 364 (by decide +kernel)) qw_705 qw_707 qw_708 df_X4 hf (Nat.le_of_ble_eq_true rfl) (Nat.le_of_ble_eq_true rfl) dX10_init_72 (fun M12 eM12 hf => ?_)
  refine rI_eqS (S1 := (zct kd (uN (uR (rc_X4 (uN (uR (uN (uR (rc_X0 (uN (uR (rc_X5 (uN (uR (rc_X5 (uN (uR (rc_X7 (uN R (p0 + 1)) (p0 + 1)) p0 0 (p0 + 1)) (p0 + 3)) (p0 + 3)) p0 1 (p0 + 3)) (p0 + 24)) (p0 + 24)) p0 2 (p0 + 24)) (p0 + 45)) (p0 + 45)) p0 3 (p0 + 45)) (p0 + 341)) p0 4 (p0 + 341)) (p0 + 342)) (p0 + 342)) (p0 + 341) 0 (p0 + 342)) (p0 + 364)) (p0 + 365))) rfl (rI_eqZ (Z1 := (· = p0 + 365)) rfl (r_widen (k1 := 364) (s1 := 2601) (by decide) (by decide) ?_))
  refine r_dup C0 dX10_init_75 rfl ?_
  refine rI_call C0 hf vs_162 (fun hl r13 hr13 => c_X4_init hl F (p0 + 364) (kk_sub hkk (b := 364) (by decide) (by decide +kernel)) (uN (uR (rc_X4 (uN (uR (uN (uR (rc_X0 (uN (uR (rc_X5 (uN (uR (rc_X5 (uN (uR (rc_X7 (uN R (p0 + 1)) (p0 + 1)) p0 0 (p0 + 1)) (p0 + 3)) (p0 + 3)) p0 1 (p0 + 3)) (p0 + 24)) (p0 + 24)) p0 2 (p0 + 24)) (p0 + 45)) (p0 + 45)) p0 3 (p0 + 45)) (p0 + 341)) p0 4 (p0 + 341)) (p0 + 342)) (p0 + 342)) (p0 + 341) 0 (p0 + 342)) (p0 + 364)) M12 r13 hr13) (Nat.le_of_ble_eq_true rfl) dX10_init_76 (zrm_ok rfl) (fun r13 hr13 hf => ?_)
  refine rI_eqS (S1 := (zct kd (rc_X4 (uN (uR (rc_X4 (uN (uR (uN (uR (rc_X0 (uN (uR (rc_X5 (uN (uR (rc_X5 (uN (uR (rc_X7 (uN R (p0 + 1)) (p0 + 1)) p0 0 (p0 + 1)) (p0 + 3)) (p0 + 3)) p0 1 (p0 + 3)) (p0 + 24)) (p0 + 24)) p0 2 (p0 + 24)) (p0 + 45)) (p0 + 45)) p0 3 (p0 + 45)) (p0 + 341)) p0 4 (p0 + 341)) (p0 + 342)) (p0 + 342)) (p0 + 341) 0 (p0 + 342)) (p0 + 364)) (p0 + 364)) (p0 + 386))) rfl (rI_eqZ (Z1 := (· = p0 + 386)) rfl (r_widen (k1 := 385) (s1 := 2743) (by decide) (by decide) ?_))
  refine rI_aast (t := 5) (n0 := 2) (j := 1) C0 (zct_k (by omega) (hkk 341 (by decide +kernel))) (by decide) (by decide) rfl (zct_k (by omega) (hkk 364 (by decide +kernel))) rfl rfl rfl dX10_init_79 ?_
  refine rI_eqS (S1 := (zct kd (uR (rc_X4 (uN (uR (rc_X4 (uN (uR (uN (uR (rc_X0 (uN (uR (rc_X5 (uN (uR (rc_X5 (uN (uR (rc_X7 (uN R (p0 + 1)) (p0 + 1)) p0 0 (p0 + 1)) (p0 + 3)) (p0 + 3)) p0 1 (p0 + 3)) (p0 + 24)) (p0 + 24)) p0 2 (p0 + 24)) (p0 + 45)) (p0 + 45)) p0 3 (p0 + 45)) (p0 + 341)) p0 4 (p0 + 341)) (p0 + 342)) (p0 + 342)) (p0 + 341) 0 (p0 + 342)) (p0 + 364)) (p0 + 364)) (p0 + 341) 1 (p0 + 364)) (p0 + 386))) rfl ?_
  refine r_iinc (j := 0) (v := (2 : Int32)) (L' := [(1, .int (2 : Int32)), (0, .ref p0)]) C0 dX10_init_80 rfl (by decide) (by decide) rfl ?_
  refine r_goto C0 58 dX10_init_83 (by decide) ?_
  refine r_iload_n C0 dX10_init_58 rfl 0 rfl ?_
  refine r_aload_n C0 dX10_init_59 rfl 1 rfl ?_
  refine r_getR C0 (C := RX10) (T := TX10) cl_X10 (zct_k (by omega) (hkk 0 (by decide +kernel))) (k := 4) (by decide) qw_374 rfl (show (uR (rc_X4 (uN (uR (rc_X4 (uN (uR (uN (uR (rc_X0 (uN (uR (rc_X5 (uN (uR (rc_X5 (uN (uR (rc_X7 (uN R (p0 + 1)) (p0 + 1)) p0 0 (p0 + 1)) (p0 + 3)) (p0 + 3)) p0 1 (p0 + 3)) (p0 + 24)) (p0 + 24)) p0 2 (p0 + 24)) (p0 + 45)) (p0 + 45)) p0 3 (p0 + 45)) (p0 + 341)) p0 4 (p0 + 341)) (p0 + 342)) (p0 + 342)) (p0 + 341) 0 (p0 + 342)) (p0 + 364)) (p0 + 364)) (p0 + 341) 1 (p0 + 364)) p0 4 = some (p0 + 341) by simp (disch := omega) only [uR_eq, uR_ne, uN_ne, uR_nj, rc_X0_out, rc_X4_out, rc_X5_out, rc_X7_out]) dX10_init_60 ?_
  refine r_alen (v := 2) C0 (zct_k (by omega) (hkk 341 (by decide +kernel))) (by decide) rfl dX10_init_63 ?_
  refine r_icmp_ge_t C0 86 dX10_init_64 (by decide) (by decide) ?_
  refine r_aload_n C0 dX10_init_86 rfl 1 rfl ?_
  refine r_getR C0 (C := RX10) (T := TX10) cl_X10 (zct_k (by omega) (hkk 0 (by decide +kernel))) (k := 1) (by decide) qw_365 rfl (show (uR (rc_X4 (uN (uR (rc_X4 (uN (uR (uN (uR (rc_X0 (uN (uR (rc_X5 (uN (uR (rc_X5 (uN (uR (rc_X7 (uN R (p0 + 1)) (p0 + 1)) p0 0 (p0 + 1)) (p0 + 3)) (p0 + 3)) p0 1 (p0 + 3)) (p0 + 24)) (p0 + 24)) p0 2 (p0 + 24)) (p0 + 45)) (p0 + 45)) p0 3 (p0 + 45)) (p0 + 341)) p0 4 (p0 + 341)) (p0 + 342)) (p0 + 342)) (p0 + 341) 0 (p0 + 342)) (p0 + 364)) (p0 + 364)) (p0 + 341) 1 (p0 + 364)) p0 1 = some (p0 + 3) by simp (disch := omega) only [uR_eq, uR_ne, uN_ne, uR_nj, rc_X0_out, rc_X4_out, rc_X5_out, rc_X7_out]) dX10_init_87 ?_
  refine r_iconst (v := 1) C0 dX10_init_90 (by decide) ?_
  refine r_iconst (v := 2) C0 dX10_init_91 (by decide) ?_
  refine r_sipush (v := 200) C0 dX10_init_92 (by decide) ?_
  have hK_now : K_X5 (zct kd (uR (rc_X4 (uN (uR (rc_X4 (uN (uR (uN (uR (rc_X0 (uN (uR (rc_X5 (uN (uR (rc_X5 (uN (uR (rc_X7 (uN R (p0 + 1)) (p0 + 1)) p0 0 (p0 + 1)) (p0 + 3)) (p0 + 3)) p0 1 (p0 + 3)) (p0 + 24)) (p0 + 24)) p0 2 (p0 + 24)) (p0 + 45)) (p0 + 45)) p0 3 (p0 + 45)) (p0 + 341)) p0 4 (p0 + 341)) (p0 + 342)) (p0 + 342)) (p0 + 341) 0 (p0 + 342)) (p0 + 364)) (p0 + 364)) (p0 + 341) 1 (p0 + 364)) (p0 + 386)) (p0 + 3) := kf_X5 (kk_sub hkk (b := 3) (by decide) (by decide +kernel)) (by omega) (rr_X5_ext (fun q h1 h2 => by simp (disch := omega) only [uR_eq, uR_ne, uN_ne, uR_nj, rc_X0_out, rc_X4_out, rc_X5_out, rc_X7_out]) (rr_X5_mk (R := uN (uR (rc_X7 (uN R (p0 + 1)) (p0 + 1)) p0 0 (p0 + 1)) (p0 + 3)) (a := (p0 + 3))))
  refine r_callVm C0 (st := []) [.int (1 : Int32), .int (2 : Int32), .int (200 : Int32)] (p0 + 3) hf vs_163 (fun hl r14 hr14 => c_X5_begin hl F (p0 + 3) (1 : Int32) (2 : Int32) (200 : Int32) hK_now r13 r14 hr14) (K_X5_o hK_now) rfl rfl rfl rfl (Nat.le_of_ble_eq_true rfl) dX10_init_95 (zrm_ok rfl) (fun r14 hr14 hf => ?_)
  refine r_aload_n C0 dX10_init_98 rfl 1 rfl ?_
  refine r_getR C0 (C := RX10) (T := TX10) cl_X10 (zct_k (by omega) (hkk 0 (by decide +kernel))) (k := 1) (by decide) qw_365 rfl (show (uR (rc_X4 (uN (uR (rc_X4 (uN (uR (uN (uR (rc_X0 (uN (uR (rc_X5 (uN (uR (rc_X5 (uN (uR (rc_X7 (uN R (p0 + 1)) (p0 + 1)) p0 0 (p0 + 1)) (p0 + 3)) (p0 + 3)) p0 1 (p0 + 3)) (p0 + 24)) (p0 + 24)) p0 2 (p0 + 24)) (p0 + 45)) (p0 + 45)) p0 3 (p0 + 45)) (p0 + 341)) p0 4 (p0 + 341)) (p0 + 342)) (p0 + 342)) (p0 + 341) 0 (p0 + 342)) (p0 + 364)) (p0 + 364)) (p0 + 341) 1 (p0 + 364)) p0 1 = some (p0 + 3) by simp (disch := omega) only [uR_eq, uR_ne, uN_ne, uR_nj, rc_X0_out, rc_X4_out, rc_X5_out, rc_X7_out]) dX10_init_99 ?_
  refine r_bipush (v := 50) C0 dX10_init_102 (by decide) ?_
  refine r_iconst (v := 0) C0 dX10_init_104 (by decide) ?_
  refine r_bipush (v := 99) C0 dX10_init_105 (by decide) ?_
  refine r_iconst (v := 5) C0 dX10_init_107 (by decide) ?_
  refine r_callVm C0 (st := []) [.int (50 : Int32), .int (0 : Int32), .int (99 : Int32), .int (5 : Int32)] (p0 + 3) hf vs_164 (fun hl r15 hr15 => c_X5_addZone hl F (p0 + 3) (50 : Int32) (0 : Int32) (99 : Int32) (5 : Int32) hK_now r14 r15 hr15) (K_X5_o hK_now) rfl rfl rfl rfl (Nat.le_of_ble_eq_true rfl) dX10_init_108 (zrm_ok rfl) (fun r15 hr15 hf => ?_)
  refine r_aload_n C0 dX10_init_111 rfl 1 rfl ?_
  refine r_getR C0 (C := RX10) (T := TX10) cl_X10 (zct_k (by omega) (hkk 0 (by decide +kernel))) (k := 1) (by decide) qw_365 rfl (show (uR (rc_X4 (uN (uR (rc_X4 (uN (uR (uN (uR (rc_X0 (uN (uR (rc_X5 (uN (uR (rc_X5 (uN (uR (rc_X7 (uN R (p0 + 1)) (p0 + 1)) p0 0 (p0 + 1)) (p0 + 3)) (p0 + 3)) p0 1 (p0 + 3)) (p0 + 24)) (p0 + 24)) p0 2 (p0 + 24)) (p0 + 45)) (p0 + 45)) p0 3 (p0 + 45)) (p0 + 341)) p0 4 (p0 + 341)) (p0 + 342)) (p0 + 342)) (p0 + 341) 0 (p0 + 342)) (p0 + 364)) (p0 + 364)) (p0 + 341) 1 (p0 + 364)) p0 1 = some (p0 + 3) by simp (disch := omega) only [uR_eq, uR_ne, uN_ne, uR_nj, rc_X0_out, rc_X4_out, rc_X5_out, rc_X7_out]) dX10_init_112 ?_
  refine r_bipush (v := 100) C0 dX10_init_115 (by decide) ?_
  refine r_bipush (v := 10) C0 dX10_init_117 (by decide) ?_
  refine r_iconst (v := 5) C0 dX10_init_119 (by decide) ?_
  refine r_bipush (v := 20) C0 dX10_init_120 (by decide) ?_
  refine r_callVm C0 (st := []) [.int (100 : Int32), .int (10 : Int32), .int (5 : Int32), .int (20 : Int32)] (p0 + 3) hf vs_165 (fun hl r16 hr16 => c_X5_addShip hl F (p0 + 3) (100 : Int32) (10 : Int32) (5 : Int32) (20 : Int32) hK_now r15 r16 hr16) (K_X5_o hK_now) rfl rfl rfl rfl (Nat.le_of_ble_eq_true rfl) dX10_init_122 (zrm_ok rfl) (fun r16 hr16 hf => ?_)
  refine r_aload_n C0 dX10_init_125 rfl 1 rfl ?_
  refine r_getR C0 (C := RX10) (T := TX10) cl_X10 (zct_k (by omega) (hkk 0 (by decide +kernel))) (k := 1) (by decide) qw_365 rfl (show (uR (rc_X4 (uN (uR (rc_X4 (uN (uR (uN (uR (rc_X0 (uN (uR (rc_X5 (uN (uR (rc_X5 (uN (uR (rc_X7 (uN R (p0 + 1)) (p0 + 1)) p0 0 (p0 + 1)) (p0 + 3)) (p0 + 3)) p0 1 (p0 + 3)) (p0 + 24)) (p0 + 24)) p0 2 (p0 + 24)) (p0 + 45)) (p0 + 45)) p0 3 (p0 + 45)) (p0 + 341)) p0 4 (p0 + 341)) (p0 + 342)) (p0 + 342)) (p0 + 341) 0 (p0 + 342)) (p0 + 364)) (p0 + 364)) (p0 + 341) 1 (p0 + 364)) p0 1 = some (p0 + 3) by simp (disch := omega) only [uR_eq, uR_ne, uN_ne, uR_nj, rc_X0_out, rc_X4_out, rc_X5_out, rc_X7_out]) dX10_init_126 ?_
  refine r_getR C0 (C := RX5) (T := TX5) cl_X5 (K_X5_o hK_now) (k := 2) (by decide) qw_422 rfl (K_X5_weather_r hK_now) dX10_init_129 ?_
  refine r_iconst (v := 3) C0 dX10_init_132 (by decide) ?_
  refine r_callVm C0 (st := []) [.int (3 : Int32)] ((p0 + 3) + 3) hf vs_166 (fun hl r17 hr17 => c_X8_add hl F ((p0 + 3) + 3) (3 : Int32) (K_X5_weather_k hK_now) r16 r17 hr17) (K_X8_o (K_X5_weather_k hK_now)) rfl rfl rfl rfl (Nat.le_of_ble_eq_true rfl) dX10_init_133 (zrm_ok rfl) (fun r17 hr17 hf => ?_)
  obtain rfl := Option.some.inj hf
  exact r_vret C0 dX10_init_136
theorem rc_X10_out {R : zRf} {a q : Nat} (h : q < a ∨ a + 386 ≤ q) : rc_X10 R a q = R q := by
  unfold rc_X10
  simp (disch := omega) only [uR_eq, uR_ne, uN_ne, uR_nj, rc_X0_out, rc_X4_out, rc_X5_out, rc_X7_out]
set_option maxHeartbeats 16000000 in
set_option maxRecDepth 100000 in
theorem rr_X10_mk {R : zRf} {a : Nat} : rr_X10 (rc_X10 R a) a := by
  unfold rr_X10 rc_X10
  generalize hRC : uR (rc_X4 (uN (uR (rc_X4 (uN (uR (uN (uR (rc_X0 (uN (uR (rc_X5 (uN (uR (rc_X5 (uN (uR (rc_X7 (uN R (a + 1)) (a + 1)) a 0 (a + 1)) (a + 3)) (a + 3)) a 1 (a + 3)) (a + 24)) (a + 24)) a 2 (a + 24)) (a + 45)) (a + 45)) a 3 (a + 45)) (a + 341)) a 4 (a + 341)) (a + 342)) (a + 342)) (a + 341) 0 (a + 342)) (a + 364)) (a + 364)) (a + 341) 1 (a + 364) = RC
  refine ⟨?_, ?_, ?_, ?_, ?_, ?_, ?_, ?_, ?_, ?_, ?_⟩
  · rw [← hRC]; exact by simp (disch := omega) only [uR_eq, uR_ne, uN_ne, uR_nj, rc_X0_out, rc_X4_out, rc_X5_out, rc_X7_out]
  · rw [← hRC]; exact rr_X7_ext (fun q h1 h2 => by simp (disch := omega) only [uR_eq, uR_ne, uN_ne, uR_nj, rc_X0_out, rc_X4_out, rc_X5_out, rc_X7_out]) (rr_X7_mk (R := uN R (a + 1)) (a := a + 1))
  · rw [← hRC]; exact by simp (disch := omega) only [uR_eq, uR_ne, uN_ne, uR_nj, rc_X0_out, rc_X4_out, rc_X5_out, rc_X7_out]
  · rw [← hRC]; exact rr_X5_ext (fun q h1 h2 => by simp (disch := omega) only [uR_eq, uR_ne, uN_ne, uR_nj, rc_X0_out, rc_X4_out, rc_X5_out, rc_X7_out]) (rr_X5_mk (R := uN (uR (rc_X7 (uN R (a + 1)) (a + 1)) a 0 (a + 1)) (a + 3)) (a := a + 3))
  · rw [← hRC]; exact by simp (disch := omega) only [uR_eq, uR_ne, uN_ne, uR_nj, rc_X0_out, rc_X4_out, rc_X5_out, rc_X7_out]
  · rw [← hRC]; exact rr_X5_ext (fun q h1 h2 => by simp (disch := omega) only [uR_eq, uR_ne, uN_ne, uR_nj, rc_X0_out, rc_X4_out, rc_X5_out, rc_X7_out]) (rr_X5_mk (R := uN (uR (rc_X5 (uN (uR (rc_X7 (uN R (a + 1)) (a + 1)) a 0 (a + 1)) (a + 3)) (a + 3)) a 1 (a + 3)) (a + 24)) (a := a + 24))
  · rw [← hRC]; exact by simp (disch := omega) only [uR_eq, uR_ne, uN_ne, uR_nj, rc_X0_out, rc_X4_out, rc_X5_out, rc_X7_out]
  · rw [← hRC]; exact rr_X0_ext (fun q h1 h2 => by simp (disch := omega) only [uR_eq, uR_ne, uN_ne, uR_nj, rc_X0_out, rc_X4_out, rc_X5_out, rc_X7_out]) (rr_X0_mk (R := uN (uR (rc_X5 (uN (uR (rc_X5 (uN (uR (rc_X7 (uN R (a + 1)) (a + 1)) a 0 (a + 1)) (a + 3)) (a + 3)) a 1 (a + 3)) (a + 24)) (a + 24)) a 2 (a + 24)) (a + 45)) (a := a + 45))
  · rw [← hRC]; exact by simp (disch := omega) only [uR_eq, uR_ne, uN_ne, uR_nj, rc_X0_out, rc_X4_out, rc_X5_out, rc_X7_out]
  · rw [← hRC]; exact fun j hj => by rcases (by omega : j = 0 ∨ j = 1) with rfl | rfl <;> simp (disch := omega) only [uR_eq, uR_ne, uN_ne, uR_nj, rc_X0_out, rc_X4_out, rc_X5_out, rc_X7_out]
  · intro j hj
    rcases (by omega : j = 0 ∨ j = 1) with rfl | rfl
    · have h9 := rr_X4_ext (R1 := RC) (fun q h1 h2 => by rw [← hRC]; simp (disch := omega) only [uR_eq, uR_ne, uN_ne, uR_nj, rc_X0_out, rc_X4_out, rc_X5_out, rc_X7_out]) (rr_X4_mk (R := uN (uR (uN (uR (rc_X0 (uN (uR (rc_X5 (uN (uR (rc_X5 (uN (uR (rc_X7 (uN R (a + 1)) (a + 1)) a 0 (a + 1)) (a + 3)) (a + 3)) a 1 (a + 3)) (a + 24)) (a + 24)) a 2 (a + 24)) (a + 45)) (a + 45)) a 3 (a + 45)) (a + 341)) a 4 (a + 341)) (a + 342)) (a := a + 342)); simpa [Nat.add_assoc] using h9
    · have h9 := rr_X4_ext (R1 := RC) (fun q h1 h2 => by rw [← hRC]; simp (disch := omega) only [uR_eq, uR_ne, uN_ne, uR_nj, rc_X0_out, rc_X4_out, rc_X5_out, rc_X7_out]) (rr_X4_mk (R := uN (uR (rc_X4 (uN (uR (uN (uR (rc_X0 (uN (uR (rc_X5 (uN (uR (rc_X5 (uN (uR (rc_X7 (uN R (a + 1)) (a + 1)) a 0 (a + 1)) (a + 3)) (a + 3)) a 1 (a + 3)) (a + 24)) (a + 24)) a 2 (a + 24)) (a + 45)) (a + 45)) a 3 (a + 45)) (a + 341)) a 4 (a + 341)) (a + 342)) (a + 342)) (a + 341) 0 (a + 342)) (a + 364)) (a := a + 364)); simpa [Nat.add_assoc] using h9
def rc_X11 (R : zRf) (a : Nat) : zRf := uR (uN (uR (uN (uR (uN (uR (uN (uR (uN (uR (uN (uR (uN R (a + 1)) a 1 (a + 1)) (a + 2)) a 4 (a + 2)) (a + 3)) a 5 (a + 3)) (a + 4)) a 6 (a + 4)) (a + 5)) a 7 (a + 5)) (a + 6)) a 9 (a + 6)) (a + 7)) a 10 (a + 7)
set_option maxHeartbeats 16000000 in
set_option maxRecDepth 100000 in
theorem c_X11_init {l : Launch} {E : zEn} {kd : zKd} {X : zMl} (hl : l.stackTraces = false) (F : Nat) (p0 : Nat) (hkk : ∀ o, o < 8 → kd (p0 + o) = kdo_X11 o) (R : zRf) (M : zMi) (r : zMi) (hf : f_X11_init F p0 M = some r) : zM l E yX11_init cX11_init 1 (Option.none : Option Jvm.ClassFile.FieldType) { frames := 1, cells := 7, slots := 2461, locals := 20 } 7 2461 [.ref p0] (zct kd R (p0 + 1)) (· = p0 + 1) M X (zct kd (rc_X11 R p0) (p0 + 8)) (· = p0 + 8) none r X := by
  refine zM.intro (L0 := [(0, .ref p0)]) hl (by decide) (Nat.le_of_ble_eq_true rfl) rfl (fun Γ C0 hs => ?_)
  unfold f_X11_init at hf
  unfold rc_X11
  refine r_aload_n C0 dX11_init_0 rfl 0 rfl ?_
  refine rI_objInit C0 qw_716 qw_644 qw_645 (Nat.le_of_ble_eq_true rfl) (Nat.le_of_ble_eq_true rfl) dX11_init_1 ?_
  refine r_aload_n C0 dX11_init_4 rfl 0 rfl ?_
  refine r_sipush (v := 160) C0 dX11_init_5 (by decide) ?_
  refine rI_newa (atype := .int) (t := 0) (N := 160) C0 (by decide) rfl (fun _ _ h => h) rfl (hkk 1 (by decide +kernel)) qw_646 (by decide) (by decide) (by decide) hf (Nat.le_of_ble_eq_true rfl) (Nat.le_of_ble_eq_true rfl) dX11_init_8 (fun M1 eM1 hf => ?_)
  refine rI_eqS (S1 := (zct kd (uN R (p0 + 1)) (p0 + 2))) rfl (rI_eqZ (Z1 := (· = p0 + 2)) rfl (r_widen (k1 := 1) (s1 := 160) (by decide) (by decide) ?_))
  refine r_putR C0 (C := RX11) (T := TX11) cl_X11 (zct_k (by omega) (hkk 0 (by decide +kernel))) (k := 1) (by decide) qw_552 rfl rfl (rI_init (own9 := "") hs rfl) rfl rfl rfl dX11_init_10 ?_
  refine rI_eqS (S1 := (zct kd (uR (uN R (p0 + 1)) p0 1 (p0 + 1)) (p0 + 2))) rfl ?_
  refine r_aload_n C0 dX11_init_13 rfl 0 rfl ?_
  refine r_bipush (v := 121) C0 dX11_init_14 (by decide) ?_
  refine rI_newa (atype := .int) (t := 0) (N := 121) C0 (by decide) rfl (fun _ _ h => h) rfl (hkk 2 (by decide +kernel)) qw_646 (by decide) (by decide) (by decide) hf (Nat.le_of_ble_eq_true rfl) (Nat.le_of_ble_eq_true rfl) dX11_init_16 (fun M2 eM2 hf => ?_)
  refine rI_eqS (S1 := (zct kd (uN (uR (uN R (p0 + 1)) p0 1 (p0 + 1)) (p0 + 2)) (p0 + 3))) rfl (rI_eqZ (Z1 := (· = p0 + 3)) rfl (r_widen (k1 := 2) (s1 := 281) (by decide) (by decide) ?_))
  refine r_putR C0 (C := RX11) (T := TX11) cl_X11 (zct_k (by omega) (hkk 0 (by decide +kernel))) (k := 4) (by decide) qw_557 rfl rfl (rI_init (own9 := "") hs rfl) rfl rfl rfl dX11_init_18 ?_
  refine rI_eqS (S1 := (zct kd (uR (uN (uR (uN R (p0 + 1)) p0 1 (p0 + 1)) (p0 + 2)) p0 4 (p0 + 2)) (p0 + 3))) rfl ?_
  refine r_aload_n C0 dX11_init_21 rfl 0 rfl ?_
  refine r_bipush (v := 121) C0 dX11_init_22 (by decide) ?_
  refine rI_newa (atype := .int) (t := 0) (N := 121) C0 (by decide) rfl (fun _ _ h => h) rfl (hkk 3 (by decide +kernel)) qw_646 (by decide) (by decide) (by decide) hf (Nat.le_of_ble_eq_true rfl) (Nat.le_of_ble_eq_true rfl) dX11_init_24 (fun M3 eM3 hf => ?_)
  refine rI_eqS (S1 := (zct kd (uN (uR (uN (uR (uN R (p0 + 1)) p0 1 (p0 + 1)) (p0 + 2)) p0 4 (p0 + 2)) (p0 + 3)) (p0 + 4))) rfl (rI_eqZ (Z1 := (· = p0 + 4)) rfl (r_widen (k1 := 3) (s1 := 402) (by decide) (by decide) ?_))
  refine r_putR C0 (C := RX11) (T := TX11) cl_X11 (zct_k (by omega) (hkk 0 (by decide +kernel))) (k := 5) (by decide) qw_578 rfl rfl (rI_init (own9 := "") hs rfl) rfl rfl rfl dX11_init_26 ?_
  refine rI_eqS (S1 := (zct kd (uR (uN (uR (uN (uR (uN R (p0 + 1)) p0 1 (p0 + 1)) (p0 + 2)) p0 4 (p0 + 2)) (p0 + 3)) p0 5 (p0 + 3)) (p0 + 4))) rfl ?_
  refine r_aload_n C0 dX11_init_29 rfl 0 rfl ?_
  refine r_bipush (v := 121) C0 dX11_init_30 (by decide) ?_
  refine rI_newa (atype := .int) (t := 0) (N := 121) C0 (by decide) rfl (fun _ _ h => h) rfl (hkk 4 (by decide +kernel)) qw_646 (by decide) (by decide) (by decide) hf (Nat.le_of_ble_eq_true rfl) (Nat.le_of_ble_eq_true rfl) dX11_init_32 (fun M4 eM4 hf => ?_)
  refine rI_eqS (S1 := (zct kd (uN (uR (uN (uR (uN (uR (uN R (p0 + 1)) p0 1 (p0 + 1)) (p0 + 2)) p0 4 (p0 + 2)) (p0 + 3)) p0 5 (p0 + 3)) (p0 + 4)) (p0 + 5))) rfl (rI_eqZ (Z1 := (· = p0 + 5)) rfl (r_widen (k1 := 4) (s1 := 523) (by decide) (by decide) ?_))
  refine r_putR C0 (C := RX11) (T := TX11) cl_X11 (zct_k (by omega) (hkk 0 (by decide +kernel))) (k := 6) (by decide) qw_625 rfl rfl (rI_init (own9 := "") hs rfl) rfl rfl rfl dX11_init_34 ?_
  refine rI_eqS (S1 := (zct kd (uR (uN (uR (uN (uR (uN (uR (uN R (p0 + 1)) p0 1 (p0 + 1)) (p0 + 2)) p0 4 (p0 + 2)) (p0 + 3)) p0 5 (p0 + 3)) (p0 + 4)) p0 6 (p0 + 4)) (p0 + 5))) rfl ?_
  refine r_aload_n C0 dX11_init_37 rfl 0 rfl ?_
  refine r_sipush (v := 1694) C0 dX11_init_38 (by decide) ?_
  refine rI_newa (atype := .int) (t := 0) (N := 1694) C0 (by decide) rfl (fun _ _ h => h) rfl (hkk 5 (by decide +kernel)) qw_646 (by decide) (by decide) (by decide) hf (Nat.le_of_ble_eq_true rfl) (Nat.le_of_ble_eq_true rfl) dX11_init_41 (fun M5 eM5 hf => ?_)
  refine rI_eqS (S1 := (zct kd (uN (uR (uN (uR (uN (uR (uN (uR (uN R (p0 + 1)) p0 1 (p0 + 1)) (p0 + 2)) p0 4 (p0 + 2)) (p0 + 3)) p0 5 (p0 + 3)) (p0 + 4)) p0 6 (p0 + 4)) (p0 + 5)) (p0 + 6))) rfl (rI_eqZ (Z1 := (· = p0 + 6)) rfl (r_widen (k1 := 5) (s1 := 2217) (by decide) (by decide) ?_))
  refine r_putR C0 (C := RX11) (T := TX11) cl_X11 (zct_k (by omega) (hkk 0 (by decide +kernel))) (k := 7) (by decide) qw_594 rfl rfl (rI_init (own9 := "") hs rfl) rfl rfl rfl dX11_init_43 ?_
  refine rI_eqS (S1 := (zct kd (uR (uN (uR (uN (uR (uN (uR (uN (uR (uN R (p0 + 1)) p0 1 (p0 + 1)) (p0 + 2)) p0 4 (p0 + 2)) (p0 + 3)) p0 5 (p0 + 3)) (p0 + 4)) p0 6 (p0 + 4)) (p0 + 5)) p0 7 (p0 + 5)) (p0 + 6))) rfl ?_
  refine r_aload_n C0 dX11_init_46 rfl 0 rfl ?_
  refine r_sipush (v := 242) C0 dX11_init_47 (by decide) ?_
  refine rI_newa (atype := .int) (t := 0) (N := 242) C0 (by decide) rfl (fun _ _ h => h) rfl (hkk 6 (by decide +kernel)) qw_646 (by decide) (by decide) (by decide) hf (Nat.le_of_ble_eq_true rfl) (Nat.le_of_ble_eq_true rfl) dX11_init_50 (fun M6 eM6 hf => ?_)
  refine rI_eqS (S1 := (zct kd (uN (uR (uN (uR (uN (uR (uN (uR (uN (uR (uN R (p0 + 1)) p0 1 (p0 + 1)) (p0 + 2)) p0 4 (p0 + 2)) (p0 + 3)) p0 5 (p0 + 3)) (p0 + 4)) p0 6 (p0 + 4)) (p0 + 5)) p0 7 (p0 + 5)) (p0 + 6)) (p0 + 7))) rfl (rI_eqZ (Z1 := (· = p0 + 7)) rfl (r_widen (k1 := 6) (s1 := 2459) (by decide) (by decide) ?_))
  refine r_putR C0 (C := RX11) (T := TX11) cl_X11 (zct_k (by omega) (hkk 0 (by decide +kernel))) (k := 9) (by decide) qw_642 rfl rfl (rI_init (own9 := "") hs rfl) rfl rfl rfl dX11_init_52 ?_
  refine rI_eqS (S1 := (zct kd (uR (uN (uR (uN (uR (uN (uR (uN (uR (uN (uR (uN R (p0 + 1)) p0 1 (p0 + 1)) (p0 + 2)) p0 4 (p0 + 2)) (p0 + 3)) p0 5 (p0 + 3)) (p0 + 4)) p0 6 (p0 + 4)) (p0 + 5)) p0 7 (p0 + 5)) (p0 + 6)) p0 9 (p0 + 6)) (p0 + 7))) rfl ?_
  refine r_aload_n C0 dX11_init_55 rfl 0 rfl ?_
  refine r_iconst (v := 2) C0 dX11_init_56 (by decide) ?_
  refine rI_newa (atype := .boolean) (t := 2) (N := 2) C0 (by decide) rfl (fun _ _ h => h) rfl (hkk 7 (by decide +kernel)) qw_717 (by decide) (by decide) (by decide) hf (Nat.le_of_ble_eq_true rfl) (Nat.le_of_ble_eq_true rfl) dX11_init_57 (fun M7 eM7 hf => ?_)
  refine rI_eqS (S1 := (zct kd (uN (uR (uN (uR (uN (uR (uN (uR (uN (uR (uN (uR (uN R (p0 + 1)) p0 1 (p0 + 1)) (p0 + 2)) p0 4 (p0 + 2)) (p0 + 3)) p0 5 (p0 + 3)) (p0 + 4)) p0 6 (p0 + 4)) (p0 + 5)) p0 7 (p0 + 5)) (p0 + 6)) p0 9 (p0 + 6)) (p0 + 7)) (p0 + 8))) rfl (rI_eqZ (Z1 := (· = p0 + 8)) rfl (r_widen (k1 := 7) (s1 := 2461) (by decide) (by decide) ?_))
  refine r_putR C0 (C := RX11) (T := TX11) cl_X11 (zct_k (by omega) (hkk 0 (by decide +kernel))) (k := 10) (by decide) qw_583 rfl rfl (rI_init (own9 := "") hs rfl) rfl rfl rfl dX11_init_59 ?_
  refine rI_eqS (S1 := (zct kd (uR (uN (uR (uN (uR (uN (uR (uN (uR (uN (uR (uN (uR (uN R (p0 + 1)) p0 1 (p0 + 1)) (p0 + 2)) p0 4 (p0 + 2)) (p0 + 3)) p0 5 (p0 + 3)) (p0 + 4)) p0 6 (p0 + 4)) (p0 + 5)) p0 7 (p0 + 5)) (p0 + 6)) p0 9 (p0 + 6)) (p0 + 7)) p0 10 (p0 + 7)) (p0 + 8))) rfl ?_
  refine r_aload_n C0 dX11_init_62 rfl 0 rfl ?_
  refine r_getR C0 (C := RX11) (T := TX11) cl_X11 (zct_k (by omega) (hkk 0 (by decide +kernel))) (k := 5) (by decide) qw_578 rfl (show (uR (uN (uR (uN (uR (uN (uR (uN (uR (uN (uR (uN (uR (uN R (p0 + 1)) p0 1 (p0 + 1)) (p0 + 2)) p0 4 (p0 + 2)) (p0 + 3)) p0 5 (p0 + 3)) (p0 + 4)) p0 6 (p0 + 4)) (p0 + 5)) p0 7 (p0 + 5)) (p0 + 6)) p0 9 (p0 + 6)) (p0 + 7)) p0 10 (p0 + 7)) p0 5 = some (p0 + 3) by simp (disch := omega) only [uR_eq, uR_ne, uN_ne, uR_nj]) dX11_init_63 ?_
  refine r_iconst (v := 0) C0 dX11_init_66 (by decide) ?_
  refine r_iconst (v := 1) C0 dX11_init_67 (by decide) ?_
  refine r_iast' (j := 0) C0 (zct_k (by omega) (hkk 3 (by decide +kernel))) rfl rfl hf dX11_init_68 (fun M8 hf => ?_)
  refine r_aload_n C0 dX11_init_69 rfl 0 rfl ?_
  refine r_getR C0 (C := RX11) (T := TX11) cl_X11 (zct_k (by omega) (hkk 0 (by decide +kernel))) (k := 5) (by decide) qw_578 rfl (show (uR (uN (uR (uN (uR (uN (uR (uN (uR (uN (uR (uN (uR (uN R (p0 + 1)) p0 1 (p0 + 1)) (p0 + 2)) p0 4 (p0 + 2)) (p0 + 3)) p0 5 (p0 + 3)) (p0 + 4)) p0 6 (p0 + 4)) (p0 + 5)) p0 7 (p0 + 5)) (p0 + 6)) p0 9 (p0 + 6)) (p0 + 7)) p0 10 (p0 + 7)) p0 5 = some (p0 + 3) by simp (disch := omega) only [uR_eq, uR_ne, uN_ne, uR_nj]) dX11_init_70 ?_
  refine r_iconst (v := 1) C0 dX11_init_73 (by decide) ?_
  refine r_iconst (v := 2) C0 dX11_init_74 (by decide) ?_
  refine r_iast' (j := 1) C0 (zct_k (by omega) (hkk 3 (by decide +kernel))) rfl rfl hf dX11_init_75 (fun M9 hf => ?_)
  refine r_aload_n C0 dX11_init_76 rfl 0 rfl ?_
  refine r_getR C0 (C := RX11) (T := TX11) cl_X11 (zct_k (by omega) (hkk 0 (by decide +kernel))) (k := 5) (by decide) qw_578 rfl (show (uR (uN (uR (uN (uR (uN (uR (uN (uR (uN (uR (uN (uR (uN R (p0 + 1)) p0 1 (p0 + 1)) (p0 + 2)) p0 4 (p0 + 2)) (p0 + 3)) p0 5 (p0 + 3)) (p0 + 4)) p0 6 (p0 + 4)) (p0 + 5)) p0 7 (p0 + 5)) (p0 + 6)) p0 9 (p0 + 6)) (p0 + 7)) p0 10 (p0 + 7)) p0 5 = some (p0 + 3) by simp (disch := omega) only [uR_eq, uR_ne, uN_ne, uR_nj]) dX11_init_77 ?_
  refine r_iconst (v := 2) C0 dX11_init_80 (by decide) ?_
  refine r_sipush (v := 200) C0 dX11_init_81 (by decide) ?_
  refine r_iast' (j := 2) C0 (zct_k (by omega) (hkk 3 (by decide +kernel))) rfl rfl hf dX11_init_84 (fun M10 hf => ?_)
  refine r_aload_n C0 dX11_init_85 rfl 0 rfl ?_
  refine r_getR C0 (C := RX11) (T := TX11) cl_X11 (zct_k (by omega) (hkk 0 (by decide +kernel))) (k := 5) (by decide) qw_578 rfl (show (uR (uN (uR (uN (uR (uN (uR (uN (uR (uN (uR (uN (uR (uN R (p0 + 1)) p0 1 (p0 + 1)) (p0 + 2)) p0 4 (p0 + 2)) (p0 + 3)) p0 5 (p0 + 3)) (p0 + 4)) p0 6 (p0 + 4)) (p0 + 5)) p0 7 (p0 + 5)) (p0 + 6)) p0 9 (p0 + 6)) (p0 + 7)) p0 10 (p0 + 7)) p0 5 = some (p0 + 3) by simp (disch := omega) only [uR_eq, uR_ne, uN_ne, uR_nj]) dX11_init_86 ?_
  refine r_bipush (v := 16) C0 dX11_init_89 (by decide) ?_
  refine r_sipush (v := 200) C0 dX11_init_91 (by decide) ?_
  refine r_iast' (j := 16) C0 (zct_k (by omega) (hkk 3 (by decide +kernel))) rfl rfl hf dX11_init_94 (fun M11 hf => ?_)
  refine r_aload_n C0 dX11_init_95 rfl 0 rfl ?_
  refine r_getR C0 (C := RX11) (T := TX11) cl_X11 (zct_k (by omega) (hkk 0 (by decide +kernel))) (k := 5) (by decide) qw_578 rfl (show (uR (uN (uR (uN (uR (uN (uR (uN (uR (uN (uR (uN (uR (uN R (p0 + 1)) p0 1 (p0 + 1)) (p0 + 2)) p0 4 (p0 + 2)) (p0 + 3)) p0 5 (p0 + 3)) (p0 + 4)) p0 6 (p0 + 4)) (p0 + 5)) p0 7 (p0 + 5)) (p0 + 6)) p0 9 (p0 + 6)) (p0 + 7)) p0 10 (p0 + 7)) p0 5 = some (p0 + 3) by simp (disch := omega) only [uR_eq, uR_ne, uN_ne, uR_nj]) dX11_init_96 ?_
  refine r_iconst (v := 4) C0 dX11_init_99 (by decide) ?_
  refine r_iconst (v := 1) C0 dX11_init_100 (by decide) ?_
  refine r_iast' (j := 4) C0 (zct_k (by omega) (hkk 3 (by decide +kernel))) rfl rfl hf dX11_init_101 (fun M12 hf => ?_)
  refine r_aload_n C0 dX11_init_102 rfl 0 rfl ?_
  refine r_getR C0 (C := RX11) (T := TX11) cl_X11 (zct_k (by omega) (hkk 0 (by decide +kernel))) (k := 5) (by decide) qw_578 rfl (show (uR (uN (uR (uN (uR (uN (uR (uN (uR (uN (uR (uN (uR (uN R (p0 + 1)) p0 1 (p0 + 1)) (p0 + 2)) p0 4 (p0 + 2)) (p0 + 3)) p0 5 (p0 + 3)) (p0 + 4)) p0 6 (p0 + 4)) (p0 + 5)) p0 7 (p0 + 5)) (p0 + 6)) p0 9 (p0 + 6)) (p0 + 7)) p0 10 (p0 + 7)) p0 5 = some (p0 + 3) by simp (disch := omega) only [uR_eq, uR_ne, uN_ne, uR_nj]) dX11_init_103 ?_
  refine r_iconst (v := 5) C0 dX11_init_106 (by decide) ?_
  refine r_iconst (v := 1) C0 dX11_init_107 (by decide) ?_
  refine r_iast' (j := 5) C0 (zct_k (by omega) (hkk 3 (by decide +kernel))) rfl rfl hf dX11_init_108 (fun M13 hf => ?_)
  refine r_aload_n C0 dX11_init_109 rfl 0 rfl ?_
  refine r_getR C0 (C := RX11) (T := TX11) cl_X11 (zct_k (by omega) (hkk 0 (by decide +kernel))) (k := 5) (by decide) qw_578 rfl (show (uR (uN (uR (uN (uR (uN (uR (uN (uR (uN (uR (uN (uR (uN R (p0 + 1)) p0 1 (p0 + 1)) (p0 + 2)) p0 4 (p0 + 2)) (p0 + 3)) p0 5 (p0 + 3)) (p0 + 4)) p0 6 (p0 + 4)) (p0 + 5)) p0 7 (p0 + 5)) (p0 + 6)) p0 9 (p0 + 6)) (p0 + 7)) p0 10 (p0 + 7)) p0 5 = some (p0 + 3) by simp (disch := omega) only [uR_eq, uR_ne, uN_ne, uR_nj]) dX11_init_110 ?_
  refine r_bipush (v := 6) C0 dX11_init_113 (by decide) ?_
  refine r_iconst (v := 1) C0 dX11_init_115 (by decide) ?_
  refine r_iast' (j := 6) C0 (zct_k (by omega) (hkk 3 (by decide +kernel))) rfl rfl hf dX11_init_116 (fun M14 hf => ?_)
  refine r_aload_n C0 dX11_init_117 rfl 0 rfl ?_
  refine r_getR C0 (C := RX11) (T := TX11) cl_X11 (zct_k (by omega) (hkk 0 (by decide +kernel))) (k := 5) (by decide) qw_578 rfl (show (uR (uN (uR (uN (uR (uN (uR (uN (uR (uN (uR (uN (uR (uN R (p0 + 1)) p0 1 (p0 + 1)) (p0 + 2)) p0 4 (p0 + 2)) (p0 + 3)) p0 5 (p0 + 3)) (p0 + 4)) p0 6 (p0 + 4)) (p0 + 5)) p0 7 (p0 + 5)) (p0 + 6)) p0 9 (p0 + 6)) (p0 + 7)) p0 10 (p0 + 7)) p0 5 = some (p0 + 3) by simp (disch := omega) only [uR_eq, uR_ne, uN_ne, uR_nj]) dX11_init_118 ?_
  refine r_bipush (v := 23) C0 dX11_init_121 (by decide) ?_
  refine r_bipush (v := 50) C0 dX11_init_123 (by decide) ?_
  refine r_iast' (j := 23) C0 (zct_k (by omega) (hkk 3 (by decide +kernel))) rfl rfl hf dX11_init_125 (fun M15 hf => ?_)
  refine r_aload_n C0 dX11_init_126 rfl 0 rfl ?_
  refine r_getR C0 (C := RX11) (T := TX11) cl_X11 (zct_k (by omega) (hkk 0 (by decide +kernel))) (k := 5) (by decide) qw_578 rfl (show (uR (uN (uR (uN (uR (uN (uR (uN (uR (uN (uR (uN (uR (uN R (p0 + 1)) p0 1 (p0 + 1)) (p0 + 2)) p0 4 (p0 + 2)) (p0 + 3)) p0 5 (p0 + 3)) (p0 + 4)) p0 6 (p0 + 4)) (p0 + 5)) p0 7 (p0 + 5)) (p0 + 6)) p0 9 (p0 + 6)) (p0 + 7)) p0 10 (p0 + 7)) p0 5 = some (p0 + 3) by simp (disch := omega) only [uR_eq, uR_ne, uN_ne, uR_nj]) dX11_init_127 ?_
  refine r_bipush (v := 25) C0 dX11_init_130 (by decide) ?_
  refine r_bipush (v := 99) C0 dX11_init_132 (by decide) ?_
  refine r_iast' (j := 25) C0 (zct_k (by omega) (hkk 3 (by decide +kernel))) rfl rfl hf dX11_init_134 (fun M16 hf => ?_)
  refine r_aload_n C0 dX11_init_135 rfl 0 rfl ?_
  refine r_getR C0 (C := RX11) (T := TX11) cl_X11 (zct_k (by omega) (hkk 0 (by decide +kernel))) (k := 5) (by decide) qw_578 rfl (show (uR (uN (uR (uN (uR (uN (uR (uN (uR (uN (uR (uN (uR (uN R (p0 + 1)) p0 1 (p0 + 1)) (p0 + 2)) p0 4 (p0 + 2)) (p0 + 3)) p0 5 (p0 + 3)) (p0 + 4)) p0 6 (p0 + 4)) (p0 + 5)) p0 7 (p0 + 5)) (p0 + 6)) p0 9 (p0 + 6)) (p0 + 7)) p0 10 (p0 + 7)) p0 5 = some (p0 + 3) by simp (disch := omega) only [uR_eq, uR_ne, uN_ne, uR_nj]) dX11_init_136 ?_
  refine r_bipush (v := 26) C0 dX11_init_139 (by decide) ?_
  refine r_iconst (v := 5) C0 dX11_init_141 (by decide) ?_
  refine r_iast' (j := 26) C0 (zct_k (by omega) (hkk 3 (by decide +kernel))) rfl rfl hf dX11_init_142 (fun M17 hf => ?_)
  refine r_aload_n C0 dX11_init_143 rfl 0 rfl ?_
  refine r_getR C0 (C := RX11) (T := TX11) cl_X11 (zct_k (by omega) (hkk 0 (by decide +kernel))) (k := 5) (by decide) qw_578 rfl (show (uR (uN (uR (uN (uR (uN (uR (uN (uR (uN (uR (uN (uR (uN R (p0 + 1)) p0 1 (p0 + 1)) (p0 + 2)) p0 4 (p0 + 2)) (p0 + 3)) p0 5 (p0 + 3)) (p0 + 4)) p0 6 (p0 + 4)) (p0 + 5)) p0 7 (p0 + 5)) (p0 + 6)) p0 9 (p0 + 6)) (p0 + 7)) p0 10 (p0 + 7)) p0 5 = some (p0 + 3) by simp (disch := omega) only [uR_eq, uR_ne, uN_ne, uR_nj]) dX11_init_144 ?_
  refine r_bipush (v := 59) C0 dX11_init_147 (by decide) ?_
  refine r_bipush (v := 100) C0 dX11_init_149 (by decide) ?_
  refine r_iast' (j := 59) C0 (zct_k (by omega) (hkk 3 (by decide +kernel))) rfl rfl hf dX11_init_151 (fun M18 hf => ?_)
  refine r_aload_n C0 dX11_init_152 rfl 0 rfl ?_
  refine r_getR C0 (C := RX11) (T := TX11) cl_X11 (zct_k (by omega) (hkk 0 (by decide +kernel))) (k := 5) (by decide) qw_578 rfl (show (uR (uN (uR (uN (uR (uN (uR (uN (uR (uN (uR (uN (uR (uN R (p0 + 1)) p0 1 (p0 + 1)) (p0 + 2)) p0 4 (p0 + 2)) (p0 + 3)) p0 5 (p0 + 3)) (p0 + 4)) p0 6 (p0 + 4)) (p0 + 5)) p0 7 (p0 + 5)) (p0 + 6)) p0 9 (p0 + 6)) (p0 + 7)) p0 10 (p0 + 7)) p0 5 = some (p0 + 3) by simp (disch := omega) only [uR_eq, uR_ne, uN_ne, uR_nj]) dX11_init_153 ?_
  refine r_bipush (v := 60) C0 dX11_init_156 (by decide) ?_
  refine r_bipush (v := 10) C0 dX11_init_158 (by decide) ?_
  refine r_iast' (j := 60) C0 (zct_k (by omega) (hkk 3 (by decide +kernel))) rfl rfl hf dX11_init_160 (fun M19 hf => ?_)
  refine r_aload_n C0 dX11_init_161 rfl 0 rfl ?_
  refine r_getR C0 (C := RX11) (T := TX11) cl_X11 (zct_k (by omega) (hkk 0 (by decide +kernel))) (k := 5) (by decide) qw_578 rfl (show (uR (uN (uR (uN (uR (uN (uR (uN (uR (uN (uR (uN (uR (uN R (p0 + 1)) p0 1 (p0 + 1)) (p0 + 2)) p0 4 (p0 + 2)) (p0 + 3)) p0 5 (p0 + 3)) (p0 + 4)) p0 6 (p0 + 4)) (p0 + 5)) p0 7 (p0 + 5)) (p0 + 6)) p0 9 (p0 + 6)) (p0 + 7)) p0 10 (p0 + 7)) p0 5 = some (p0 + 3) by simp (disch := omega) only [uR_eq, uR_ne, uN_ne, uR_nj]) dX11_init_162 ?_
  refine r_bipush (v := 61) C0 dX11_init_165 (by decide) ?_
  refine r_iconst (v := 5) C0 dX11_init_167 (by decide) ?_
  refine r_iast' (j := 61) C0 (zct_k (by omega) (hkk 3 (by decide +kernel))) rfl rfl hf dX11_init_168 (fun M20 hf => ?_)
  refine r_aload_n C0 dX11_init_169 rfl 0 rfl ?_
  refine r_getR C0 (C := RX11) (T := TX11) cl_X11 (zct_k (by omega) (hkk 0 (by decide +kernel))) (k := 5) (by decide) qw_578 rfl (show (uR (uN (uR (uN (uR (uN (uR (uN (uR (uN (uR (uN (uR (uN R (p0 + 1)) p0 1 (p0 + 1)) (p0 + 2)) p0 4 (p0 + 2)) (p0 + 3)) p0 5 (p0 + 3)) (p0 + 4)) p0 6 (p0 + 4)) (p0 + 5)) p0 7 (p0 + 5)) (p0 + 6)) p0 9 (p0 + 6)) (p0 + 7)) p0 10 (p0 + 7)) p0 5 = some (p0 + 3) by simp (disch := omega) only [uR_eq, uR_ne, uN_ne, uR_nj]) dX11_init_170 ?_
  refine r_bipush (v := 62) C0 dX11_init_173 (by decide) ?_
  refine r_bipush (v := 20) C0 dX11_init_175 (by decide) ?_
  refine r_iast' (j := 62) C0 (zct_k (by omega) (hkk 3 (by decide +kernel))) rfl rfl hf dX11_init_177 (fun M21 hf => ?_)
  refine r_aload_n C0 dX11_init_178 rfl 0 rfl ?_
  refine r_getR C0 (C := RX11) (T := TX11) cl_X11 (zct_k (by omega) (hkk 0 (by decide +kernel))) (k := 5) (by decide) qw_578 rfl (show (uR (uN (uR (uN (uR (uN (uR (uN (uR (uN (uR (uN (uR (uN R (p0 + 1)) p0 1 (p0 + 1)) (p0 + 2)) p0 4 (p0 + 2)) (p0 + 3)) p0 5 (p0 + 3)) (p0 + 4)) p0 6 (p0 + 4)) (p0 + 5)) p0 7 (p0 + 5)) (p0 + 6)) p0 9 (p0 + 6)) (p0 + 7)) p0 10 (p0 + 7)) p0 5 = some (p0 + 3) by simp (disch := omega) only [uR_eq, uR_ne, uN_ne, uR_nj]) dX11_init_179 ?_
  refine r_bipush (v := 91) C0 dX11_init_182 (by decide) ?_
  refine r_iconst (v := 3) C0 dX11_init_184 (by decide) ?_
  refine r_iast' (j := 91) C0 (zct_k (by omega) (hkk 3 (by decide +kernel))) rfl rfl hf dX11_init_185 (fun M22 hf => ?_)
  obtain rfl := Option.some.inj hf
  exact r_vret C0 dX11_init_186
theorem rc_X11_out {R : zRf} {a q : Nat} (h : q < a ∨ a + 8 ≤ q) : rc_X11 R a q = R q := by
  unfold rc_X11
  simp (disch := omega) only [uR_eq, uR_ne, uN_ne, uR_nj]
set_option maxHeartbeats 16000000 in
set_option maxRecDepth 100000 in
theorem rr_X11_mk {R : zRf} {a : Nat} : rr_X11 (rc_X11 R a) a := by
  unfold rr_X11 rc_X11
  generalize hRC : uR (uN (uR (uN (uR (uN (uR (uN (uR (uN (uR (uN (uR (uN R (a + 1)) a 1 (a + 1)) (a + 2)) a 4 (a + 2)) (a + 3)) a 5 (a + 3)) (a + 4)) a 6 (a + 4)) (a + 5)) a 7 (a + 5)) (a + 6)) a 9 (a + 6)) (a + 7)) a 10 (a + 7) = RC
  refine ⟨?_, ?_, ?_, ?_, ?_, ?_, ?_⟩
  · rw [← hRC]; exact by simp (disch := omega) only [uR_eq, uR_ne, uN_ne, uR_nj]
  · rw [← hRC]; exact by simp (disch := omega) only [uR_eq, uR_ne, uN_ne, uR_nj]
  · rw [← hRC]; exact by simp (disch := omega) only [uR_eq, uR_ne, uN_ne, uR_nj]
  · rw [← hRC]; exact by simp (disch := omega) only [uR_eq, uR_ne, uN_ne, uR_nj]
  · rw [← hRC]; exact by simp (disch := omega) only [uR_eq, uR_ne, uN_ne, uR_nj]
  · rw [← hRC]; exact by simp (disch := omega) only [uR_eq, uR_ne, uN_ne, uR_nj]
  · rw [← hRC]; exact by simp (disch := omega) only [uR_eq, uR_ne, uN_ne, uR_nj]
