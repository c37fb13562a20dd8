section
variable {F x y K K' L : Nat} {M M' : zMi} {A A' : Pg} {R R' : Rs} {v : Int32}
theorem Go_mono {f : Option (Int32 × zMi)} (g : Go f M x K A R v) (hK : K ≤ K') (h2 : K' < 2000000) : Go f M x K' A R v := by
  obtain ⟨M1, e1, o1, f1⟩ := g
  exact ⟨M1, e1, Ob_mono o1 hK h2, f1⟩
theorem cal_eta {f : Option (Int32 × zMi)} : cal f (fun r => some (r.1, r.2)) = f := by cases f <;> rfl
theorem rem_N {a d : Nat} {c : Int32} (ha : a < 2147483648) (h0 : 0 < d) (hd : d < 2147483648) (hc : c = nI d) : nI a - nI a / c * c = nI (a % d) := by
  rw [hc]; exact pk_rem ha h0 hd
theorem div_N {a d : Nat} {c : Int32} (ha : a < 2147483648) (h0 : 0 < d) (hd : d < 2147483648) (hc : c = nI d) : nI a / c = nI (a / d) := by
  rw [hc]; exact pk_div ha h0 hd
theorem one_N (a : Nat) : (1 : Int32) + nI a = nI (1 + a) := nI_add 1 a
theorem dlt {a d : Nat} (ha : a < 2147483648) : a / d < 2147483648 := Nat.lt_of_le_of_lt (Nat.div_le_self _ _) ha
theorem act_eq (h : Ob K M x A R) (hF : 101 ≤ F) {a b S Z : Nat} (ha : a < 2147483648) (hb : b < 2147483648) (h5 : A 5 = nI S) (S0 : 0 < S) (S4 : S ≤ 4) (h4 : A 4 = nI Z) (Z0 : 0 < Z) (Z4 : Z ≤ 4) : f_L_act F x (nI a) (nI b) M =
    if a % 16 ≤ 1 then f_L_tryTake F x (nI (b % S)) (nI (1 + b / 4 % 140)) M else if a % 16 ≤ 4 then f_L_trySend F x (nI (b % S)) M else if a % 16 = 5 then f_L_tryRecall F x (nI (b % S)) M else if a % 16 = 6 then f_L_tryExtend F x (nI (b % Z)) (nI (1 + b / 16 % 99)) M else if a % 16 = 7 then f_L_tryBuy F x (nI (1 + b % 999)) M else if a % 16 = 8 then f_L_trySetWaves F x (nI (b % 9)) (nI (b / 16 % 10)) M else if a % 16 ≤ 13 then f_L_tryPass F x (nI (1 + b % 15)) M else if a % 16 = 14 then f_L_tryUndo F x M else if b % 2 = 0 then f_L_trySave F x (nI 1) M else f_L_tryRestore F x (nI 1) M := by
  obtain ⟨⟨b0, b1, -, -⟩, -⟩ := t_b h hF
  have nS : (!decide (nI S = 0)) = true := by simp [nI_ne0 (n := S) S0 (by omega)]
  have nZ : (!decide (nI Z = 0)) = true := by simp [nI_ne0 (n := Z) Z0 (by omega)]
  have r16 : nI a - nI a / 16 * 16 = nI (a % 16) := rem_N ha (by decide) (by decide) rfl
  have rS : nI b - nI b / nI S * nI S = nI (b % S) := rem_N hb S0 (by omega) rfl
  have rZ : nI b - nI b / nI Z * nI Z = nI (b % Z) := rem_N hb Z0 (by omega) rfl
  have d4 : nI b / 4 = nI (b / 4) := div_N hb (by decide) (by decide) rfl
  have d16 : nI b / 16 = nI (b / 16) := div_N hb (by decide) (by decide) rfl
  have r140 : nI (b / 4) - nI (b / 4) / 140 * 140 = nI (b / 4 % 140) := rem_N (dlt hb) (by decide) (by decide) rfl
  have r99 : nI (b / 16) - nI (b / 16) / 99 * 99 = nI (b / 16 % 99) := rem_N (dlt hb) (by decide) (by decide) rfl
  have r10 : nI (b / 16) - nI (b / 16) / 10 * 10 = nI (b / 16 % 10) := rem_N (dlt hb) (by decide) (by decide) rfl
  have r999 : nI b - nI b / 999 * 999 = nI (b % 999) := rem_N hb (by decide) (by decide) rfl
  have r9 : nI b - nI b / 9 * 9 = nI (b % 9) := rem_N hb (by decide) (by decide) rfl
  have r15 : nI b - nI b / 15 * 15 = nI (b % 15) := rem_N hb (by decide) (by decide) rfl
  have r2 : nI b - nI b / 2 * 2 = nI (b % 2) := rem_N hb (by decide) (by decide) rfl
  have c2 : (nI (b % 2) = 0) = (b % 2 = 0) := propext ((nI_eq (a := b % 2) (b := 0) (by omega) (by decide)))
  unfold f_L_act
  rw [b1, cal_s, h5, nS, grd_t, bnd_e, rS, b0, cal_s, h4, nZ, grd_t, rZ, d4, d16, r140, r99, r10, r999, r9, r15, r2, r16]
  simp only [cal_eta, one_N, c2]
  have e : a % 16 < 16 := Nat.mod_lt _ (by decide)
  generalize a % 16 = m at *
  have c : m = 0 ∨ m = 1 ∨ m = 2 ∨ m = 3 ∨ m = 4 ∨ m = 5 ∨ m = 6 ∨ m = 7 ∨ m = 8 ∨ m = 9 ∨ m = 10 ∨ m = 11 ∨ m = 12 ∨ m = 13 ∨ m = 14 ∨ m = 15 := by omega
  rcases c with rfl | rfl | rfl | rfl | rfl | rfl | rfl | rfl | rfl | rfl | rfl | rfl | rfl | rfl | rfl | rfl <;> simp (decide := true) only [↓reduceIte] <;> rfl
/-- an action of the law: the same for each object with this page -/
theorem l_act (h : Ob K M x A R) (hF : 1573 < F) (hK : K + 99 < 1000000) {a b : Nat} (ha : a < 2147483648) (hb : b < 2147483648) : ∃ v A' R', R'.1 = R.1 ∧ ∀ (N : zMi) (q : Nat), Ob K N q A R → Go (f_L_act F q (nI a) (nI b) N) N q (K + 99) A' R' v := by
  obtain ⟨Z, Z0, Z4, hZ⟩ := WF_Z h.2.2.1
  obtain ⟨S, S0, S4, hS⟩ := wFl_N h.2.2.1.1.1
  have hA := h.2.2.1.1
  have eq := fun (N : zMi) (q : Nat) (g : Ob K N q A R) => act_eq g (show 101 ≤ F by omega) ha hb hS S0 S4 hZ Z0 Z4
  have hsS : b % S < S := Nat.mod_lt _ S0
  have hzZ : b % Z < Z := Nat.mod_lt _ Z0
  have s4 : b % S < 4 := by omega
  have z9 : b % Z < 9 := by omega
  have sp : nI (b % S) < A 5 := by rw [hS]; exact nI_lt hsS (by omega)
  have zp : nI (b % Z) < A 4 := by rw [hZ]; exact nI_lt hzZ (by omega)
  have le1 : ∀ k m : Nat, 1 ≤ k → k ≤ m → m < 1000000 → 1 ≤ nI k ∧ nI k ≤ nI m := fun k m k1 k2 k3 => ⟨nI_le (a := 1) k1 (by omega), nI_le k2 (by omega)⟩
  by_cases c1 : a % 16 ≤ 1
  · have hu : 1 ≤ nI (1 + b / 4 % 140) ∧ nI (1 + b / 4 % 140) ≤ 999 := le1 _ 999 (by omega) (by have := Nat.mod_lt (b / 4) (show 0 < 140 by decide); omega) (by decide)
    by_cases c : canT (b % S) (nI (1 + b / 4 % 140)) A
    · exact ⟨_, _, rPush A R, rfl, fun N q g => by rw [eq N q g, if_pos c1]; exact Go_mono (K := K) (K' := K + 99) (t_takeY (F := F) (K := K) g (by omega) (by omega) s4 sp hu c) (by omega) (by omega)⟩
    · exact ⟨_, _, R, rfl, fun N q g => by rw [eq N q g, if_pos c1]; exact Go_mono (K := K) (K' := K + 99) (t_takeN (F := F) (K := K) g s4 sp hu c) (by omega) (by omega)⟩
  by_cases c2 : a % 16 ≤ 4
  · by_cases c : A (59 + 8 * (b % S) + 5) = 0 ∧ A 7 ≠ A 4
    · exact ⟨_, _, rPush A R, rfl, fun N q g => by rw [eq N q g, if_neg c1, if_pos c2]; exact Go_mono (K := K) (K' := K + 99) (t_sendY (F := F) (K := K) g (by omega) (by omega) s4 sp c) (by omega) (by omega)⟩
    · exact ⟨_, _, R, rfl, fun N q g => by rw [eq N q g, if_neg c1, if_pos c2]; exact Go_mono (K := K) (K' := K + 99) (t_sendN (F := F) (K := K) g s4 sp c) (by omega) (by omega)⟩
  by_cases c3 : a % 16 = 5
  · by_cases c : A (59 + 8 * (b % S) + 5) = 2 ∨ A (59 + 8 * (b % S) + 5) = 3
    · exact ⟨_, _, rPush A R, rfl, fun N q g => by rw [eq N q g, if_neg c1, if_neg c2, if_pos c3]; exact Go_mono (K := K) (K' := K + 99) (t_recallY (F := F) (K := K) g (by omega) (by omega) s4 sp c) (by omega) (by omega)⟩
    · exact ⟨_, _, R, rfl, fun N q g => by rw [eq N q g, if_neg c1, if_neg c2, if_pos c3]; exact Go_mono (K := K) (K' := K + 99) (t_recallN (F := F) (K := K) g s4 sp c) (by omega) (by omega)⟩
  by_cases c4 : a % 16 = 6
  · have hu : 1 ≤ nI (1 + b / 16 % 99) ∧ nI (1 + b / 16 % 99) ≤ 99 := le1 _ 99 (by omega) (by have := Nat.mod_lt (b / 16) (show 0 < 99 by decide); omega) (by decide)
    by_cases c : 999 < A (23 + 4 * (b % Z) + 2) + nI (1 + b / 16 % 99)
    · exact ⟨_, _, R, rfl, fun N q g => by rw [eq N q g, if_neg c1, if_neg c2, if_neg c3, if_pos c4]; exact Go_mono (K := K) (K' := K + 99) (t_extN (F := F) (K := K) g z9 zp hu c) (by omega) (by omega)⟩
    · exact ⟨_, _, rPush A R, rfl, fun N q g => by rw [eq N q g, if_neg c1, if_neg c2, if_neg c3, if_pos c4]; exact Go_mono (K := K) (K' := K + 99) (t_extY (F := F) (K := K) g (by omega) (by omega) z9 zp hu c) (by omega) (by omega)⟩
  by_cases c5 : a % 16 = 7
  · have hu : 1 ≤ nI (1 + b % 999) ∧ nI (1 + b % 999) ≤ 999 := le1 _ 999 (by omega) (by have := Nat.mod_lt b (show 0 < 999 by decide); omega) (by decide)
    by_cases c : 9999 < A 2 + nI (1 + b % 999)
    · exact ⟨_, _, R, rfl, fun N q g => by rw [eq N q g, if_neg c1, if_neg c2, if_neg c3, if_neg c4, if_pos c5]; exact Go_mono (K := K) (K' := K + 99) (t_buyN (F := F) (K := K) g hu c) (by omega) (by omega)⟩
    · exact ⟨_, _, rPush A R, rfl, fun N q g => by rw [eq N q g, if_neg c1, if_neg c2, if_neg c3, if_neg c4, if_pos c5]; exact Go_mono (K := K) (K' := K + 99) (t_buyY (F := F) (K := K) g (by omega) (by omega) hu c) (by omega) (by omega)⟩
  by_cases c6 : a % 16 = 8
  · obtain ⟨w, w0, w1, hw⟩ := WF_6 hA
    have hu : 0 ≤ nI (b / 16 % 10) ∧ nI (b / 16 % 10) ≤ 9 := ⟨nI_pos' (by omega), nI_le (b := 9) (by omega) (by decide)⟩
    by_cases c : b % 9 < w
    · exact ⟨_, _, rPush A R, rfl, fun N q g => by rw [eq N q g, if_neg c1, if_neg c2, if_neg c3, if_neg c4, if_neg c5, if_pos c6]; exact Go_mono (K := K) (K' := K + 99) (t_swY (F := F) (K := K) g (by omega) (by omega) w1 hw c hu) (by omega) (by omega)⟩
    · have hn : ¬ (0 ≤ nI (b % 9) ∧ nI (b % 9) ≤ A 6 - 1) := fun q => by
        have y1 : nI w ≤ nI (b % 9) := nI_le (by omega) (by omega)
        have y2 : nI w ≤ 30 := nI_le (b := 30) w1 (by decide)
        have y3 : 0 ≤ nI w := nI_pos' (by omega)
        rw [hw] at q
        grind
      exact ⟨_, _, R, rfl, fun N q g => by rw [eq N q g, if_neg c1, if_neg c2, if_neg c3, if_neg c4, if_neg c5, if_pos c6]; exact Go_mono (K := K) (K' := K + 99) (t_swA (F := F) (K := K) g (Or.inl hn)) (by omega) (by omega)⟩
  by_cases c7 : a % 16 ≤ 13
  · exact ⟨_, _, rPush A R, rfl, fun N q g => by rw [eq N q g, if_neg c1, if_neg c2, if_neg c3, if_neg c4, if_neg c5, if_neg c6, if_pos c7]; exact Go_mono (K := K + (1 + b % 15)) (K' := K + 99) (t_passY (F := F) (K := K) (d := 1 + b % 15) g (by omega) (by omega) (by omega)) (by omega) (by omega)⟩
  by_cases c8 : a % 16 = 14
  · by_cases c : R.2.1.1 = 0
    · exact ⟨_, _, R, rfl, fun N q g => by rw [eq N q g, if_neg c1, if_neg c2, if_neg c3, if_neg c4, if_neg c5, if_neg c6, if_neg c7, if_pos c8]; exact Go_mono (K := K) (K' := K + 99) (t_undoN (F := F) (K := K) g c) (by omega) (by omega)⟩
    · exact ⟨_, _, rPop R, rfl, fun N q g => by rw [eq N q g, if_neg c1, if_neg c2, if_neg c3, if_neg c4, if_neg c5, if_neg c6, if_neg c7, if_pos c8]; exact Go_mono (K := K) (K' := K + 99) (t_undoY (F := F) (K := K) g (by omega) (by omega)) (by omega) (by omega)⟩
  by_cases c9 : b % 2 = 0
  · exact ⟨_, _, rSet 1 A R, rfl, fun N q g => by rw [eq N q g, if_neg c1, if_neg c2, if_neg c3, if_neg c4, if_neg c5, if_neg c6, if_neg c7, if_neg c8, if_pos c9]; exact Go_mono (K := K) (K' := K + 99) (t_saveY (F := F) (K := K) g (by omega) (by decide)) (by omega) (by omega)⟩
  · cases c : R.2.2 1 with
    | none => exact ⟨_, _, R, rfl, fun N q g => by rw [eq N q g, if_neg c1, if_neg c2, if_neg c3, if_neg c4, if_neg c5, if_neg c6, if_neg c7, if_neg c8, if_neg c9]; exact Go_mono (K := K) (K' := K + 99) (t_resN (F := F) (K := K) g (by decide) c) (by omega) (by omega)⟩
    | some B => exact ⟨_, _, rClr R, rfl, fun N q g => by rw [eq N q g, if_neg c1, if_neg c2, if_neg c3, if_neg c4, if_neg c5, if_neg c6, if_neg c7, if_neg c8, if_neg c9]; exact Go_mono (K := K) (K' := K + 99) (t_resY (F := F) (K := K) g (by omega) (by decide) c) (by omega) (by omega)⟩
end
