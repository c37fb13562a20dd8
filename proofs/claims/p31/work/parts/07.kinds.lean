def K_X9 (S : zSk) (a : Nat) : Prop := S.1 a = some (.inl 8)
theorem K_X9_o {S : zSk} {a : Nat} (h : K_X9 S a) : S.1 a = some (.inl 8) := h
def K_X3 (S : zSk) (a : Nat) : Prop := S.1 a = some (.inl 2)
theorem K_X3_o {S : zSk} {a : Nat} (h : K_X3 S a) : S.1 a = some (.inl 2) := h
def K_X8 (S : zSk) (a : Nat) : Prop := S.1 a = some (.inl 7) ∧ S.2 a 1 = some (a + 1) ∧ S.1 (a + 1) = some (.inr (0, 30))
theorem K_X8_o {S : zSk} {a : Nat} (h : K_X8 S a) : S.1 a = some (.inl 7) := h.1
theorem K_X8_row_r {S : zSk} {a : Nat} (h : K_X8 S a) : S.2 a 1 = some (a + 1) := h.2.1
theorem K_X8_row_k {S : zSk} {a : Nat} (h : K_X8 S a) : S.1 (a + 1) = some (.inr (0, 30)) := h.2.2
def K_X6 (S : zSk) (a : Nat) : Prop := S.1 a = some (.inl 5) ∧ S.2 a 2 = some (a + 1) ∧ S.1 (a + 1) = some (.inr (0, 3))
theorem K_X6_o {S : zSk} {a : Nat} (h : K_X6 S a) : S.1 a = some (.inl 5) := h.1
theorem K_X6_rest_r {S : zSk} {a : Nat} (h : K_X6 S a) : S.2 a 2 = some (a + 1) := h.2.1
theorem K_X6_rest_k {S : zSk} {a : Nat} (h : K_X6 S a) : S.1 (a + 1) = some (.inr (0, 3)) := h.2.2
def K_X1 (S : zSk) (a : Nat) : Prop := S.1 a = some (.inl 1)
theorem K_X1_o {S : zSk} {a : Nat} (h : K_X1 S a) : S.1 a = some (.inl 1) := h
def K_X5 (S : zSk) (a : Nat) : Prop := S.1 a = some (.inl 4) ∧ S.2 a 0 = some (a + 1) ∧ zKR S 7 9 (fun j => a + 1 + 7 + 1 * j) (fun q => K_X9 S q) (a + 1) ∧ S.2 a 1 = some (a + 2) ∧ zKR S 4 4 (fun j => a + 2 + 15 + 1 * j) (fun q => K_X3 S q) (a + 2) ∧ S.2 a 2 = some (a + 3) ∧ K_X8 S (a + 3) ∧ S.2 a 3 = some (a + 5) ∧ K_X6 S (a + 5) ∧ S.2 a 4 = some (a + 7) ∧ K_X1 S (a + 7)
theorem K_X5_o {S : zSk} {a : Nat} (h : K_X5 S a) : S.1 a = some (.inl 4) := h.1
theorem K_X5_zones_r {S : zSk} {a : Nat} (h : K_X5 S a) : S.2 a 0 = some (a + 1) := h.2.1
theorem K_X5_zones_k {S : zSk} {a : Nat} (h : K_X5 S a) : zKR S 7 9 (fun j => a + 1 + 7 + 1 * j) (fun q => K_X9 S q) (a + 1) := h.2.2.1
theorem K_X5_ships_r {S : zSk} {a : Nat} (h : K_X5 S a) : S.2 a 1 = some (a + 2) := h.2.2.2.1
theorem K_X5_ships_k {S : zSk} {a : Nat} (h : K_X5 S a) : zKR S 4 4 (fun j => a + 2 + 15 + 1 * j) (fun q => K_X3 S q) (a + 2) := h.2.2.2.2.1
theorem K_X5_weather_r {S : zSk} {a : Nat} (h : K_X5 S a) : S.2 a 2 = some (a + 3) := h.2.2.2.2.2.1
theorem K_X5_weather_k {S : zSk} {a : Nat} (h : K_X5 S a) : K_X8 S (a + 3) := h.2.2.2.2.2.2.1
theorem K_X5_teams_r {S : zSk} {a : Nat} (h : K_X5 S a) : S.2 a 3 = some (a + 5) := h.2.2.2.2.2.2.2.1
theorem K_X5_teams_k {S : zSk} {a : Nat} (h : K_X5 S a) : K_X6 S (a + 5) := h.2.2.2.2.2.2.2.2.1
theorem K_X5_ledger_r {S : zSk} {a : Nat} (h : K_X5 S a) : S.2 a 4 = some (a + 7) := h.2.2.2.2.2.2.2.2.2.1
theorem K_X5_ledger_k {S : zSk} {a : Nat} (h : K_X5 S a) : K_X1 S (a + 7) := h.2.2.2.2.2.2.2.2.2.2
def K_X0 (S : zSk) (a : Nat) : Prop := S.1 a = some (.inl 0) ∧ S.2 a 0 = some (a + 1) ∧ zKR S 6 14 (fun j => a + 1 + 1 + 21 * j) (fun q => K_X5 S q) (a + 1)
theorem K_X0_o {S : zSk} {a : Nat} (h : K_X0 S a) : S.1 a = some (.inl 0) := h.1
theorem K_X0_states_r {S : zSk} {a : Nat} (h : K_X0 S a) : S.2 a 0 = some (a + 1) := h.2.1
theorem K_X0_states_k {S : zSk} {a : Nat} (h : K_X0 S a) : zKR S 6 14 (fun j => a + 1 + 1 + 21 * j) (fun q => K_X5 S q) (a + 1) := h.2.2
def K_X4 (S : zSk) (a : Nat) : Prop := S.1 a = some (.inl 3) ∧ S.2 a 0 = some (a + 1) ∧ K_X5 S (a + 1)
theorem K_X4_o {S : zSk} {a : Nat} (h : K_X4 S a) : S.1 a = some (.inl 3) := h.1
theorem K_X4_state_r {S : zSk} {a : Nat} (h : K_X4 S a) : S.2 a 0 = some (a + 1) := h.2.1
theorem K_X4_state_k {S : zSk} {a : Nat} (h : K_X4 S a) : K_X5 S (a + 1) := h.2.2
def K_X7 (S : zSk) (a : Nat) : Prop := S.1 a = some (.inl 6) ∧ S.2 a 0 = some (a + 1) ∧ S.1 (a + 1) = some (.inr (1, 160))
theorem K_X7_o {S : zSk} {a : Nat} (h : K_X7 S a) : S.1 a = some (.inl 6) := h.1
theorem K_X7_signs_r {S : zSk} {a : Nat} (h : K_X7 S a) : S.2 a 0 = some (a + 1) := h.2.1
theorem K_X7_signs_k {S : zSk} {a : Nat} (h : K_X7 S a) : S.1 (a + 1) = some (.inr (1, 160)) := h.2.2
def K_X10 (S : zSk) (a : Nat) : Prop := S.1 a = some (.inl 9) ∧ S.2 a 0 = some (a + 1) ∧ K_X7 S (a + 1) ∧ S.2 a 1 = some (a + 3) ∧ K_X5 S (a + 3) ∧ S.2 a 2 = some (a + 24) ∧ K_X5 S (a + 24) ∧ S.2 a 3 = some (a + 45) ∧ K_X0 S (a + 45) ∧ S.2 a 4 = some (a + 341) ∧ zKR S 5 2 (fun j => a + 341 + 1 + 22 * j) (fun q => K_X4 S q) (a + 341)
theorem K_X10_o {S : zSk} {a : Nat} (h : K_X10 S a) : S.1 a = some (.inl 9) := h.1
theorem K_X10_text_r {S : zSk} {a : Nat} (h : K_X10 S a) : S.2 a 0 = some (a + 1) := h.2.1
theorem K_X10_text_k {S : zSk} {a : Nat} (h : K_X10 S a) : K_X7 S (a + 1) := h.2.2.1
theorem K_X10_now_r {S : zSk} {a : Nat} (h : K_X10 S a) : S.2 a 1 = some (a + 3) := h.2.2.2.1
theorem K_X10_now_k {S : zSk} {a : Nat} (h : K_X10 S a) : K_X5 S (a + 3) := h.2.2.2.2.1
theorem K_X10_trial_r {S : zSk} {a : Nat} (h : K_X10 S a) : S.2 a 2 = some (a + 24) := h.2.2.2.2.2.1
theorem K_X10_trial_k {S : zSk} {a : Nat} (h : K_X10 S a) : K_X5 S (a + 24) := h.2.2.2.2.2.2.1
theorem K_X10_history_r {S : zSk} {a : Nat} (h : K_X10 S a) : S.2 a 3 = some (a + 45) := h.2.2.2.2.2.2.2.1
theorem K_X10_history_k {S : zSk} {a : Nat} (h : K_X10 S a) : K_X0 S (a + 45) := h.2.2.2.2.2.2.2.2.1
theorem K_X10_slots_r {S : zSk} {a : Nat} (h : K_X10 S a) : S.2 a 4 = some (a + 341) := h.2.2.2.2.2.2.2.2.2.1
theorem K_X10_slots_k {S : zSk} {a : Nat} (h : K_X10 S a) : zKR S 5 2 (fun j => a + 341 + 1 + 22 * j) (fun q => K_X4 S q) (a + 341) := h.2.2.2.2.2.2.2.2.2.2
theorem cl_X9 : zcl 8 RX9 TX9 4 tyX9 := zcl_of rfl (by decide +kernel) tyX9_ok nmX9
theorem cl_X3 : zcl 2 RX3 TX3 8 tyX3 := zcl_of rfl (by decide +kernel) tyX3_ok nmX3
theorem cl_X8 : zcl 7 RX8 TX8 2 tyX8 := zcl_of rfl (by decide +kernel) tyX8_ok nmX8
theorem cl_X6 : zcl 5 RX6 TX6 7 tyX6 := zcl_of rfl (by decide +kernel) tyX6_ok nmX6
theorem cl_X1 : zcl 1 RX1 TX1 7 tyX1 := zcl_of rfl (by decide +kernel) tyX1_ok nmX1
theorem cl_X5 : zcl 4 RX5 TX5 12 tyX5 := zcl_of rfl (by decide +kernel) tyX5_ok nmX5
theorem cl_X0 : zcl 0 RX0 TX0 3 tyX0 := zcl_of rfl (by decide +kernel) tyX0_ok nmX0
theorem cl_X4 : zcl 3 RX4 TX4 2 tyX4 := zcl_of rfl (by decide +kernel) tyX4_ok nmX4
theorem cl_X7 : zcl 6 RX7 TX7 4 tyX7 := zcl_of rfl (by decide +kernel) tyX7_ok nmX7
theorem cl_X10 : zcl 9 RX10 TX10 5 tyX10 := zcl_of rfl (by decide +kernel) tyX10_ok nmX10
