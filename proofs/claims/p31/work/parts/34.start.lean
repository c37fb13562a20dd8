set_option maxHeartbeats 16000000 in
set_option maxRecDepth 100000 in
theorem zk_start {p : Program} {s : State} {m : MethodId} {meth : Method} {c : Code} {b L : Nat} {xs : Nat → Int32} (C0 : lw_At p s m meth c b L xs) : ∃ E : zEn, E.2.2 = s.heap.size ∧ zKK E s := by
  obtain ⟨hx, hb, hr, hml, hown, hts, hX, hbl, hlocks, hgv⟩ := C0
  have hs := flat_of_before _ hgv
  obtain ⟨c0, i0, k0⟩ := u_known (C := RX0) (T := TX0) (N := 3) (n := 3) hts (fun w hw => (List.mem_filter.mp (cl_X0.2.1 w hw)).1) (hts (.instantiable RX0 3) (List.mem_filter.mp qw_545).1)
  obtain ⟨c1, i1, k1⟩ := u_known (C := RX1) (T := TX1) (N := 7) (n := 7) hts (fun w hw => (List.mem_filter.mp (cl_X1.2.1 w hw)).1) (hts (.instantiable RX1 7) (List.mem_filter.mp qw_511).1)
  obtain ⟨c2, i2, k2⟩ := u_known (C := RX3) (T := TX3) (N := 8) (n := 8) hts (fun w hw => (List.mem_filter.mp (cl_X3.2.1 w hw)).1) (hts (.instantiable RX3 8) (List.mem_filter.mp qw_519).1)
  obtain ⟨c3, i3, k3⟩ := u_known (C := RX4) (T := TX4) (N := 2) (n := 2) hts (fun w hw => (List.mem_filter.mp (cl_X4.2.1 w hw)).1) (hts (.instantiable RX4 2) (List.mem_filter.mp qw_551).1)
  obtain ⟨c4, i4, k4⟩ := u_known (C := RX5) (T := TX5) (N := 12) (n := 12) hts (fun w hw => (List.mem_filter.mp (cl_X5.2.1 w hw)).1) (hts (.instantiable RX5 12) (List.mem_filter.mp qw_526).1)
  obtain ⟨c5, i5, k5⟩ := u_known (C := RX6) (T := TX6) (N := 7) (n := 7) hts (fun w hw => (List.mem_filter.mp (cl_X6.2.1 w hw)).1) (hts (.instantiable RX6 7) (List.mem_filter.mp qw_506).1)
  obtain ⟨c6, i6, k6⟩ := u_known (C := RX7) (T := TX7) (N := 4) (n := 4) hts (fun w hw => (List.mem_filter.mp (cl_X7.2.1 w hw)).1) (hts (.instantiable RX7 4) (List.mem_filter.mp qw_538).1)
  obtain ⟨c7, i7, k7⟩ := u_known (C := RX8) (T := TX8) (N := 2) (n := 2) hts (fun w hw => (List.mem_filter.mp (cl_X8.2.1 w hw)).1) (hts (.instantiable RX8 2) (List.mem_filter.mp qw_501).1)
  obtain ⟨c8, i8, k8⟩ := u_known (C := RX9) (T := TX9) (N := 4) (n := 4) hts (fun w hw => (List.mem_filter.mp (cl_X9.2.1 w hw)).1) (hts (.instantiable RX9 4) (List.mem_filter.mp qw_515).1)
  obtain ⟨c9, i9, k9⟩ := u_known (C := RX10) (T := TX10) (N := 5) (n := 5) hts (fun w hw => (List.mem_filter.mp (cl_X10.2.1 w hw)).1) (hts (.instantiable RX10 5) (List.mem_filter.mp qw_816).1)
  obtain ⟨a0, b0, d0, e0, f0, g0⟩ := Cond.arrayClass_spec (hts (.arrayClass .int) (List.mem_filter.mp qw_490).1)
  obtain ⟨a1, b1, d1, e1, f1, g1⟩ := Cond.arrayClass_spec (hts (.arrayClass .char) (List.mem_filter.mp qw_535).1)
  obtain ⟨a2, b2, d2, e2, f2, g2⟩ := Cond.arrayClass_spec (hts (.arrayClass .char) (List.mem_filter.mp qw_535).1)
  obtain ⟨a3, b3, d3, e3, f3, g3⟩ := Cond.arrayClass_spec (hts (.arrayClass .char) (List.mem_filter.mp qw_535).1)
  obtain ⟨d4, a4, b4, e4, -, f4, g4, h4⟩ := Cond.arrayOver_spec (hts (.arrayOver (.object "CableLanding$Ship")) (List.mem_filter.mp qw_499).1)
  obtain ⟨d5, a5, b5, e5, -, f5, g5, h5⟩ := Cond.arrayOver_spec (hts (.arrayOver (.object "CableLanding$Slot")) (List.mem_filter.mp qw_550).1)
  obtain ⟨d6, a6, b6, e6, -, f6, g6, h6⟩ := Cond.arrayOver_spec (hts (.arrayOver (.object "CableLanding$State")) (List.mem_filter.mp qw_525).1)
  obtain ⟨d7, a7, b7, e7, -, f7, g7, h7⟩ := Cond.arrayOver_spec (hts (.arrayOver (.object "CableLanding$Zone")) (List.mem_filter.mp qw_497).1)
  have hst144 : ∃ a, vk_R "CableLanding" 144 "no such number" a s := by
    obtain ⟨a, -, -, -, ha, -⟩ := Cond.exactly_spec (hs (.exactly (.string "CableLanding" 144) "java/lang/String") (by decide +kernel))
    exact ⟨a, vk_R.of (hts (.stringRef "CableLanding" 144 "no such number") (by decide +kernel)) ha⟩
  have hst171 : ∃ a, vk_R "CableLanding" 171 "no such number of a zone" a s := by
    obtain ⟨a, -, -, -, ha, -⟩ := Cond.exactly_spec (hs (.exactly (.string "CableLanding" 171) "java/lang/String") (by decide +kernel))
    exact ⟨a, vk_R.of (hts (.stringRef "CableLanding" 171 "no such number of a zone") (by decide +kernel)) ha⟩
  have hst201 : ∃ a, vk_R "CableLanding" 201 "no such number of a ship" a s := by
    obtain ⟨a, -, -, -, ha, -⟩ := Cond.exactly_spec (hs (.exactly (.string "CableLanding" 201) "java/lang/String") (by decide +kernel))
    exact ⟨a, vk_R.of (hts (.stringRef "CableLanding" 201 "no such number of a ship") (by decide +kernel)) ha⟩
  have hst235 : ∃ a, vk_R "CableLanding" 235 "no such account" a s := by
    obtain ⟨a, -, -, -, ha, -⟩ := Cond.exactly_spec (hs (.exactly (.string "CableLanding" 235) "java/lang/String") (by decide +kernel))
    exact ⟨a, vk_R.of (hts (.stringRef "CableLanding" 235 "no such account") (by decide +kernel)) ha⟩
  have hst315 : ∃ a, vk_R "CableLanding" 315 "the script has other digits" a s := by
    obtain ⟨a, -, -, -, ha, -⟩ := Cond.exactly_spec (hs (.exactly (.string "CableLanding" 315) "java/lang/String") (by decide +kernel))
    exact ⟨a, vk_R.of (hts (.stringRef "CableLanding" 315 "the script has other digits") (by decide +kernel)) ha⟩
  have hst337 : ∃ a, vk_R "CableLanding" 337 "out of range" a s := by
    obtain ⟨a, -, -, -, ha, -⟩ := Cond.exactly_spec (hs (.exactly (.string "CableLanding" 337) "java/lang/String") (by decide +kernel))
    exact ⟨a, vk_R.of (hts (.stringRef "CableLanding" 337 "out of range") (by decide +kernel)) ha⟩
  have hst341 : ∃ a, vk_R "CableLanding" 341 "not allowed now" a s := by
    obtain ⟨a, -, -, -, ha, -⟩ := Cond.exactly_spec (hs (.exactly (.string "CableLanding" 341) "java/lang/String") (by decide +kernel))
    exact ⟨a, vk_R.of (hts (.stringRef "CableLanding" 341 "not allowed now") (by decide +kernel)) ha⟩
  have hst350 : ∃ a, vk_R "CableLanding" 350 "no such zone" a s := by
    obtain ⟨a, -, -, -, ha, -⟩ := Cond.exactly_spec (hs (.exactly (.string "CableLanding" 350) "java/lang/String") (by decide +kernel))
    exact ⟨a, vk_R.of (hts (.stringRef "CableLanding" 350 "no such zone") (by decide +kernel)) ha⟩
  have hst356 : ∃ a, vk_R "CableLanding" 356 "no such ship" a s := by
    obtain ⟨a, -, -, -, ha, -⟩ := Cond.exactly_spec (hs (.exactly (.string "CableLanding" 356) "java/lang/String") (by decide +kernel))
    exact ⟨a, vk_R.of (hts (.stringRef "CableLanding" 356 "no such ship") (by decide +kernel)) ha⟩
  have hst358 : ∃ a, vk_R "CableLanding" 358 "no such save slot" a s := by
    obtain ⟨a, -, -, -, ha, -⟩ := Cond.exactly_spec (hs (.exactly (.string "CableLanding" 358) "java/lang/String") (by decide +kernel))
    exact ⟨a, vk_R.of (hts (.stringRef "CableLanding" 358 "no such save slot") (by decide +kernel)) ha⟩
  refine ⟨((fun k => match k with | 0 => c0 | 1 => c1 | 2 => c2 | 3 => c3 | 4 => c4 | 5 => c5 | 6 => c6 | 7 => c7 | 8 => c8 | _ => c9, fun k => match k with | 0 => i0 | 1 => i1 | 2 => i2 | 3 => i3 | 4 => i4 | 5 => i5 | 6 => i6 | 7 => i7 | 8 => i8 | _ => i9), fun k => match k with | 0 => a0 | 1 => a1 | 2 => a2 | 3 => a3 | 4 => a4 | 5 => a5 | 6 => a6 | _ => a7, s.heap.size), rfl, Nat.le_refl _, ⟨?_, ?_⟩, fun w hw => zw_at (State.WarmedH.refl s) (List.mem_filter.mp hw).2 (hts w (List.mem_filter.mp hw).1), ?_, ?_, ?_, ?_⟩
  · intro k q hq
    match k, hq with
    | 0, hq => cases hq; exact k0
    | 1, hq => cases hq; exact k1
    | 2, hq => cases hq; exact k2
    | 3, hq => cases hq; exact k3
    | 4, hq => cases hq; exact k4
    | 5, hq => cases hq; exact k5
    | 6, hq => cases hq; exact k6
    | 7, hq => cases hq; exact k7
    | 8, hq => cases hq; exact k8
    | 9, hq => cases hq; exact k9
    | k + 10, hq => exact absurd hq (by simp [vwCl])
  · intro k q hq
    match k, hq with
    | 0, hq => cases hq; exact ⟨fun n z => ⟨fun k h => (by cases h), b0, f0, d0, g0⟩, e0⟩
    | 1, hq => cases hq; exact ⟨fun n z => ⟨fun k h => (by cases h), b1, f1, d1, g1⟩, e1⟩
    | 2, hq => cases hq; exact ⟨fun n z => ⟨fun k h => (by cases h), b2, f2, d2, g2⟩, e2⟩
    | 3, hq => cases hq; exact ⟨fun n z => ⟨fun k h => (by cases h), b3, f3, d3, g3⟩, e3⟩
    | 4, hq => cases hq; exact ⟨fun n z => ⟨fun k h => (by cases h), b4, f4, d4, g4⟩, b4, d4, f4, g4, e4, h4⟩
    | 5, hq => cases hq; exact ⟨fun n z => ⟨fun k h => (by cases h), b5, f5, d5, g5⟩, b5, d5, f5, g5, e5, h5⟩
    | 6, hq => cases hq; exact ⟨fun n z => ⟨fun k h => (by cases h), b6, f6, d6, g6⟩, b6, d6, f6, g6, e6, h6⟩
    | 7, hq => cases hq; exact ⟨fun n z => ⟨fun k h => (by cases h), b7, f7, d7, g7⟩, b7, d7, f7, g7, e7, h7⟩
    | k + 8, hq => exact absurd hq (by simp [ztys])
  · exact vx_Zqof (hts (.laysStatic "java/lang/Throwable" "UNASSIGNED_STACK" "[Ljava/lang/StackTraceElement;") (by decide +kernel)) (hts (.initialized "java/lang/Throwable") (by decide +kernel)) (hs (.isRef (.static "java/lang/Throwable" "UNASSIGNED_STACK" "[Ljava/lang/StackTraceElement;")) (by decide +kernel)) (fun a ha => Nat.not_le.mpr ha)
  · exact vx_Zqof (hts (.laysStatic "java/lang/Throwable" "SUPPRESSED_SENTINEL" "Ljava/util/List;") (by decide +kernel)) (hts (.initialized "java/lang/Throwable") (by decide +kernel)) (hs (.isRef (.static "java/lang/Throwable" "SUPPRESSED_SENTINEL" "Ljava/util/List;")) (by decide +kernel)) (fun a ha => Nat.not_le.mpr ha)
  · exact List.forall_mem_cons.mpr ⟨hst144, List.forall_mem_cons.mpr ⟨hst171, List.forall_mem_cons.mpr ⟨hst201, List.forall_mem_cons.mpr ⟨hst235, List.forall_mem_cons.mpr ⟨hst315, List.forall_mem_cons.mpr ⟨hst337, List.forall_mem_cons.mpr ⟨hst341, List.forall_mem_cons.mpr ⟨hst350, List.forall_mem_cons.mpr ⟨hst356, List.forall_mem_cons.mpr ⟨hst358, fun _ h => nomatch h⟩⟩⟩⟩⟩⟩⟩⟩⟩⟩
  · exact List.forall_mem_cons.mpr ⟨va_Nc.of (hs (.not (.castable "java/lang/IllegalArgumentException" "java/lang/IllegalStateException")) (by decide +kernel)), List.forall_mem_cons.mpr ⟨va_Nc.of (hs (.not (.castable "java/lang/IllegalArgumentException" "java/lang/IndexOutOfBoundsException")) (by decide +kernel)), List.forall_mem_cons.mpr ⟨va_Nc.of (hs (.not (.castable "java/lang/IllegalStateException" "java/lang/IllegalArgumentException")) (by decide +kernel)), List.forall_mem_cons.mpr ⟨va_Nc.of (hs (.not (.castable "java/lang/IllegalStateException" "java/lang/IndexOutOfBoundsException")) (by decide +kernel)), List.forall_mem_cons.mpr ⟨va_Nc.of (hs (.not (.castable "java/lang/IndexOutOfBoundsException" "java/lang/IllegalArgumentException")) (by decide +kernel)), List.forall_mem_cons.mpr ⟨va_Nc.of (hs (.not (.castable "java/lang/IndexOutOfBoundsException" "java/lang/IllegalStateException")) (by decide +kernel)), fun _ h => nomatch h⟩⟩⟩⟩⟩⟩
def zkd (x : Nat) : zKd := fun q => if x ≤ q ∧ q < x + 386 then kdo_X10 (q - x) else if x + 386 ≤ q ∧ q < x + 772 then kdo_X10 (q - (x + 386)) else none
theorem zkd_1 (x : Nat) : ∀ o, o < 386 → zkd x (x + o) = kdo_X10 o := fun o ho => by
  unfold zkd
  rw [if_pos (by omega), Nat.add_sub_cancel_left]
theorem zkd_2 (x : Nat) : ∀ o, o < 386 → zkd x (x + 386 + o) = kdo_X10 o := fun o ho => by
  unfold zkd
  rw [if_neg (by omega), if_pos (by omega), Nat.add_sub_cancel_left]
def f_L_law (F len : Nat) (xs : Nat → Int32) (x : Nat) (M : zMi) : Option Int32 := bnd (nM M x) (fun M1 => cal (f_X10_init F x M1) (fun r2 => bnd (nM r2 (x + 386)) (fun M3 => cal (f_X10_init F (x + 386) M3) (fun r4 => f_L_law_16 F len xs x (x + 386) r4))))
set_option maxHeartbeats 16000000 in
set_option maxRecDepth 100000 in
theorem g_L_law {Γ : zCx} {Q : State → Prop} {E : zEn} {ret : Option FieldType} {hh : List (Nat × Nat × Nat × Nat)} (C0 : zCt Γ E R_law cL_law 9 ret hh room_1) (F b len x : Nat) (xs : Nat → Int32) (R0 : zRf) (hX : va_X b len xs (gS Γ) (gS Γ).heap) (hbl : b < (gS Γ).heap.size) (hbA : ¬ E.2.2 ≤ b) {X : zMl}
    (hend : ∀ (S : zSk) (kc : Nat) (M : zMi) (L : List (Nat × Value)), kc ≤ 700000 → zG Γ Q E 9 kc (6 * kc) S ZT M X 370 L [.int 1]) (M : zMi) (hf : f_L_law F len xs x M = some 1) : zG Γ Q E 9 0 0 (zct (zkd x) R0 x) (· = x) M X 0 [(0, .ref b)] [] := by
  have hend := hend (zct (zkd x) (rc_X10 (uN (rc_X10 (uN R0 x) x) (x + 386)) (x + 386)) (x + 772))
  unfold f_L_law at hf
  refine rI_new C0 cl_X10 (zkd_1 x 0 (by decide)) qw_817 qw_816 qw_344 df_X10 hf (Nat.le_of_ble_eq_true rfl) (Nat.le_of_ble_eq_true rfl) dL_law_0 (fun M1 eM1 hf => ?_)
  refine rI_eqS (S1 := (zct (zkd x) (uN R0 x) (x + 1))) rfl (rI_eqZ (Z1 := (· = x + 1)) rfl (r_widen (k1 := 1) (s1 := 5) (by decide) (by decide) ?_))
  refine r_dup C0 dL_law_3 rfl ?_
  refine rI_call C0 hf vs_192 (fun hl r2 hr2 => c_X10_init hl F x (zkd_1 x) (uN R0 x) M1 r2 hr2) (Nat.le_of_ble_eq_true rfl) dL_law_4 (zrm_ok rfl) (fun r2 hr2 hf => ?_)
  refine rI_eqS (S1 := (zct (zkd x) (rc_X10 (uN R0 x) x) (x + 386))) rfl (rI_eqZ (Z1 := (· = x + 386)) rfl (r_widen (k1 := 386) (s1 := 2748) (by decide) (by decide) ?_))
  refine r_astore_n (L' := [(1, .ref x), (0, .ref b)]) C0 dL_law_7 rfl (by decide) rfl ?_
  refine rI_new C0 cl_X10 (zkd_2 x 0 (by decide)) qw_817 qw_816 qw_344 df_X10 hf (Nat.le_of_ble_eq_true rfl) (Nat.le_of_ble_eq_true rfl) dL_law_8 (fun M3 eM3 hf => ?_)
  refine rI_eqS (S1 := (zct (zkd x) (uN (rc_X10 (uN R0 x) x) (x + 386)) (x + 387))) rfl (rI_eqZ (Z1 := (· = x + 387)) rfl (r_widen (k1 := 387) (s1 := 2753) (by decide) (by decide) ?_))
  refine r_dup C0 dL_law_11 rfl ?_
  refine rI_call C0 hf vs_192 (fun hl r4 hr4 => c_X10_init hl F (x + 386) (zkd_2 x) (uN (rc_X10 (uN R0 x) x) (x + 386)) M3 r4 hr4) (Nat.le_of_ble_eq_true rfl) dL_law_12 (zrm_ok rfl) (fun r4 hr4 hf => ?_)
  refine rI_eqS (S1 := (zct (zkd x) (rc_X10 (uN (rc_X10 (uN R0 x) x) (x + 386)) (x + 386)) (x + 772))) rfl (rI_eqZ (Z1 := (· = x + 772)) rfl (r_widen (k1 := 772) (s1 := 5496) (by decide) (by decide) ?_))
  refine r_anyZ ?_
  refine r_astore_n (L' := [(2, .ref (x + 386)), (1, .ref x), (0, .ref b)]) C0 dL_law_15 rfl (by decide) rfl ?_
  refine r_sub (L' := [(0, .ref b), (1, .ref x), (2, .ref (x + 386))]) [2, 1, 0] rfl ?_
  refine r_widen (k1 := 2000) (s1 := 6 * 2000) (Nat.le_of_ble_eq_true rfl) (Nat.le_of_ble_eq_true rfl) ?_
  have hk1 : K_X10 (zct (zkd x) (rc_X10 (uN (rc_X10 (uN R0 x) x) (x + 386)) (x + 386)) (x + 772)) x := kf_X10 (zkd_1 x) (by omega) (rr_X10_ext (fun q h1 h2 => by simp (disch := omega) only [rc_X10_out, uN_ne]) (rr_X10_mk (R := uN R0 x) (a := x)))
  have hk2 : K_X10 (zct (zkd x) (rc_X10 (uN (rc_X10 (uN R0 x) x) (x + 386)) (x + 386)) (x + 772)) (x + 386) := kf_X10 (zkd_2 x) (by omega) (rr_X10_ext (fun q h1 h2 => by simp (disch := omega) only [rc_X10_out, uN_ne]) (rr_X10_mk (R := uN (rc_X10 (uN R0 x) x) (x + 386)) (a := x + 386)))
  exact g_L_law_16 C0 F b len xs x (x + 386) hX hbl hbA hk1 hk2 hend r4 hf 2000 (Nat.le_of_ble_eq_true rfl)
set_option maxHeartbeats 4000000 in
/-- the walk of the law out of what it computes -/
theorem whole_start_of (F : Nat) (hpure : ∀ (len x : Nat) (xs : Nat → Int32) (M : zMi), len ≤ 260 → f_L_law F len xs x M = some 1) {p : Program} {e : Env} {s : State} {m : MethodId} {below : List Frame} {meth : Method} {c : Code} (l : Launch) (hflags : l.flags = flags0) {b L : Nat} {xs : Nat → Int32} (hL : L ≤ 260) (C0 : lw_At p s m meth c b L xs) : W p l e room_1 s m #[Value.ref b] below meth c s.heap [] 0 0 (lw_Z below #[Value.ref b] s) (entryFrame m ([Value.ref b] : List Value).toArray 9) := by
  obtain ⟨E, hE, hK⟩ := zk_start C0
  obtain ⟨hx, hb, hr, hml, hown, hts, hX, hbl, hlocks, hgv⟩ := C0
  have htr : l.stackTraces = false := by unfold Launch.stackTraces; rw [hflags]; decide +kernel
  have hC : zCt (p, l, e, room_1, s, m, #[Value.ref b], below, meth, c) E R_law cL_law 9 ret (c.exceptionTable.toList.map fun h => (h.startPc, h.endPc, h.handlerPc, h.catchType)) room_1 :=
    ⟨hx, hb, hml, hown, hr, hlocks, fun w hw => zw_at (State.WarmedH.refl s) (List.mem_filter.mp hw).2 (hts w (List.mem_filter.mp hw).1), hK, (table_eq _).symm, htr, rfl⟩
  have G0 := g_L_law (Q := lw_Z below #[Value.ref b] s) (X := fun _ _ => 0) hC F b L s.heap.size xs (fun _ _ => none) hX hbl (by rw [hE]; exact Nat.not_le.mpr hbl) (fun S kc M L9 hc => by
    intro ls H locs hl hz hP hS
    refine va_forget (fun q hq => by have := hS.2.2 q hq; rw [← hE]; exact this) ?_
    refine W.widen (show kc ≤ 738254 by omega) (show 6 * kc ≤ 6886707 by omega) ?_
    exact lw_ret hx hb hr hlocks dL_law_370) (fun _ _ => 0) (hpure L s.heap.size xs _ hL)
  have hl0 := lv_entry [Value.ref b] (n := 9) (Nat.le_of_ble_eq_true rfl)
  rw [lg_entry_eq]
  refine G0 _ s.heap [] hl0 rfl ?_ va_S.rf
  intro a k h
  obtain ⟨h1, h2⟩ := zct_lt h
  unfold zkd at h2
  rw [if_neg (by omega), if_neg (by omega)] at h2
  cases h2
