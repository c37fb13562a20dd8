set_option maxHeartbeats 4000000 in
set_option maxRecDepth 100000 in
theorem g_L_hands_422 {Γ : zCx} {E : zEn} {S : zSk} {X : zMl} (C0 : zCt Γ E RL cL_hands 32 (Option.some Jvm.ClassFile.FieldType.boolean) [] { frames := 10, cells := 810, slots := 4860, locals := 209 }) (F : Nat) (p0 : Nat) (p1 : Int32) (hk_p0 : K_X10 S p0)  (v2 : Int32) (v4 : Int32) (v5 : Int32) (v6 : Int32) (v7 : Int32) (v9 : Int32) (v10 : Int32) (s0 : Int32) (M : zMi) (r : Int32 × zMi) (hf : f_L_hands_422 F p0 p1 v2 v4 v5 v6 v7 v9 v10 s0 M = some r) (kc : Nat) (hkc : kc + (357) ≤ 810) : zG Γ (zQX Γ E 810 4860 S (.inr (some (.int r.1)), r.2) X) E 32 kc (6 * kc) S ZT M X 422 [(0, .ref p0), (1, .int p1), (2, .int v2), (4, .int v4), (5, .int v5), (6, .int v6), (7, .int v7), (9, .int v9), (10, .int v10)] [.int s0] := by
  unfold f_L_hands_422 at hf
  refine r_istore (L' := [(11, .int s0), (0, .ref p0), (1, .int p1), (2, .int v2), (4, .int v4), (5, .int v5), (6, .int v6), (7, .int v7), (9, .int v9), (10, .int v10)]) C0 dL_hands_422 (by decide) rfl ?_
  refine r_iconst (v := 1) C0 dL_hands_424 (by decide) ?_
  refine r_iload_n C0 dL_hands_425 rfl 2 rfl ?_
  refine r_bipush (v := 16) C0 dL_hands_426 (by decide) ?_
  refine r_idiv' C0 dL_hands_428 (by decide) ?_
  refine r_bipush (v := 99) C0 dL_hands_429 (by decide) ?_
  refine r_irem' C0 dL_hands_431 (by decide) ?_
  refine r_iadd C0 dL_hands_432 ?_
  refine r_nm hf (fun x1 hf => ?_)
  refine r_istore (L' := [(18, .int x1), (11, .int s0), (0, .ref p0), (1, .int p1), (2, .int v2), (4, .int v4), (5, .int v5), (6, .int v6), (7, .int v7), (9, .int v9), (10, .int v10)]) C0 dL_hands_433 (by decide) rfl ?_
  refine r_aload_n C0 dL_hands_435 rfl 2 rfl ?_
  refine r_iload C0 dL_hands_436 7 rfl ?_
  refine r_iconst (v := 2) C0 dL_hands_438 (by decide) ?_
  refine r_callWp C0 (st := []) (kc1 := kc + 2) [.ref p0, .int v6, .int (2 : Int32)] hf vs_164 (fun hl r2 hr2 => c_L_tryZone hl F p0 v6 (2 : Int32) hk_p0 M r2 hr2) rfl rfl (Nat.le_of_ble_eq_true rfl) dL_hands_439 (zrm_k 810 rfl (by omega)) (by omega) (fun r2 hr2 hf => ?_)
  refine r_istore (L' := [(19, .int r2), (18, .int x1), (11, .int s0), (0, .ref p0), (1, .int p1), (2, .int v2), (4, .int v4), (5, .int v5), (6, .int v6), (7, .int v7), (9, .int v9), (10, .int v10)]) C0 dL_hands_442 (by decide) rfl ?_
  refine r_aload_n C0 dL_hands_444 rfl 3 rfl ?_
  refine r_bipush (v := 6) C0 dL_hands_445 (by decide) ?_
  refine r_callWp C0 (st := []) (kc1 := kc + 3) [.ref p0, .int (6 : Int32)] hf vs_160 (fun hl r3 hr3 => c_L_tryAccount hl F p0 (6 : Int32) hk_p0 M r3 hr3) rfl rfl (Nat.le_of_ble_eq_true rfl) dL_hands_447 (zrm_k 810 rfl (by omega)) (by omega) (fun r3 hr3 hf => ?_)
  refine r_istore (L' := [(20, .int r3), (19, .int r2), (18, .int x1), (11, .int s0), (0, .ref p0), (1, .int p1), (2, .int v2), (4, .int v4), (5, .int v5), (6, .int v6), (7, .int v7), (9, .int v9), (10, .int v10)]) C0 dL_hands_450 (by decide) rfl ?_
  refine r_iload C0 dL_hands_452 3 rfl ?_
  refine r_if_eq C0 573 dL_hands_454 (by decide) hf (fun hf => ?_) (fun hf => ?_)
  · refine r_iconst (v := 0) C0 dL_hands_573 (by decide) ?_
    refine r_sub (L' := [(0, .ref p0), (2, .int v2), (4, .int v4), (5, .int v5), (6, .int v6), (7, .int v7), (9, .int v9), (18, .int x1), (19, .int r2)]) [4, 6, 7, 8, 9, 10, 11, 2, 1] rfl ?_
    exact g_L_hands_574 C0 F p0 p1 hk_p0 v2 v4 v5 v6 v7 v9 x1 r2 (0 : Int32) M _ hf _ (by omega)
  · refine r_aload_n C0 dL_hands_457 rfl 4 rfl ?_
    refine r_iload C0 dL_hands_458 9 rfl ?_
    refine r_iload C0 dL_hands_460 2 rfl ?_
    refine r_callWw C0 (st := []) (kc1 := kc + 6) [.ref p0, .int v6, .int x1] hf vs_169 (fun hl r4 hr4 => c_L_tryExtend hl F p0 v6 x1 hk_p0 M r4 hr4) rfl rfl (Nat.le_of_ble_eq_true rfl) dL_hands_462 (zrm_k 810 rfl (by omega)) (by omega) (fun r4 hr4 hf => ?_)
    refine r_iload C0 dL_hands_465 1 rfl ?_
    refine r_iload C0 dL_hands_467 2 rfl ?_
    refine r_iadd C0 dL_hands_469 ?_
    refine r_sipush (v := 999) C0 dL_hands_470 (by decide) ?_
    refine r_icmp_le C0 482 dL_hands_473 (by decide) hf (fun hf => ?_) (fun hf => ?_)
    · refine r_iload C0 dL_hands_482 1 rfl ?_
      refine r_iload C0 dL_hands_484 2 rfl ?_
      refine r_iadd C0 dL_hands_486 ?_
      refine r_sub (L' := [(0, .ref p0), (2, .int v2), (4, .int v4), (5, .int v5), (6, .int v6), (7, .int v7), (9, .int v9), (10, .int v10), (18, .int x1), (19, .int r2), (20, .int r3)]) [4, 6, 7, 8, 9, 10, 11, 12, 2, 1, 0] rfl ?_
      exact g_L_hands_487 C0 F p0 p1 hk_p0 v2 v4 v5 v6 v7 v9 v10 x1 r2 r3 (r2 + x1) r4.1 r4.2 _ hf _ (by omega)
    · refine r_sipush (v := -1003) C0 dL_hands_476 (by decide) ?_
      refine r_goto C0 487 dL_hands_479 (by decide) ?_
      refine r_sub (L' := [(0, .ref p0), (2, .int v2), (4, .int v4), (5, .int v5), (6, .int v6), (7, .int v7), (9, .int v9), (10, .int v10), (18, .int x1), (19, .int r2), (20, .int r3)]) [4, 6, 7, 8, 9, 10, 11, 12, 2, 1, 0] rfl ?_
      exact g_L_hands_487 C0 F p0 p1 hk_p0 v2 v4 v5 v6 v7 v9 v10 x1 r2 r3 (-1003 : Int32) r4.1 r4.2 _ hf _ (by omega)
set_option maxHeartbeats 4000000 in
set_option maxRecDepth 100000 in
theorem g_L_hands_396 {Γ : zCx} {E : zEn} {S : zSk} {X : zMl} (C0 : zCt Γ E RL cL_hands 32 (Option.some Jvm.ClassFile.FieldType.boolean) [] { frames := 10, cells := 810, slots := 4860, locals := 209 }) (F : Nat) (p0 : Nat) (p1 : Int32) (hk_p0 : K_X10 S p0)  (v2 : Int32) (v4 : Int32) (v5 : Int32) (v6 : Int32) (v7 : Int32) (v9 : Int32) (v10 : Int32) (v16 : Int32) (M : zMi) (r : Int32 × zMi) (hf : f_L_hands_396 F p0 p1 v2 v4 v5 v6 v7 v9 v10 v16 M = some r) (kc : Nat) (hkc : kc + (568) ≤ 810) : zG Γ (zQX Γ E 810 4860 S (.inr (some (.int r.1)), r.2) X) E 32 kc (6 * kc) S ZT M X 396 [(0, .ref p0), (1, .int p1), (2, .int v2), (4, .int v4), (5, .int v5), (6, .int v6), (7, .int v7), (9, .int v9), (10, .int v10), (16, .int v16)] [] := by
  unfold f_L_hands_396 at hf
  refine r_aload_n C0 dL_hands_396 rfl 0 rfl ?_
  refine r_callAp C0 (st := []) (kc1 := kc + 209) [.ref p0] hf vs_182 (fun hl r1 hr1 => c_L_sound hl F p0 hk_p0 M r1 hr1) rfl rfl (Nat.le_of_ble_eq_true rfl) dL_hands_397 (zrm_k 810 rfl (by omega)) (by omega) (fun r1 hr1 hf => ?_)
  refine r_if_eq C0 421 dL_hands_400 (by decide) hf (fun hf => ?_) (fun hf => ?_)
  · refine r_iconst (v := 0) C0 dL_hands_421 (by decide) ?_
    refine r_sub (L' := [(0, .ref p0), (1, .int p1), (2, .int v2), (4, .int v4), (5, .int v5), (6, .int v6), (7, .int v7), (9, .int v9), (10, .int v10)]) [0, 1, 2, 3, 4, 5, 6, 7, 8] rfl ?_
    exact g_L_hands_422 C0 F p0 p1 hk_p0 v2 v4 v5 v6 v7 v9 v10 (0 : Int32) M _ hf _ (by omega)
  · refine r_iload C0 dL_hands_403 9 rfl ?_
    refine r_if_lt C0 421 dL_hands_405 (by decide) hf (fun hf => ?_) (fun hf => ?_)
    · refine r_iconst (v := 0) C0 dL_hands_421 (by decide) ?_
      refine r_sub (L' := [(0, .ref p0), (1, .int p1), (2, .int v2), (4, .int v4), (5, .int v5), (6, .int v6), (7, .int v7), (9, .int v9), (10, .int v10)]) [0, 1, 2, 3, 4, 5, 6, 7, 8] rfl ?_
      exact g_L_hands_422 C0 F p0 p1 hk_p0 v2 v4 v5 v6 v7 v9 v10 (0 : Int32) M _ hf _ (by omega)
    · refine r_aload_n C0 dL_hands_408 rfl 0 rfl ?_
      refine r_iconst (v := 0) C0 dL_hands_409 (by decide) ?_
      refine r_callWw C0 (st := []) (kc1 := kc + 211) [.ref p0, .int (0 : Int32)] hf vs_163 (fun hl r2 hr2 => c_L_tryRestore hl F p0 (0 : Int32) hk_p0 M r2 hr2) rfl rfl (Nat.le_of_ble_eq_true rfl) dL_hands_410 (zrm_k 810 rfl (by omega)) (by omega) (fun r2 hr2 hf => ?_)
      refine r_iload_n C0 dL_hands_413 rfl 2 rfl ?_
      refine r_icmp_ne C0 421 dL_hands_414 (by decide) hf (fun hf => ?_) (fun hf => ?_)
      · refine r_iconst (v := 0) C0 dL_hands_421 (by decide) ?_
        refine r_sub (L' := [(0, .ref p0), (1, .int p1), (2, .int v2), (4, .int v4), (5, .int v5), (6, .int v6), (7, .int v7), (9, .int v9), (10, .int v10)]) [0, 1, 2, 3, 4, 5, 6, 7, 8] rfl ?_
        exact g_L_hands_422 C0 F p0 p1 hk_p0 v2 v4 v5 v6 v7 v9 v10 (0 : Int32) r2.2 _ hf _ (by omega)
      · refine r_iconst (v := 1) C0 dL_hands_417 (by decide) ?_
        refine r_goto C0 422 dL_hands_418 (by decide) ?_
        refine r_sub (L' := [(0, .ref p0), (1, .int p1), (2, .int v2), (4, .int v4), (5, .int v5), (6, .int v6), (7, .int v7), (9, .int v9), (10, .int v10)]) [0, 1, 2, 3, 4, 5, 6, 7, 8] rfl ?_
        exact g_L_hands_422 C0 F p0 p1 hk_p0 v2 v4 v5 v6 v7 v9 v10 (1 : Int32) r2.2 _ hf _ (by omega)
set_option maxHeartbeats 4000000 in
set_option maxRecDepth 100000 in
theorem g_L_hands_385 {Γ : zCx} {E : zEn} {S : zSk} {X : zMl} (C0 : zCt Γ E RL cL_hands 32 (Option.some Jvm.ClassFile.FieldType.boolean) [] { frames := 10, cells := 810, slots := 4860, locals := 209 }) (F : Nat) (p0 : Nat) (p1 : Int32) (hk_p0 : K_X10 S p0)  (v2 : Int32) (v4 : Int32) (v5 : Int32) (v6 : Int32) (v7 : Int32) (v9 : Int32) (v10 : Int32) (v16 : Int32) (v17 : Int32) (M : zMi) (r : Int32 × zMi) (hf : f_L_hands_385 F p0 p1 v2 v4 v5 v6 v7 v9 v10 v16 v17 M = some r) (kc : Nat) (hkc : kc + (569) ≤ 810) : zG Γ (zQX Γ E 810 4860 S (.inr (some (.int r.1)), r.2) X) E 32 kc (6 * kc) S ZT M X 385 [(0, .ref p0), (1, .int p1), (2, .int v2), (4, .int v4), (5, .int v5), (6, .int v6), (7, .int v7), (9, .int v9), (10, .int v10), (16, .int v16), (17, .int v17)] [] := by
  unfold f_L_hands_385 at hf
  refine r_aload_n C0 dL_hands_385 rfl 0 rfl ?_
  refine r_bipush (v := 13) C0 dL_hands_386 (by decide) ?_
  refine r_callWp C0 (st := []) (kc1 := kc + 1) [.ref p0, .int (13 : Int32)] hf vs_159 (fun hl r1 hr1 => c_L_tryAbout hl F p0 (13 : Int32) hk_p0 M r1 hr1) rfl rfl (Nat.le_of_ble_eq_true rfl) dL_hands_388 (zrm_k 810 rfl (by omega)) (by omega) (fun r1 hr1 hf => ?_)
  refine r_iload C0 dL_hands_391 10 rfl ?_
  refine r_icmp_ne C0 421 dL_hands_393 (by decide) hf (fun hf => ?_) (fun hf => ?_)
  · refine r_iconst (v := 0) C0 dL_hands_421 (by decide) ?_
    refine r_sub (L' := [(0, .ref p0), (1, .int p1), (2, .int v2), (4, .int v4), (5, .int v5), (6, .int v6), (7, .int v7), (9, .int v9), (10, .int v10)]) [0, 1, 2, 3, 4, 5, 6, 7, 8] rfl ?_
    exact g_L_hands_422 C0 F p0 p1 hk_p0 v2 v4 v5 v6 v7 v9 v10 (0 : Int32) M _ hf _ (by omega)
  · refine r_sub (L' := [(0, .ref p0), (1, .int p1), (2, .int v2), (4, .int v4), (5, .int v5), (6, .int v6), (7, .int v7), (9, .int v9), (10, .int v10), (16, .int v16)]) [0, 1, 2, 3, 4, 5, 6, 7, 8, 9] rfl ?_
    exact g_L_hands_396 C0 F p0 p1 hk_p0 v2 v4 v5 v6 v7 v9 v10 v16 M _ hf _ (by omega)
set_option maxHeartbeats 4000000 in
set_option maxRecDepth 100000 in
theorem g_L_hands_340 {Γ : zCx} {E : zEn} {S : zSk} {X : zMl} (C0 : zCt Γ E RL cL_hands 32 (Option.some Jvm.ClassFile.FieldType.boolean) [] { frames := 10, cells := 810, slots := 4860, locals := 209 }) (F : Nat) (p0 : Nat) (p1 : Int32) (hk_p0 : K_X10 S p0)  (v2 : Int32) (v4 : Int32) (v5 : Int32) (v6 : Int32) (v7 : Int32) (v9 : Int32) (v10 : Int32) (v15 : Int32) (v16 : Int32) (v17 : Int32) (s0 : Int32) (s1 : Int32) (M : zMi) (r : Int32 × zMi) (hf : f_L_hands_340 F p0 p1 v2 v4 v5 v6 v7 v9 v10 v15 v16 v17 s0 s1 M = some r) (kc : Nat) (hkc : kc + (573) ≤ 810) : zG Γ (zQX Γ E 810 4860 S (.inr (some (.int r.1)), r.2) X) E 32 kc (6 * kc) S ZT M X 340 [(0, .ref p0), (1, .int p1), (2, .int v2), (4, .int v4), (5, .int v5), (6, .int v6), (7, .int v7), (9, .int v9), (10, .int v10), (15, .int v15), (16, .int v16), (17, .int v17)] [.int s0, .int s1] := by
  unfold f_L_hands_340 at hf
  refine r_icmp_ne C0 421 dL_hands_340 (by decide) hf (fun hf => ?_) (fun hf => ?_)
  · refine r_iconst (v := 0) C0 dL_hands_421 (by decide) ?_
    refine r_sub (L' := [(0, .ref p0), (1, .int p1), (2, .int v2), (4, .int v4), (5, .int v5), (6, .int v6), (7, .int v7), (9, .int v9), (10, .int v10)]) [0, 1, 2, 3, 4, 5, 6, 7, 8] rfl ?_
    exact g_L_hands_422 C0 F p0 p1 hk_p0 v2 v4 v5 v6 v7 v9 v10 (0 : Int32) M _ hf _ (by omega)
  · refine r_iload C0 dL_hands_343 9 rfl ?_
    refine r_if_eq C0 396 dL_hands_345 (by decide) hf (fun hf => ?_) (fun hf => ?_)
    · refine r_sub (L' := [(0, .ref p0), (1, .int p1), (2, .int v2), (4, .int v4), (5, .int v5), (6, .int v6), (7, .int v7), (9, .int v9), (10, .int v10), (16, .int v16)]) [0, 1, 2, 3, 4, 5, 6, 7, 8, 10] rfl ?_
      exact g_L_hands_396 C0 F p0 p1 hk_p0 v2 v4 v5 v6 v7 v9 v10 v16 M _ hf _ (by omega)
    · refine r_aload_n C0 dL_hands_348 rfl 0 rfl ?_
      refine r_iload C0 dL_hands_349 4 rfl ?_
      refine r_iconst (v := 5) C0 dL_hands_351 (by decide) ?_
      refine r_callWp C0 (st := []) (kc1 := kc + 2) [.ref p0, .int v5, .int (5 : Int32)] hf vs_161 (fun hl r1 hr1 => c_L_tryShip hl F p0 v5 (5 : Int32) hk_p0 M r1 hr1) rfl rfl (Nat.le_of_ble_eq_true rfl) dL_hands_352 (zrm_k 810 rfl (by omega)) (by omega) (fun r1 hr1 hf => ?_)
      refine r_iconst (v := 4) C0 dL_hands_355 (by decide) ?_
      refine r_icmp_ne C0 421 dL_hands_356 (by decide) hf (fun hf => ?_) (fun hf => ?_)
      · refine r_iconst (v := 0) C0 dL_hands_421 (by decide) ?_
        refine r_sub (L' := [(0, .ref p0), (1, .int p1), (2, .int v2), (4, .int v4), (5, .int v5), (6, .int v6), (7, .int v7), (9, .int v9), (10, .int v10)]) [0, 1, 2, 3, 4, 5, 6, 7, 8] rfl ?_
        exact g_L_hands_422 C0 F p0 p1 hk_p0 v2 v4 v5 v6 v7 v9 v10 (0 : Int32) M _ hf _ (by omega)
      · refine r_iload C0 dL_hands_359 7 rfl ?_
        refine r_iconst (v := 3) C0 dL_hands_361 (by decide) ?_
        refine r_icmp_ne C0 385 dL_hands_362 (by decide) hf (fun hf => ?_) (fun hf => ?_)
        · refine r_sub (L' := [(0, .ref p0), (1, .int p1), (2, .int v2), (4, .int v4), (5, .int v5), (6, .int v6), (7, .int v7), (9, .int v9), (10, .int v10), (16, .int v16), (17, .int v17)]) [0, 1, 2, 3, 4, 5, 6, 7, 8, 10, 11] rfl ?_
          exact g_L_hands_385 C0 F p0 p1 hk_p0 v2 v4 v5 v6 v7 v9 v10 v16 v17 M _ hf _ (by omega)
        · refine r_aload_n C0 dL_hands_365 rfl 0 rfl ?_
          refine r_bipush (v := 8) C0 dL_hands_366 (by decide) ?_
          refine r_callWp C0 (st := []) (kc1 := kc + 3) [.ref p0, .int (8 : Int32)] hf vs_159 (fun hl r2 hr2 => c_L_tryAbout hl F p0 (8 : Int32) hk_p0 M r2 hr2) rfl rfl (Nat.le_of_ble_eq_true rfl) dL_hands_368 (zrm_k 810 rfl (by omega)) (by omega) (fun r2 hr2 hf => ?_)
          refine r_bipush (v := -9) C0 dL_hands_371 (by decide) ?_
          refine r_icmp_ne C0 421 dL_hands_373 (by decide) hf (fun hf => ?_) (fun hf => ?_)
          · refine r_iconst (v := 0) C0 dL_hands_421 (by decide) ?_
            refine r_sub (L' := [(0, .ref p0), (1, .int p1), (2, .int v2), (4, .int v4), (5, .int v5), (6, .int v6), (7, .int v7), (9, .int v9), (10, .int v10)]) [0, 1, 2, 3, 4, 5, 6, 7, 8] rfl ?_
            exact g_L_hands_422 C0 F p0 p1 hk_p0 v2 v4 v5 v6 v7 v9 v10 (0 : Int32) M _ hf _ (by omega)
          · refine r_aload_n C0 dL_hands_376 rfl 0 rfl ?_
            refine r_bipush (v := 10) C0 dL_hands_377 (by decide) ?_
            refine r_callWp C0 (st := []) (kc1 := kc + 4) [.ref p0, .int (10 : Int32)] hf vs_159 (fun hl r3 hr3 => c_L_tryAbout hl F p0 (10 : Int32) hk_p0 M r3 hr3) rfl rfl (Nat.le_of_ble_eq_true rfl) dL_hands_379 (zrm_k 810 rfl (by omega)) (by omega) (fun r3 hr3 hf => ?_)
            refine r_if_ne C0 421 dL_hands_382 (by decide) hf (fun hf => ?_) (fun hf => ?_)
            · refine r_iconst (v := 0) C0 dL_hands_421 (by decide) ?_
              refine r_sub (L' := [(0, .ref p0), (1, .int p1), (2, .int v2), (4, .int v4), (5, .int v5), (6, .int v6), (7, .int v7), (9, .int v9), (10, .int v10)]) [0, 1, 2, 3, 4, 5, 6, 7, 8] rfl ?_
              exact g_L_hands_422 C0 F p0 p1 hk_p0 v2 v4 v5 v6 v7 v9 v10 (0 : Int32) M _ hf _ (by omega)
            · refine r_sub (L' := [(0, .ref p0), (1, .int p1), (2, .int v2), (4, .int v4), (5, .int v5), (6, .int v6), (7, .int v7), (9, .int v9), (10, .int v10), (16, .int v16), (17, .int v17)]) [0, 1, 2, 3, 4, 5, 6, 7, 8, 10, 11] rfl ?_
              exact g_L_hands_385 C0 F p0 p1 hk_p0 v2 v4 v5 v6 v7 v9 v10 v16 v17 M _ hf _ (by omega)
set_option maxHeartbeats 4000000 in
set_option maxRecDepth 100000 in
theorem g_L_hands_298 {Γ : zCx} {E : zEn} {S : zSk} {X : zMl} (C0 : zCt Γ E RL cL_hands 32 (Option.some Jvm.ClassFile.FieldType.boolean) [] { frames := 10, cells := 810, slots := 4860, locals := 209 }) (F : Nat) (p0 : Nat) (p1 : Int32) (hk_p0 : K_X10 S p0)  (v2 : Int32) (v4 : Int32) (v5 : Int32) (v6 : Int32) (v7 : Int32) (v8 : Int32) (v9 : Int32) (v10 : Int32) (v11 : Int32) (s0 : Int32) (M : zMi) (r : Int32 × zMi) (hf : f_L_hands_298 F p0 p1 v2 v4 v5 v6 v7 v8 v9 v10 v11 s0 M = some r) (kc : Nat) (hkc : kc + (577) ≤ 810) : zG Γ (zQX Γ E 810 4860 S (.inr (some (.int r.1)), r.2) X) E 32 kc (6 * kc) S ZT M X 298 [(0, .ref p0), (1, .int p1), (2, .int v2), (4, .int v4), (5, .int v5), (6, .int v6), (7, .int v7), (8, .int v8), (9, .int v9), (10, .int v10), (11, .int v11)] [.int s0] := by
  unfold f_L_hands_298 at hf
  refine r_istore (L' := [(15, .int s0), (0, .ref p0), (1, .int p1), (2, .int v2), (4, .int v4), (5, .int v5), (6, .int v6), (7, .int v7), (8, .int v8), (9, .int v9), (10, .int v10), (11, .int v11)]) C0 dL_hands_298 (by decide) rfl ?_
  refine r_aload_n C0 dL_hands_300 rfl 1 rfl ?_
  refine r_bipush (v := 10) C0 dL_hands_301 (by decide) ?_
  refine r_callWp C0 (st := []) (kc1 := kc + 1) [.ref p0, .int (10 : Int32)] hf vs_159 (fun hl r1 hr1 => c_L_tryAbout hl F p0 (10 : Int32) hk_p0 M r1 hr1) rfl rfl (Nat.le_of_ble_eq_true rfl) dL_hands_303 (zrm_k 810 rfl (by omega)) (by omega) (fun r1 hr1 hf => ?_)
  refine r_istore (L' := [(16, .int r1), (15, .int s0), (0, .ref p0), (1, .int p1), (2, .int v2), (4, .int v4), (5, .int v5), (6, .int v6), (7, .int v7), (8, .int v8), (9, .int v9), (10, .int v10), (11, .int v11)]) C0 dL_hands_306 (by decide) rfl ?_
  refine r_aload_n C0 dL_hands_308 rfl 2 rfl ?_
  refine r_bipush (v := 13) C0 dL_hands_309 (by decide) ?_
  refine r_callWp C0 (st := []) (kc1 := kc + 2) [.ref p0, .int (13 : Int32)] hf vs_159 (fun hl r2 hr2 => c_L_tryAbout hl F p0 (13 : Int32) hk_p0 M r2 hr2) rfl rfl (Nat.le_of_ble_eq_true rfl) dL_hands_311 (zrm_k 810 rfl (by omega)) (by omega) (fun r2 hr2 hf => ?_)
  refine r_istore (L' := [(17, .int r2), (16, .int r1), (15, .int s0), (0, .ref p0), (1, .int p1), (2, .int v2), (4, .int v4), (5, .int v5), (6, .int v6), (7, .int v7), (8, .int v8), (9, .int v9), (10, .int v10), (11, .int v11)]) C0 dL_hands_314 (by decide) rfl ?_
  refine r_iload C0 dL_hands_316 13 rfl ?_
  refine r_if_eq C0 421 dL_hands_318 (by decide) hf (fun hf => ?_) (fun hf => ?_)
  · refine r_iconst (v := 0) C0 dL_hands_421 (by decide) ?_
    refine r_sub (L' := [(0, .ref p0), (1, .int p1), (2, .int v2), (4, .int v4), (5, .int v5), (6, .int v6), (7, .int v7), (9, .int v9), (10, .int v10)]) [3, 4, 5, 6, 7, 8, 9, 11, 12] rfl ?_
    exact g_L_hands_422 C0 F p0 p1 hk_p0 v2 v4 v5 v6 v7 v9 v10 (0 : Int32) M _ hf _ (by omega)
  · refine r_aload_n C0 dL_hands_321 rfl 3 rfl ?_
    refine r_iload C0 dL_hands_322 7 rfl ?_
    refine r_callWw C0 (st := []) (kc1 := kc + 4) [.ref p0, .int v5] hf vs_168 (fun hl r3 hr3 => c_L_tryRecall hl F p0 v5 hk_p0 M r3 hr3) rfl rfl (Nat.le_of_ble_eq_true rfl) dL_hands_324 (zrm_k 810 rfl (by omega)) (by omega) (fun r3 hr3 hf => ?_)
    refine r_iload C0 dL_hands_327 2 rfl ?_
    refine r_if_eq C0 337 dL_hands_329 (by decide) hf (fun hf => ?_) (fun hf => ?_)
    · refine r_sipush (v := -1003) C0 dL_hands_337 (by decide) ?_
      refine r_sub (L' := [(0, .ref p0), (1, .int p1), (2, .int v2), (4, .int v4), (5, .int v5), (6, .int v6), (7, .int v7), (9, .int v9), (10, .int v10), (15, .int s0), (16, .int r1), (17, .int r2)]) [3, 4, 5, 6, 7, 8, 9, 11, 12, 2, 1, 0] rfl ?_
      exact g_L_hands_340 C0 F p0 p1 hk_p0 v2 v4 v5 v6 v7 v9 v10 s0 r1 r2 (-1003 : Int32) r3.1 r3.2 _ hf _ (by omega)
    · refine r_iload C0 dL_hands_332 10 rfl ?_
      refine r_goto C0 340 dL_hands_334 (by decide) ?_
      refine r_sub (L' := [(0, .ref p0), (1, .int p1), (2, .int v2), (4, .int v4), (5, .int v5), (6, .int v6), (7, .int v7), (9, .int v9), (10, .int v10), (15, .int s0), (16, .int r1), (17, .int r2)]) [3, 4, 5, 6, 7, 8, 9, 11, 12, 2, 1, 0] rfl ?_
      exact g_L_hands_340 C0 F p0 p1 hk_p0 v2 v4 v5 v6 v7 v9 v10 s0 r1 r2 v8 r3.1 r3.2 _ hf _ (by omega)
set_option maxHeartbeats 4000000 in
set_option maxRecDepth 100000 in
theorem g_L_hands_279 {Γ : zCx} {E : zEn} {S : zSk} {X : zMl} (C0 : zCt Γ E RL cL_hands 32 (Option.some Jvm.ClassFile.FieldType.boolean) [] { frames := 10, cells := 810, slots := 4860, locals := 209 }) (F : Nat) (p0 : Nat) (p1 : Int32) (hk_p0 : K_X10 S p0)  (v2 : Int32) (v4 : Int32) (v5 : Int32) (v6 : Int32) (v7 : Int32) (v8 : Int32) (v9 : Int32) (v10 : Int32) (s0 : Int32) (M : zMi) (r : Int32 × zMi) (hf : f_L_hands_279 F p0 p1 v2 v4 v5 v6 v7 v8 v9 v10 s0 M = some r) (kc : Nat) (hkc : kc + (577) ≤ 810) : zG Γ (zQX Γ E 810 4860 S (.inr (some (.int r.1)), r.2) X) E 32 kc (6 * kc) S ZT M X 279 [(0, .ref p0), (1, .int p1), (2, .int v2), (4, .int v4), (5, .int v5), (6, .int v6), (7, .int v7), (8, .int v8), (9, .int v9), (10, .int v10)] [.int s0] := by
  unfold f_L_hands_279 at hf
  refine r_istore (L' := [(11, .int s0), (0, .ref p0), (1, .int p1), (2, .int v2), (4, .int v4), (5, .int v5), (6, .int v6), (7, .int v7), (8, .int v8), (9, .int v9), (10, .int v10)]) C0 dL_hands_279 (by decide) rfl ?_
  refine r_iload C0 dL_hands_281 9 rfl ?_
  refine r_iconst (v := 2) C0 dL_hands_283 (by decide) ?_
  refine r_icmp_eq C0 293 dL_hands_284 (by decide) hf (fun hf => ?_) (fun hf => ?_)
  · refine r_iconst (v := 1) C0 dL_hands_293 (by decide) ?_
    refine r_goto C0 298 dL_hands_294 (by decide) ?_
    refine r_sub (L' := [(0, .ref p0), (1, .int p1), (2, .int v2), (4, .int v4), (5, .int v5), (6, .int v6), (7, .int v7), (8, .int v8), (9, .int v9), (10, .int v10), (11, .int s0)]) [1, 2, 3, 4, 5, 6, 7, 8, 9, 10, 0] rfl ?_
    exact g_L_hands_298 C0 F p0 p1 hk_p0 v2 v4 v5 v6 v7 v8 v9 v10 s0 (1 : Int32) M _ hf _ (by omega)
  · refine r_iload C0 dL_hands_287 9 rfl ?_
    refine r_iconst (v := 3) C0 dL_hands_289 (by decide) ?_
    refine r_icmp_ne C0 297 dL_hands_290 (by decide) hf (fun hf => ?_) (fun hf => ?_)
    · refine r_iconst (v := 0) C0 dL_hands_297 (by decide) ?_
      refine r_sub (L' := [(0, .ref p0), (1, .int p1), (2, .int v2), (4, .int v4), (5, .int v5), (6, .int v6), (7, .int v7), (8, .int v8), (9, .int v9), (10, .int v10), (11, .int s0)]) [1, 2, 3, 4, 5, 6, 7, 8, 9, 10, 0] rfl ?_
      exact g_L_hands_298 C0 F p0 p1 hk_p0 v2 v4 v5 v6 v7 v8 v9 v10 s0 (0 : Int32) M _ hf _ (by omega)
    · refine r_iconst (v := 1) C0 dL_hands_293 (by decide) ?_
      refine r_goto C0 298 dL_hands_294 (by decide) ?_
      refine r_sub (L' := [(0, .ref p0), (1, .int p1), (2, .int v2), (4, .int v4), (5, .int v5), (6, .int v6), (7, .int v7), (8, .int v8), (9, .int v9), (10, .int v10), (11, .int s0)]) [1, 2, 3, 4, 5, 6, 7, 8, 9, 10, 0] rfl ?_
      exact g_L_hands_298 C0 F p0 p1 hk_p0 v2 v4 v5 v6 v7 v8 v9 v10 s0 (1 : Int32) M _ hf _ (by omega)
set_option maxHeartbeats 4000000 in
set_option maxRecDepth 100000 in
theorem g_L_hands_265 {Γ : zCx} {E : zEn} {S : zSk} {X : zMl} (C0 : zCt Γ E RL cL_hands 32 (Option.some Jvm.ClassFile.FieldType.boolean) [] { frames := 10, cells := 810, slots := 4860, locals := 209 }) (F : Nat) (p0 : Nat) (p1 : Int32) (hk_p0 : K_X10 S p0)  (v2 : Int32) (v4 : Int32) (v5 : Int32) (v6 : Int32) (v7 : Int32) (v8 : Int32) (v9 : Int32) (v10 : Int32) (M : zMi) (r : Int32 × zMi) (hf : f_L_hands_265 F p0 p1 v2 v4 v5 v6 v7 v8 v9 v10 M = some r) (kc : Nat) (hkc : kc + (579) ≤ 810) : zG Γ (zQX Γ E 810 4860 S (.inr (some (.int r.1)), r.2) X) E 32 kc (6 * kc) S ZT M X 265 [(0, .ref p0), (1, .int p1), (2, .int v2), (4, .int v4), (5, .int v5), (6, .int v6), (7, .int v7), (8, .int v8), (9, .int v9), (10, .int v10)] [] := by
  unfold f_L_hands_265 at hf
  refine r_aload_n C0 dL_hands_265 rfl 0 rfl ?_
  refine r_iconst (v := 0) C0 dL_hands_266 (by decide) ?_
  refine r_callWw C0 (st := []) (kc1 := kc + 2) [.ref p0, .int (0 : Int32)] hf vs_163 (fun hl r1 hr1 => c_L_tryRestore hl F p0 (0 : Int32) hk_p0 M r1 hr1) rfl rfl (Nat.le_of_ble_eq_true rfl) dL_hands_267 (zrm_k 810 rfl (by omega)) (by omega) (fun r1 hr1 hf => ?_)
  refine r_iload_n C0 dL_hands_270 rfl 2 rfl ?_
  refine r_icmp_ne C0 278 dL_hands_271 (by decide) hf (fun hf => ?_) (fun hf => ?_)
  · refine r_iconst (v := 0) C0 dL_hands_278 (by decide) ?_
    refine r_sub (L' := [(0, .ref p0), (1, .int p1), (2, .int v2), (4, .int v4), (5, .int v5), (6, .int v6), (7, .int v7), (8, .int v8), (9, .int v9), (10, .int v10)]) [0, 1, 2, 3, 4, 5, 6, 7, 8, 9] rfl ?_
    exact g_L_hands_279 C0 F p0 p1 hk_p0 v2 v4 v5 v6 v7 v8 v9 v10 (0 : Int32) r1.2 _ hf _ (by omega)
  · refine r_iconst (v := 1) C0 dL_hands_274 (by decide) ?_
    refine r_goto C0 279 dL_hands_275 (by decide) ?_
    refine r_sub (L' := [(0, .ref p0), (1, .int p1), (2, .int v2), (4, .int v4), (5, .int v5), (6, .int v6), (7, .int v7), (8, .int v8), (9, .int v9), (10, .int v10)]) [0, 1, 2, 3, 4, 5, 6, 7, 8, 9] rfl ?_
    exact g_L_hands_279 C0 F p0 p1 hk_p0 v2 v4 v5 v6 v7 v8 v9 v10 (1 : Int32) r1.2 _ hf _ (by omega)
set_option maxHeartbeats 4000000 in
set_option maxRecDepth 100000 in
theorem g_L_hands_226 {Γ : zCx} {E : zEn} {S : zSk} {X : zMl} (C0 : zCt Γ E RL cL_hands 32 (Option.some Jvm.ClassFile.FieldType.boolean) [] { frames := 10, cells := 810, slots := 4860, locals := 209 }) (F : Nat) (p0 : Nat) (p1 : Int32) (hk_p0 : K_X10 S p0)  (v2 : Int32) (v4 : Int32) (v5 : Int32) (v6 : Int32) (v7 : Int32) (v8 : Int32) (v9 : Int32) (v10 : Int32) (s0 : Int32) (s1 : Int32) (M : zMi) (r : Int32 × zMi) (hf : f_L_hands_226 F p0 p1 v2 v4 v5 v6 v7 v8 v9 v10 s0 s1 M = some r) (kc : Nat) (hkc : kc + (583) ≤ 810) : zG Γ (zQX Γ E 810 4860 S (.inr (some (.int r.1)), r.2) X) E 32 kc (6 * kc) S ZT M X 226 [(0, .ref p0), (1, .int p1), (2, .int v2), (4, .int v4), (5, .int v5), (6, .int v6), (7, .int v7), (8, .int v8), (9, .int v9), (10, .int v10)] [.int s0, .int s1] := by
  unfold f_L_hands_226 at hf
  refine r_icmp_ne C0 278 dL_hands_226 (by decide) hf (fun hf => ?_) (fun hf => ?_)
  · refine r_iconst (v := 0) C0 dL_hands_278 (by decide) ?_
    refine r_sub (L' := [(0, .ref p0), (1, .int p1), (2, .int v2), (4, .int v4), (5, .int v5), (6, .int v6), (7, .int v7), (8, .int v8), (9, .int v9), (10, .int v10)]) [0, 1, 2, 3, 4, 5, 6, 7, 8, 9] rfl ?_
    exact g_L_hands_279 C0 F p0 p1 hk_p0 v2 v4 v5 v6 v7 v8 v9 v10 (0 : Int32) M _ hf _ (by omega)
  · refine r_iload C0 dL_hands_229 8 rfl ?_
    refine r_if_ne C0 265 dL_hands_231 (by decide) hf (fun hf => ?_) (fun hf => ?_)
    · refine r_sub (L' := [(0, .ref p0), (1, .int p1), (2, .int v2), (4, .int v4), (5, .int v5), (6, .int v6), (7, .int v7), (8, .int v8), (9, .int v9), (10, .int v10)]) [0, 1, 2, 3, 4, 5, 6, 7, 8, 9] rfl ?_
      exact g_L_hands_265 C0 F p0 p1 hk_p0 v2 v4 v5 v6 v7 v8 v9 v10 M _ hf _ (by omega)
    · refine r_iload C0 dL_hands_234 6 rfl ?_
      refine r_iload C0 dL_hands_236 3 rfl ?_
      refine r_icmp_eq C0 265 dL_hands_238 (by decide) hf (fun hf => ?_) (fun hf => ?_)
      · refine r_sub (L' := [(0, .ref p0), (1, .int p1), (2, .int v2), (4, .int v4), (5, .int v5), (6, .int v6), (7, .int v7), (8, .int v8), (9, .int v9), (10, .int v10)]) [0, 1, 2, 3, 4, 5, 6, 7, 8, 9] rfl ?_
        exact g_L_hands_265 C0 F p0 p1 hk_p0 v2 v4 v5 v6 v7 v8 v9 v10 M _ hf _ (by omega)
      · refine r_aload_n C0 dL_hands_241 rfl 0 rfl ?_
        refine r_iload C0 dL_hands_242 4 rfl ?_
        refine r_iconst (v := 5) C0 dL_hands_244 (by decide) ?_
        refine r_callWp C0 (st := []) (kc1 := kc + 2) [.ref p0, .int v5, .int (5 : Int32)] hf vs_161 (fun hl r1 hr1 => c_L_tryShip hl F p0 v5 (5 : Int32) hk_p0 M r1 hr1) rfl rfl (Nat.le_of_ble_eq_true rfl) dL_hands_245 (zrm_k 810 rfl (by omega)) (by omega) (fun r1 hr1 hf => ?_)
        refine r_iconst (v := 1) C0 dL_hands_248 (by decide) ?_
        refine r_icmp_ne C0 278 dL_hands_249 (by decide) hf (fun hf => ?_) (fun hf => ?_)
        · refine r_iconst (v := 0) C0 dL_hands_278 (by decide) ?_
          refine r_sub (L' := [(0, .ref p0), (1, .int p1), (2, .int v2), (4, .int v4), (5, .int v5), (6, .int v6), (7, .int v7), (8, .int v8), (9, .int v9), (10, .int v10)]) [0, 1, 2, 3, 4, 5, 6, 7, 8, 9] rfl ?_
          exact g_L_hands_279 C0 F p0 p1 hk_p0 v2 v4 v5 v6 v7 v8 v9 v10 (0 : Int32) M _ hf _ (by omega)
        · refine r_aload_n C0 dL_hands_252 rfl 0 rfl ?_
          refine r_iload C0 dL_hands_253 4 rfl ?_
          refine r_bipush (v := 6) C0 dL_hands_255 (by decide) ?_
          refine r_callWp C0 (st := []) (kc1 := kc + 4) [.ref p0, .int v5, .int (6 : Int32)] hf vs_161 (fun hl r2 hr2 => c_L_tryShip hl F p0 v5 (6 : Int32) hk_p0 M r2 hr2) rfl rfl (Nat.le_of_ble_eq_true rfl) dL_hands_257 (zrm_k 810 rfl (by omega)) (by omega) (fun r2 hr2 hf => ?_)
          refine r_iload C0 dL_hands_260 7 rfl ?_
          refine r_icmp_ne C0 278 dL_hands_262 (by decide) hf (fun hf => ?_) (fun hf => ?_)
          · refine r_iconst (v := 0) C0 dL_hands_278 (by decide) ?_
            refine r_sub (L' := [(0, .ref p0), (1, .int p1), (2, .int v2), (4, .int v4), (5, .int v5), (6, .int v6), (7, .int v7), (8, .int v8), (9, .int v9), (10, .int v10)]) [0, 1, 2, 3, 4, 5, 6, 7, 8, 9] rfl ?_
            exact g_L_hands_279 C0 F p0 p1 hk_p0 v2 v4 v5 v6 v7 v8 v9 v10 (0 : Int32) M _ hf _ (by omega)
          · refine r_sub (L' := [(0, .ref p0), (1, .int p1), (2, .int v2), (4, .int v4), (5, .int v5), (6, .int v6), (7, .int v7), (8, .int v8), (9, .int v9), (10, .int v10)]) [0, 1, 2, 3, 4, 5, 6, 7, 8, 9] rfl ?_
            exact g_L_hands_265 C0 F p0 p1 hk_p0 v2 v4 v5 v6 v7 v8 v9 v10 M _ hf _ (by omega)
set_option maxHeartbeats 4000000 in
set_option maxRecDepth 100000 in
theorem g_L_hands_189 {Γ : zCx} {E : zEn} {S : zSk} {X : zMl} (C0 : zCt Γ E RL cL_hands 32 (Option.some Jvm.ClassFile.FieldType.boolean) [] { frames := 10, cells := 810, slots := 4860, locals := 209 }) (F : Nat) (p0 : Nat) (p1 : Int32) (hk_p0 : K_X10 S p0)  (v2 : Int32) (v4 : Int32) (v5 : Int32) (v6 : Int32) (v7 : Int32) (v8 : Int32) (v9 : Int32) (v10 : Int32) (s0 : Int32) (s1 : Int32) (s2 : Int32) (M : zMi) (r : Int32 × zMi) (hf : f_L_hands_189 F p0 p1 v2 v4 v5 v6 v7 v8 v9 v10 s0 s1 s2 M = some r) (kc : Nat) (hkc : kc + (794) ≤ 810) : zG Γ (zQX Γ E 810 4860 S (.inr (some (.int r.1)), r.2) X) E 32 kc (6 * kc) S ZT M X 189 [(0, .ref p0), (1, .int p1), (2, .int v2), (4, .int v4), (5, .int v5), (6, .int v6), (7, .int v7), (8, .int v8), (9, .int v9), (10, .int v10)] [.int s0, .int s1, .int s2] := by
  unfold f_L_hands_189 at hf
  refine r_isub C0 dL_hands_189 ?_
  refine r_icmp_ne C0 278 dL_hands_190 (by decide) hf (fun hf => ?_) (fun hf => ?_)
  · refine r_iconst (v := 0) C0 dL_hands_278 (by decide) ?_
    refine r_sub (L' := [(0, .ref p0), (1, .int p1), (2, .int v2), (4, .int v4), (5, .int v5), (6, .int v6), (7, .int v7), (8, .int v8), (9, .int v9), (10, .int v10)]) [0, 1, 2, 3, 4, 5, 6, 7, 8, 9] rfl ?_
    exact g_L_hands_279 C0 F p0 p1 hk_p0 v2 v4 v5 v6 v7 v8 v9 v10 (0 : Int32) M _ hf _ (by omega)
  · refine r_aload_n C0 dL_hands_193 rfl 0 rfl ?_
    refine r_callAp C0 (st := []) (kc1 := kc + 209) [.ref p0] hf vs_182 (fun hl r1 hr1 => c_L_sound hl F p0 hk_p0 M r1 hr1) rfl rfl (Nat.le_of_ble_eq_true rfl) dL_hands_194 (zrm_k 810 rfl (by omega)) (by omega) (fun r1 hr1 hf => ?_)
    refine r_if_eq C0 278 dL_hands_197 (by decide) hf (fun hf => ?_) (fun hf => ?_)
    · refine r_iconst (v := 0) C0 dL_hands_278 (by decide) ?_
      refine r_sub (L' := [(0, .ref p0), (1, .int p1), (2, .int v2), (4, .int v4), (5, .int v5), (6, .int v6), (7, .int v7), (8, .int v8), (9, .int v9), (10, .int v10)]) [0, 1, 2, 3, 4, 5, 6, 7, 8, 9] rfl ?_
      exact g_L_hands_279 C0 F p0 p1 hk_p0 v2 v4 v5 v6 v7 v8 v9 v10 (0 : Int32) M _ hf _ (by omega)
    · refine r_aload_n C0 dL_hands_200 rfl 0 rfl ?_
      refine r_iload C0 dL_hands_201 4 rfl ?_
      refine r_callWw C0 (st := []) (kc1 := kc + 211) [.ref p0, .int v5] hf vs_167 (fun hl r2 hr2 => c_L_trySend hl F p0 v5 hk_p0 M r2 hr2) rfl rfl (Nat.le_of_ble_eq_true rfl) dL_hands_203 (zrm_k 810 rfl (by omega)) (by omega) (fun r2 hr2 hf => ?_)
      refine r_iload C0 dL_hands_206 8 rfl ?_
      refine r_if_ne C0 223 dL_hands_208 (by decide) hf (fun hf => ?_) (fun hf => ?_)
      · refine r_sipush (v := -1003) C0 dL_hands_223 (by decide) ?_
        refine r_sub (L' := [(0, .ref p0), (1, .int p1), (2, .int v2), (4, .int v4), (5, .int v5), (6, .int v6), (7, .int v7), (8, .int v8), (9, .int v9), (10, .int v10)]) [0, 1, 2, 3, 4, 5, 6, 7, 8, 9] rfl ?_
        exact g_L_hands_226 C0 F p0 p1 hk_p0 v2 v4 v5 v6 v7 v8 v9 v10 (-1003 : Int32) r2.1 r2.2 _ hf _ (by omega)
      · refine r_iload C0 dL_hands_211 6 rfl ?_
        refine r_iload C0 dL_hands_213 3 rfl ?_
        refine r_icmp_ge C0 223 dL_hands_215 (by decide) hf (fun hf => ?_) (fun hf => ?_)
        · refine r_sipush (v := -1003) C0 dL_hands_223 (by decide) ?_
          refine r_sub (L' := [(0, .ref p0), (1, .int p1), (2, .int v2), (4, .int v4), (5, .int v5), (6, .int v6), (7, .int v7), (8, .int v8), (9, .int v9), (10, .int v10)]) [0, 1, 2, 3, 4, 5, 6, 7, 8, 9] rfl ?_
          exact g_L_hands_226 C0 F p0 p1 hk_p0 v2 v4 v5 v6 v7 v8 v9 v10 (-1003 : Int32) r2.1 r2.2 _ hf _ (by omega)
        · refine r_iload C0 dL_hands_218 7 rfl ?_
          refine r_goto C0 226 dL_hands_220 (by decide) ?_
          refine r_sub (L' := [(0, .ref p0), (1, .int p1), (2, .int v2), (4, .int v4), (5, .int v5), (6, .int v6), (7, .int v7), (8, .int v8), (9, .int v9), (10, .int v10)]) [0, 1, 2, 3, 4, 5, 6, 7, 8, 9] rfl ?_
          exact g_L_hands_226 C0 F p0 p1 hk_p0 v2 v4 v5 v6 v7 v8 v9 v10 v8 r2.1 r2.2 _ hf _ (by omega)
set_option maxHeartbeats 4000000 in
set_option maxRecDepth 100000 in
theorem g_L_hands_166 {Γ : zCx} {E : zEn} {S : zSk} {X : zMl} (C0 : zCt Γ E RL cL_hands 32 (Option.some Jvm.ClassFile.FieldType.boolean) [] { frames := 10, cells := 810, slots := 4860, locals := 209 }) (F : Nat) (p0 : Nat) (p1 : Int32) (hk_p0 : K_X10 S p0)  (v2 : Int32) (v4 : Int32) (v5 : Int32) (v6 : Int32) (v7 : Int32) (v8 : Int32) (v9 : Int32) (v10 : Int32) (v13 : Int32) (v14 : Int32) (s0 : Int32) (M : zMi) (r : Int32 × zMi) (hf : f_L_hands_166 F p0 p1 v2 v4 v5 v6 v7 v8 v9 v10 v13 v14 s0 M = some r) (kc : Nat) (hkc : kc + (795) ≤ 810) : zG Γ (zQX Γ E 810 4860 S (.inr (some (.int r.1)), r.2) X) E 32 kc (6 * kc) S ZT M X 166 [(0, .ref p0), (1, .int p1), (2, .int v2), (4, .int v4), (5, .int v5), (6, .int v6), (7, .int v7), (8, .int v8), (9, .int v9), (10, .int v10), (13, .int v13), (14, .int v14)] [.int s0] := by
  unfold f_L_hands_166 at hf
  refine r_iload C0 dL_hands_166 11 rfl ?_
  refine r_icmp_ne C0 278 dL_hands_168 (by decide) hf (fun hf => ?_) (fun hf => ?_)
  · refine r_iconst (v := 0) C0 dL_hands_278 (by decide) ?_
    refine r_sub (L' := [(0, .ref p0), (1, .int p1), (2, .int v2), (4, .int v4), (5, .int v5), (6, .int v6), (7, .int v7), (8, .int v8), (9, .int v9), (10, .int v10)]) [0, 1, 2, 3, 4, 5, 6, 7, 8, 9] rfl ?_
    exact g_L_hands_279 C0 F p0 p1 hk_p0 v2 v4 v5 v6 v7 v8 v9 v10 (0 : Int32) M _ hf _ (by omega)
  · refine r_aload_n C0 dL_hands_171 rfl 0 rfl ?_
    refine r_iconst (v := 4) C0 dL_hands_172 (by decide) ?_
    refine r_callWp C0 (st := []) (kc1 := kc + 1) [.ref p0, .int (4 : Int32)] hf vs_159 (fun hl r1 hr1 => c_L_tryAbout hl F p0 (4 : Int32) hk_p0 M r1 hr1) rfl rfl (Nat.le_of_ble_eq_true rfl) dL_hands_173 (zrm_k 810 rfl (by omega)) (by omega) (fun r1 hr1 hf => ?_)
    refine r_iload C0 dL_hands_176 9 rfl ?_
    refine r_iload C0 dL_hands_178 11 rfl ?_
    refine r_if_eq C0 188 dL_hands_180 (by decide) hf (fun hf => ?_) (fun hf => ?_)
    · refine r_iconst (v := 0) C0 dL_hands_188 (by decide) ?_
      refine r_sub (L' := [(0, .ref p0), (1, .int p1), (2, .int v2), (4, .int v4), (5, .int v5), (6, .int v6), (7, .int v7), (8, .int v8), (9, .int v9), (10, .int v10)]) [0, 1, 2, 3, 4, 5, 6, 7, 8, 9] rfl ?_
      exact g_L_hands_189 C0 F p0 p1 hk_p0 v2 v4 v5 v6 v7 v8 v9 v10 (0 : Int32) v10 r1 M _ hf _ (by omega)
    · refine r_iload C0 dL_hands_183 10 rfl ?_
      refine r_goto C0 189 dL_hands_185 (by decide) ?_
      refine r_sub (L' := [(0, .ref p0), (1, .int p1), (2, .int v2), (4, .int v4), (5, .int v5), (6, .int v6), (7, .int v7), (8, .int v8), (9, .int v9), (10, .int v10)]) [0, 1, 2, 3, 4, 5, 6, 7, 8, 9] rfl ?_
      exact g_L_hands_189 C0 F p0 p1 hk_p0 v2 v4 v5 v6 v7 v8 v9 v10 v13 v10 r1 M _ hf _ (by omega)
set_option maxHeartbeats 4000000 in
set_option maxRecDepth 100000 in
theorem g_L_hands_143 {Γ : zCx} {E : zEn} {S : zSk} {X : zMl} (C0 : zCt Γ E RL cL_hands 32 (Option.some Jvm.ClassFile.FieldType.boolean) [] { frames := 10, cells := 810, slots := 4860, locals := 209 }) (F : Nat) (p0 : Nat) (p1 : Int32) (hk_p0 : K_X10 S p0)  (v2 : Int32) (v4 : Int32) (v5 : Int32) (v6 : Int32) (v7 : Int32) (v8 : Int32) (v9 : Int32) (v10 : Int32) (v11 : Int32) (v13 : Int32) (s0 : Int32) (M : zMi) (r : Int32 × zMi) (hf : f_L_hands_143 F p0 p1 v2 v4 v5 v6 v7 v8 v9 v10 v11 v13 s0 M = some r) (kc : Nat) (hkc : kc + (798) ≤ 810) : zG Γ (zQX Γ E 810 4860 S (.inr (some (.int r.1)), r.2) X) E 32 kc (6 * kc) S ZT M X 143 [(0, .ref p0), (1, .int p1), (2, .int v2), (4, .int v4), (5, .int v5), (6, .int v6), (7, .int v7), (8, .int v8), (9, .int v9), (10, .int v10), (11, .int v11), (13, .int v13)] [.int s0] := by
  unfold f_L_hands_143 at hf
  refine r_istore (L' := [(14, .int s0), (0, .ref p0), (1, .int p1), (2, .int v2), (4, .int v4), (5, .int v5), (6, .int v6), (7, .int v7), (8, .int v8), (9, .int v9), (10, .int v10), (11, .int v11), (13, .int v13)]) C0 dL_hands_143 (by decide) rfl ?_
  refine r_iload C0 dL_hands_145 11 rfl ?_
  refine r_if_eq C0 278 dL_hands_147 (by decide) hf (fun hf => ?_) (fun hf => ?_)
  · refine r_iconst (v := 0) C0 dL_hands_278 (by decide) ?_
    refine r_sub (L' := [(0, .ref p0), (1, .int p1), (2, .int v2), (4, .int v4), (5, .int v5), (6, .int v6), (7, .int v7), (8, .int v8), (9, .int v9), (10, .int v10)]) [1, 2, 3, 4, 5, 6, 7, 8, 9, 10] rfl ?_
    exact g_L_hands_279 C0 F p0 p1 hk_p0 v2 v4 v5 v6 v7 v8 v9 v10 (0 : Int32) M _ hf _ (by omega)
  · refine r_aload_n C0 dL_hands_150 rfl 1 rfl ?_
    refine r_iload C0 dL_hands_151 5 rfl ?_
    refine r_iload C0 dL_hands_153 12 rfl ?_
    refine r_callWw C0 (st := []) (kc1 := kc + 3) [.ref p0, .int v5, .int v13] hf vs_166 (fun hl r1 hr1 => c_L_tryTake hl F p0 v5 v13 hk_p0 M r1 hr1) rfl rfl (Nat.le_of_ble_eq_true rfl) dL_hands_155 (zrm_k 810 rfl (by omega)) (by omega) (fun r1 hr1 hf => ?_)
    refine r_if_lt C0 165 dL_hands_158 (by decide) hf (fun hf => ?_) (fun hf => ?_)
    · refine r_iconst (v := 0) C0 dL_hands_165 (by decide) ?_
      refine r_sub (L' := [(0, .ref p0), (1, .int p1), (2, .int v2), (4, .int v4), (5, .int v5), (6, .int v6), (7, .int v7), (8, .int v8), (9, .int v9), (10, .int v10), (13, .int v13), (14, .int s0)]) [1, 2, 3, 4, 5, 6, 7, 8, 9, 10, 12, 0] rfl ?_
      exact g_L_hands_166 C0 F p0 p1 hk_p0 v2 v4 v5 v6 v7 v8 v9 v10 v13 s0 (0 : Int32) r1.2 _ hf _ (by omega)
    · refine r_iconst (v := 1) C0 dL_hands_161 (by decide) ?_
      refine r_goto C0 166 dL_hands_162 (by decide) ?_
      refine r_sub (L' := [(0, .ref p0), (1, .int p1), (2, .int v2), (4, .int v4), (5, .int v5), (6, .int v6), (7, .int v7), (8, .int v8), (9, .int v9), (10, .int v10), (13, .int v13), (14, .int s0)]) [1, 2, 3, 4, 5, 6, 7, 8, 9, 10, 12, 0] rfl ?_
      exact g_L_hands_166 C0 F p0 p1 hk_p0 v2 v4 v5 v6 v7 v8 v9 v10 v13 s0 (1 : Int32) r1.2 _ hf _ (by omega)
set_option maxHeartbeats 4000000 in
set_option maxRecDepth 100000 in
theorem g_L_hands_88 {Γ : zCx} {E : zEn} {S : zSk} {X : zMl} (C0 : zCt Γ E RL cL_hands 32 (Option.some Jvm.ClassFile.FieldType.boolean) [] { frames := 10, cells := 810, slots := 4860, locals := 209 }) (F : Nat) (p0 : Nat) (p1 : Int32) (hk_p0 : K_X10 S p0)  (v2 : Int32) (v4 : Int32) (v5 : Int32) (v6 : Int32) (v7 : Int32) (v8 : Int32) (v9 : Int32) (v10 : Int32) (s0 : Int32) (M : zMi) (r : Int32 × zMi) (hf : f_L_hands_88 F p0 p1 v2 v4 v5 v6 v7 v8 v9 v10 s0 M = some r) (kc : Nat) (hkc : kc + (802) ≤ 810) : zG Γ (zQX Γ E 810 4860 S (.inr (some (.int r.1)), r.2) X) E 32 kc (6 * kc) S ZT M X 88 [(0, .ref p0), (1, .int p1), (2, .int v2), (4, .int v4), (5, .int v5), (6, .int v6), (7, .int v7), (8, .int v8), (9, .int v9), (10, .int v10)] [.int s0] := by
  unfold f_L_hands_88 at hf
  refine r_istore (L' := [(11, .int s0), (0, .ref p0), (1, .int p1), (2, .int v2), (4, .int v4), (5, .int v5), (6, .int v6), (7, .int v7), (8, .int v8), (9, .int v9), (10, .int v10)]) C0 dL_hands_88 (by decide) rfl ?_
  refine r_aload_n C0 dL_hands_90 rfl 1 rfl ?_
  refine r_iload C0 dL_hands_91 5 rfl ?_
  refine r_iconst (v := 0) C0 dL_hands_93 (by decide) ?_
  refine r_callWp C0 (st := []) (kc1 := kc + 2) [.ref p0, .int v5, .int (0 : Int32)] hf vs_161 (fun hl r1 hr1 => c_L_tryShip hl F p0 v5 (0 : Int32) hk_p0 M r1 hr1) rfl rfl (Nat.le_of_ble_eq_true rfl) dL_hands_94 (zrm_k 810 rfl (by omega)) (by omega) (fun r1 hr1 hf => ?_)
  refine r_aload_n C0 dL_hands_97 rfl 1 rfl ?_
  refine r_iload C0 dL_hands_98 5 rfl ?_
  refine r_iconst (v := 4) C0 dL_hands_100 (by decide) ?_
  refine r_callWp C0 (st := [.int r1]) (kc1 := kc + 4) [.ref p0, .int v5, .int (4 : Int32)] hf vs_161 (fun hl r2 hr2 => c_L_tryShip hl F p0 v5 (4 : Int32) hk_p0 M r2 hr2) rfl rfl (Nat.le_of_ble_eq_true rfl) dL_hands_101 (zrm_k 810 rfl (by omega)) (by omega) (fun r2 hr2 hf => ?_)
  refine r_isub C0 dL_hands_104 ?_
  refine r_nm hf (fun x3 hf => ?_)
  refine r_istore (L' := [(12, .int x3), (11, .int s0), (0, .ref p0), (1, .int p1), (2, .int v2), (4, .int v4), (5, .int v5), (6, .int v6), (7, .int v7), (8, .int v8), (9, .int v9), (10, .int v10)]) C0 dL_hands_105 (by decide) rfl ?_
  refine r_iconst (v := 1) C0 dL_hands_107 (by decide) ?_
  refine r_iload_n C0 dL_hands_108 rfl 3 rfl ?_
  refine r_bipush (v := 64) C0 dL_hands_109 (by decide) ?_
  refine r_idiv' C0 dL_hands_111 (by decide) ?_
  refine r_sipush (v := 160) C0 dL_hands_112 (by decide) ?_
  refine r_irem' C0 dL_hands_115 (by decide) ?_
  refine r_iadd C0 dL_hands_116 ?_
  refine r_nm hf (fun x4 hf => ?_)
  refine r_istore (L' := [(13, .int x4), (12, .int x3), (11, .int s0), (0, .ref p0), (1, .int p1), (2, .int v2), (4, .int v4), (5, .int v5), (6, .int v6), (7, .int v7), (8, .int v8), (9, .int v9), (10, .int v10)]) C0 dL_hands_117 (by decide) rfl ?_
  refine r_iload C0 dL_hands_119 11 rfl ?_
  refine r_if_ne C0 142 dL_hands_121 (by decide) hf (fun hf => ?_) (fun hf => ?_)
  · refine r_iconst (v := 0) C0 dL_hands_142 (by decide) ?_
    refine r_sub (L' := [(0, .ref p0), (1, .int p1), (2, .int v2), (4, .int v4), (5, .int v5), (6, .int v6), (7, .int v7), (8, .int v8), (9, .int v9), (10, .int v10), (11, .int s0), (13, .int x4)]) [3, 4, 5, 6, 7, 8, 9, 10, 11, 12, 2, 0] rfl ?_
    exact g_L_hands_143 C0 F p0 p1 hk_p0 v2 v4 v5 v6 v7 v8 v9 v10 s0 x4 (0 : Int32) M _ hf _ (by omega)
  · refine r_iload C0 dL_hands_124 0 rfl ?_
    refine r_iload C0 dL_hands_126 1 rfl ?_
    refine r_icmp_gt C0 142 dL_hands_128 (by decide) hf (fun hf => ?_) (fun hf => ?_)
    · refine r_iconst (v := 0) C0 dL_hands_142 (by decide) ?_
      refine r_sub (L' := [(0, .ref p0), (1, .int p1), (2, .int v2), (4, .int v4), (5, .int v5), (6, .int v6), (7, .int v7), (8, .int v8), (9, .int v9), (10, .int v10), (11, .int s0), (13, .int x4)]) [3, 4, 5, 6, 7, 8, 9, 10, 11, 12, 2, 0] rfl ?_
      exact g_L_hands_143 C0 F p0 p1 hk_p0 v2 v4 v5 v6 v7 v8 v9 v10 s0 x4 (0 : Int32) M _ hf _ (by omega)
    · refine r_iload C0 dL_hands_131 0 rfl ?_
      refine r_iload C0 dL_hands_133 12 rfl ?_
      refine r_icmp_gt C0 142 dL_hands_135 (by decide) hf (fun hf => ?_) (fun hf => ?_)
      · refine r_iconst (v := 0) C0 dL_hands_142 (by decide) ?_
        refine r_sub (L' := [(0, .ref p0), (1, .int p1), (2, .int v2), (4, .int v4), (5, .int v5), (6, .int v6), (7, .int v7), (8, .int v8), (9, .int v9), (10, .int v10), (11, .int s0), (13, .int x4)]) [3, 4, 5, 6, 7, 8, 9, 10, 11, 12, 2, 0] rfl ?_
        exact g_L_hands_143 C0 F p0 p1 hk_p0 v2 v4 v5 v6 v7 v8 v9 v10 s0 x4 (0 : Int32) M _ hf _ (by omega)
      · refine r_iconst (v := 1) C0 dL_hands_138 (by decide) ?_
        refine r_goto C0 143 dL_hands_139 (by decide) ?_
        refine r_sub (L' := [(0, .ref p0), (1, .int p1), (2, .int v2), (4, .int v4), (5, .int v5), (6, .int v6), (7, .int v7), (8, .int v8), (9, .int v9), (10, .int v10), (11, .int s0), (13, .int x4)]) [3, 4, 5, 6, 7, 8, 9, 10, 11, 12, 2, 0] rfl ?_
        exact g_L_hands_143 C0 F p0 p1 hk_p0 v2 v4 v5 v6 v7 v8 v9 v10 s0 x4 (1 : Int32) M _ hf _ (by omega)
set_option maxHeartbeats 4000000 in
set_option maxRecDepth 100000 in
theorem g_L_hands_56 {Γ : zCx} {E : zEn} {S : zSk} {X : zMl} (C0 : zCt Γ E RL cL_hands 32 (Option.some Jvm.ClassFile.FieldType.boolean) [] { frames := 10, cells := 810, slots := 4860, locals := 209 }) (F : Nat) (p0 : Nat) (p1 : Int32) (hk_p0 : K_X10 S p0)  (v2 : Int32) (v4 : Int32) (v5 : Int32) (v6 : Int32) (v7 : Int32) (s0 : Int32) (M : zMi) (r : Int32 × zMi) (hf : f_L_hands_56 F p0 p1 v2 v4 v5 v6 v7 s0 M = some r) (kc : Nat) (hkc : kc + (806) ≤ 810) : zG Γ (zQX Γ E 810 4860 S (.inr (some (.int r.1)), r.2) X) E 32 kc (6 * kc) S ZT M X 56 [(0, .ref p0), (1, .int p1), (2, .int v2), (4, .int v4), (5, .int v5), (6, .int v6), (7, .int v7)] [.int s0] := by
  unfold f_L_hands_56 at hf
  refine r_istore (L' := [(8, .int s0), (0, .ref p0), (1, .int p1), (2, .int v2), (4, .int v4), (5, .int v5), (6, .int v6), (7, .int v7)]) C0 dL_hands_56 (by decide) rfl ?_
  refine r_aload_n C0 dL_hands_58 rfl 1 rfl ?_
  refine r_iload C0 dL_hands_59 5 rfl ?_
  refine r_iconst (v := 5) C0 dL_hands_61 (by decide) ?_
  refine r_callWp C0 (st := []) (kc1 := kc + 2) [.ref p0, .int v5, .int (5 : Int32)] hf vs_161 (fun hl r1 hr1 => c_L_tryShip hl F p0 v5 (5 : Int32) hk_p0 M r1 hr1) rfl rfl (Nat.le_of_ble_eq_true rfl) dL_hands_62 (zrm_k 810 rfl (by omega)) (by omega) (fun r1 hr1 hf => ?_)
  refine r_istore (L' := [(9, .int r1), (8, .int s0), (0, .ref p0), (1, .int p1), (2, .int v2), (4, .int v4), (5, .int v5), (6, .int v6), (7, .int v7)]) C0 dL_hands_65 (by decide) rfl ?_
  refine r_aload_n C0 dL_hands_67 rfl 2 rfl ?_
  refine r_iconst (v := 4) C0 dL_hands_68 (by decide) ?_
  refine r_callWp C0 (st := []) (kc1 := kc + 3) [.ref p0, .int (4 : Int32)] hf vs_159 (fun hl r2 hr2 => c_L_tryAbout hl F p0 (4 : Int32) hk_p0 M r2 hr2) rfl rfl (Nat.le_of_ble_eq_true rfl) dL_hands_69 (zrm_k 810 rfl (by omega)) (by omega) (fun r2 hr2 hf => ?_)
  refine r_istore (L' := [(10, .int r2), (9, .int r1), (8, .int s0), (0, .ref p0), (1, .int p1), (2, .int v2), (4, .int v4), (5, .int v5), (6, .int v6), (7, .int v7)]) C0 dL_hands_72 (by decide) rfl ?_
  refine r_aload_n C0 dL_hands_74 rfl 3 rfl ?_
  refine r_iconst (v := 0) C0 dL_hands_75 (by decide) ?_
  refine r_callWw C0 (st := []) (kc1 := kc + 4) [.ref p0, .int (0 : Int32)] hf vs_181 (fun hl r3 hr3 => c_L_trySave hl F p0 (0 : Int32) hk_p0 M r3 hr3) rfl rfl (Nat.le_of_ble_eq_true rfl) dL_hands_76 (zrm_k 810 rfl (by omega)) (by omega) (fun r3 hr3 hf => ?_)
  refine r_iload_n C0 dL_hands_79 rfl 5 rfl ?_
  refine r_icmp_ne C0 87 dL_hands_80 (by decide) hf (fun hf => ?_) (fun hf => ?_)
  · refine r_iconst (v := 0) C0 dL_hands_87 (by decide) ?_
    refine r_sub (L' := [(0, .ref p0), (1, .int p1), (2, .int v2), (4, .int v4), (5, .int v5), (6, .int v6), (7, .int v7), (8, .int s0), (9, .int r1), (10, .int r2)]) [3, 4, 5, 6, 7, 8, 9, 2, 1, 0] rfl ?_
    exact g_L_hands_88 C0 F p0 p1 hk_p0 v2 v4 v5 v6 v7 s0 r1 r2 (0 : Int32) r3.2 _ hf _ (by omega)
  · refine r_iconst (v := 1) C0 dL_hands_83 (by decide) ?_
    refine r_goto C0 88 dL_hands_84 (by decide) ?_
    refine r_sub (L' := [(0, .ref p0), (1, .int p1), (2, .int v2), (4, .int v4), (5, .int v5), (6, .int v6), (7, .int v7), (8, .int s0), (9, .int r1), (10, .int r2)]) [3, 4, 5, 6, 7, 8, 9, 2, 1, 0] rfl ?_
    exact g_L_hands_88 C0 F p0 p1 hk_p0 v2 v4 v5 v6 v7 s0 r1 r2 (1 : Int32) r3.2 _ hf _ (by omega)
set_option maxHeartbeats 4000000 in
set_option maxRecDepth 100000 in
theorem c_L_hands {l : Launch} {E : zEn} {S : zSk} {X : zMl} (hl : l.stackTraces = false) (F : Nat) (p0 : Nat) (p1 : Int32) (hk_p0 : K_X10 S p0) (M : zMi) (r : Int32 × zMi) (hf : f_L_hands F p0 p1 M = some r) : zMX l E yL_hands cL_hands 32 (Option.some Jvm.ClassFile.FieldType.boolean) { frames := 10, cells := 810, slots := 4860, locals := 209 } 810 4860 [.ref p0, .int p1] S M X (.inr (some (.int r.1)), r.2) := by
  refine zMX.intro (L0 := [(0, .ref p0), (1, .int p1)]) hl (by decide) (Nat.le_of_ble_eq_true rfl) rfl (fun Γ C0 => ?_)
  unfold f_L_hands at hf
  refine r_aload_n C0 dL_hands_0 rfl 0 rfl ?_
  refine r_iconst (v := 5) C0 dL_hands_1 (by decide) ?_
  refine r_callWp C0 (st := []) (kc1 := 1) [.ref p0, .int (5 : Int32)] hf vs_159 (fun hl r1 hr1 => c_L_tryAbout hl F p0 (5 : Int32) hk_p0 M r1 hr1) rfl rfl (Nat.le_of_ble_eq_true rfl) dL_hands_2 (zrm_k 810 rfl (Nat.le_of_ble_eq_true rfl)) (Nat.le_of_ble_eq_true rfl) (fun r1 hr1 hf => ?_)
  refine r_istore_n (L' := [(2, .int r1), (0, .ref p0), (1, .int p1)]) C0 dL_hands_5 rfl (by decide) rfl ?_
  refine r_aload_n C0 dL_hands_6 rfl 1 rfl ?_
  refine r_iconst (v := 1) C0 dL_hands_7 (by decide) ?_
  refine r_callWp C0 (st := []) (kc1 := 2) [.ref p0, .int (1 : Int32)] hf vs_159 (fun hl r2 hr2 => c_L_tryAbout hl F p0 (1 : Int32) hk_p0 M r2 hr2) rfl rfl (Nat.le_of_ble_eq_true rfl) dL_hands_8 (zrm_k 810 rfl (Nat.le_of_ble_eq_true rfl)) (Nat.le_of_ble_eq_true rfl) (fun r2 hr2 hf => ?_)
  refine r_istore_n (L' := [(3, .int r2), (2, .int r1), (0, .ref p0), (1, .int p1)]) C0 dL_hands_11 rfl (by decide) rfl ?_
  refine r_aload_n C0 dL_hands_12 rfl 2 rfl ?_
  refine r_iconst (v := 0) C0 dL_hands_13 (by decide) ?_
  refine r_callWp C0 (st := []) (kc1 := 3) [.ref p0, .int (0 : Int32)] hf vs_159 (fun hl r3 hr3 => c_L_tryAbout hl F p0 (0 : Int32) hk_p0 M r3 hr3) rfl rfl (Nat.le_of_ble_eq_true rfl) dL_hands_14 (zrm_k 810 rfl (Nat.le_of_ble_eq_true rfl)) (Nat.le_of_ble_eq_true rfl) (fun r3 hr3 hf => ?_)
  refine r_istore (L' := [(4, .int r3), (3, .int r2), (2, .int r1), (0, .ref p0), (1, .int p1)]) C0 dL_hands_17 (by decide) rfl ?_
  refine r_iload_n C0 dL_hands_19 rfl 4 rfl ?_
  refine r_iload_n C0 dL_hands_20 rfl 1 rfl ?_
  refine r_irem C0 dL_hands_21 hf (fun hf => ?_)
  refine r_nm hf (fun x4 hf => ?_)
  refine r_istore (L' := [(5, .int x4), (4, .int r3), (3, .int r2), (2, .int r1), (0, .ref p0), (1, .int p1)]) C0 dL_hands_22 (by decide) rfl ?_
  refine r_iload_n C0 dL_hands_24 rfl 5 rfl ?_
  refine r_iconst (v := 4) C0 dL_hands_25 (by decide) ?_
  refine r_idiv' C0 dL_hands_26 (by decide) ?_
  refine r_iload C0 dL_hands_27 1 rfl ?_
  refine r_irem C0 dL_hands_29 hf (fun hf => ?_)
  refine r_nm hf (fun x5 hf => ?_)
  refine r_istore (L' := [(6, .int x5), (5, .int x4), (4, .int r3), (3, .int r2), (2, .int r1), (0, .ref p0), (1, .int p1)]) C0 dL_hands_30 (by decide) rfl ?_
  refine r_aload_n C0 dL_hands_32 rfl 5 rfl ?_
  refine r_bipush (v := 6) C0 dL_hands_33 (by decide) ?_
  refine r_callWp C0 (st := []) (kc1 := 4) [.ref p0, .int (6 : Int32)] hf vs_159 (fun hl r6 hr6 => c_L_tryAbout hl F p0 (6 : Int32) hk_p0 M r6 hr6) rfl rfl (Nat.le_of_ble_eq_true rfl) dL_hands_35 (zrm_k 810 rfl (Nat.le_of_ble_eq_true rfl)) (Nat.le_of_ble_eq_true rfl) (fun r6 hr6 hf => ?_)
  refine r_istore (L' := [(7, .int r6), (6, .int x5), (5, .int x4), (4, .int r3), (3, .int r2), (2, .int r1), (0, .ref p0), (1, .int p1)]) C0 dL_hands_38 (by decide) rfl ?_
  refine r_iload C0 dL_hands_40 0 rfl ?_
  refine r_iload C0 dL_hands_42 3 rfl ?_
  refine r_icmp_ne C0 52 dL_hands_44 (by decide) hf (fun hf => ?_) (fun hf => ?_)
  · refine r_iload C0 dL_hands_52 0 rfl ?_
    refine r_iconst (v := 1) C0 dL_hands_54 (by decide) ?_
    refine r_iadd C0 dL_hands_55 ?_
    refine r_sub (L' := [(0, .ref p0), (1, .int p1), (2, .int r1), (4, .int r3), (5, .int x4), (6, .int x5), (7, .int r6)]) [6, 7, 5, 3, 2, 1, 0] rfl ?_
    exact g_L_hands_56 C0 F p0 p1 hk_p0 r1 r3 x4 x5 r6 (r6 + (1 : Int32)) M _ hf _ (Nat.le_of_ble_eq_true rfl)
  · refine r_iload C0 dL_hands_47 3 rfl ?_
    refine r_goto C0 56 dL_hands_49 (by decide) ?_
    refine r_sub (L' := [(0, .ref p0), (1, .int p1), (2, .int r1), (4, .int r3), (5, .int x4), (6, .int x5), (7, .int r6)]) [6, 7, 5, 3, 2, 1, 0] rfl ?_
    exact g_L_hands_56 C0 F p0 p1 hk_p0 r1 r3 x4 x5 r6 r3 M _ hf _ (Nat.le_of_ble_eq_true rfl)
set_option maxHeartbeats 4000000 in
set_option maxRecDepth 100000 in
theorem g_L_scripts_281 {Γ : zCx} {E : zEn} {S : zSk} {X : zMl} (C0 : zCt Γ E RL cL_scripts 11 (Option.some Jvm.ClassFile.FieldType.boolean) [] { frames := 9, cells := 49, slots := 294, locals := 208 }) (F : Nat) (p0 : Nat) (p1 : Int32) (hk_p0 : K_X10 S p0)  (v2 : Int32) (v3 : Int32) (v9 : Int32) (s0 : Int32) (M : zMi) (r : Int32 × zMi) (hf : f_L_scripts_281 F p0 p1 v2 v3 v9 s0 M = some r) (kc : Nat) (hkc : kc + (23) ≤ 49) : zG Γ (zQX Γ E 49 294 S (.inr (some (.int r.1)), r.2) X) E 11 kc (6 * kc) S ZT M X 281 [(0, .ref p0), (1, .int p1), (2, .int v2), (3, .int v3), (9, .int v9)] [.int s0] := by
  unfold f_L_scripts_281 at hf
  refine r_istore (L' := [(10, .int s0), (0, .ref p0), (1, .int p1), (2, .int v2), (3, .int v3), (9, .int v9)]) C0 dL_scripts_281 (by decide) rfl ?_
  refine r_iload C0 dL_scripts_283 0 rfl ?_
  refine r_if_eq C0 467 dL_scripts_285 (by decide) hf (fun hf => ?_) (fun hf => ?_)
  · refine r_iconst (v := 0) C0 dL_scripts_467 (by decide) ?_
    obtain rfl := Option.some.inj hf
    refine r_widen (k1 := 49) (s1 := 294) (by omega) (by omega) ?_
    exact rX_zret C0 rfl rfl dL_scripts_468
  · refine r_aload_n C0 dL_scripts_288 rfl 1 rfl ?_
    refine r_iconst (v := 1) C0 dL_scripts_289 (by decide) ?_
    refine r_ldc2 (v := 10000) C0 qw_787 dL_scripts_290 ?_
    refine r_callWw C0 (st := []) (kc1 := kc + 2) [.ref p0, .int (1 : Int32), .long (10000 : Int64)] hf vs_179 (fun hl r1 hr1 => c_L_tryScript hl F p0 (1 : Int32) (10000 : Int64) hk_p0 M r1 hr1) rfl rfl (Nat.le_of_ble_eq_true rfl) dL_scripts_293 (zrm_k 49 rfl (by omega)) (by omega) (fun r1 hr1 hf => ?_)
    refine r_if_ne C0 467 dL_scripts_296 (by decide) hf (fun hf => ?_) (fun hf => ?_)
    · refine r_iconst (v := 0) C0 dL_scripts_467 (by decide) ?_
      obtain rfl := Option.some.inj hf
      refine r_widen (k1 := 49) (s1 := 294) (by omega) (by omega) ?_
      exact rX_zret C0 rfl rfl dL_scripts_468
    · refine r_aload_n C0 dL_scripts_299 rfl 1 rfl ?_
      refine r_iconst (v := 1) C0 dL_scripts_300 (by decide) ?_
      refine r_ldc2 (v := 10999) C0 qw_788 dL_scripts_301 ?_
      refine r_callWw C0 (st := []) (kc1 := kc + 4) [.ref p0, .int (1 : Int32), .long (10999 : Int64)] hf vs_179 (fun hl r2 hr2 => c_L_tryScript hl F p0 (1 : Int32) (10999 : Int64) hk_p0 r1.2 r2 hr2) rfl rfl (Nat.le_of_ble_eq_true rfl) dL_scripts_304 (zrm_k 49 rfl (by omega)) (by omega) (fun r2 hr2 hf => ?_)
      refine r_if_ne C0 467 dL_scripts_307 (by decide) hf (fun hf => ?_) (fun hf => ?_)
      · refine r_iconst (v := 0) C0 dL_scripts_467 (by decide) ?_
        obtain rfl := Option.some.inj hf
        refine r_widen (k1 := 49) (s1 := 294) (by omega) (by omega) ?_
        exact rX_zret C0 rfl rfl dL_scripts_468
      · refine r_aload_n C0 dL_scripts_310 rfl 1 rfl ?_
        refine r_iconst (v := 1) C0 dL_scripts_311 (by decide) ?_
        refine r_ldc2 (v := 20000) C0 qw_784 dL_scripts_312 ?_
        refine r_ldc2 (v := 1000) C0 qw_778 dL_scripts_315 ?_
        refine r_iload_n C0 dL_scripts_318 rfl 4 rfl ?_
        refine r_i2l C0 dL_scripts_319 ?_
        refine r_lmul C0 dL_scripts_320 ?_
        refine r_ladd C0 dL_scripts_321 ?_
        refine r_callWw C0 (st := []) (kc1 := kc + 6) [.ref p0, .int (1 : Int32), .long ((20000 : Int64) + ((1000 : Int64) * (v3).toInt64))] hf vs_179 (fun hl r3 hr3 => c_L_tryScript hl F p0 (1 : Int32) ((20000 : Int64) + ((1000 : Int64) * (v3).toInt64)) hk_p0 r2.2 r3 hr3) rfl rfl (Nat.le_of_ble_eq_true rfl) dL_scripts_322 (zrm_k 49 rfl (by omega)) (by omega) (fun r3 hr3 hf => ?_)
        refine r_if_ne C0 467 dL_scripts_325 (by decide) hf (fun hf => ?_) (fun hf => ?_)
        · refine r_iconst (v := 0) C0 dL_scripts_467 (by decide) ?_
          obtain rfl := Option.some.inj hf
          refine r_widen (k1 := 49) (s1 := 294) (by omega) (by omega) ?_
          exact rX_zret C0 rfl rfl dL_scripts_468
        · refine r_aload_n C0 dL_scripts_328 rfl 1 rfl ?_
          refine r_iconst (v := 1) C0 dL_scripts_329 (by decide) ?_
          refine r_ldc2 (v := 40000) C0 qw_789 dL_scripts_330 ?_
          refine r_callWw C0 (st := []) (kc1 := kc + 8) [.ref p0, .int (1 : Int32), .long (40000 : Int64)] hf vs_179 (fun hl r4 hr4 => c_L_tryScript hl F p0 (1 : Int32) (40000 : Int64) hk_p0 r3.2 r4 hr4) rfl rfl (Nat.le_of_ble_eq_true rfl) dL_scripts_333 (zrm_k 49 rfl (by omega)) (by omega) (fun r4 hr4 hf => ?_)
          refine r_if_ne C0 467 dL_scripts_336 (by decide) hf (fun hf => ?_) (fun hf => ?_)
          · refine r_iconst (v := 0) C0 dL_scripts_467 (by decide) ?_
            obtain rfl := Option.some.inj hf
            refine r_widen (k1 := 49) (s1 := 294) (by omega) (by omega) ?_
            exact rX_zret C0 rfl rfl dL_scripts_468
          · refine r_aload_n C0 dL_scripts_339 rfl 1 rfl ?_
            refine r_iconst (v := 1) C0 dL_scripts_340 (by decide) ?_
            refine r_ldc2 (v := 40100) C0 qw_790 dL_scripts_341 ?_
            refine r_callWw C0 (st := []) (kc1 := kc + 10) [.ref p0, .int (1 : Int32), .long (40100 : Int64)] hf vs_179 (fun hl r5 hr5 => c_L_tryScript hl F p0 (1 : Int32) (40100 : Int64) hk_p0 r4.2 r5 hr5) rfl rfl (Nat.le_of_ble_eq_true rfl) dL_scripts_344 (zrm_k 49 rfl (by omega)) (by omega) (fun r5 hr5 hf => ?_)
            refine r_if_ne C0 467 dL_scripts_347 (by decide) hf (fun hf => ?_) (fun hf => ?_)
            · refine r_iconst (v := 0) C0 dL_scripts_467 (by decide) ?_
              obtain rfl := Option.some.inj hf
              refine r_widen (k1 := 49) (s1 := 294) (by omega) (by omega) ?_
              exact rX_zret C0 rfl rfl dL_scripts_468
            · refine r_aload_n C0 dL_scripts_350 rfl 1 rfl ?_
              refine r_iconst (v := 1) C0 dL_scripts_351 (by decide) ?_
              refine r_ldc2 (v := 40001) C0 qw_791 dL_scripts_352 ?_
              refine r_ldc2 (v := 1000) C0 qw_778 dL_scripts_355 ?_
              refine r_iload_n C0 dL_scripts_358 rfl 3 rfl ?_
              refine r_i2l C0 dL_scripts_359 ?_
              refine r_lmul C0 dL_scripts_360 ?_
              refine r_ladd C0 dL_scripts_361 ?_
              refine r_callWw C0 (st := []) (kc1 := kc + 12) [.ref p0, .int (1 : Int32), .long ((40001 : Int64) + ((1000 : Int64) * (v2).toInt64))] hf vs_179 (fun hl r6 hr6 => c_L_tryScript hl F p0 (1 : Int32) ((40001 : Int64) + ((1000 : Int64) * (v2).toInt64)) hk_p0 r5.2 r6 hr6) rfl rfl (Nat.le_of_ble_eq_true rfl) dL_scripts_362 (zrm_k 49 rfl (by omega)) (by omega) (fun r6 hr6 hf => ?_)
              refine r_if_ne C0 467 dL_scripts_365 (by decide) hf (fun hf => ?_) (fun hf => ?_)
              · refine r_iconst (v := 0) C0 dL_scripts_467 (by decide) ?_
                obtain rfl := Option.some.inj hf
                refine r_widen (k1 := 49) (s1 := 294) (by omega) (by omega) ?_
                exact rX_zret C0 rfl rfl dL_scripts_468
              · refine r_aload_n C0 dL_scripts_368 rfl 1 rfl ?_
                refine r_iconst (v := 1) C0 dL_scripts_369 (by decide) ?_
                refine r_ldc2 (v := 50000) C0 qw_792 dL_scripts_370 ?_
                refine r_callWw C0 (st := []) (kc1 := kc + 14) [.ref p0, .int (1 : Int32), .long (50000 : Int64)] hf vs_179 (fun hl r7 hr7 => c_L_tryScript hl F p0 (1 : Int32) (50000 : Int64) hk_p0 r6.2 r7 hr7) rfl rfl (Nat.le_of_ble_eq_true rfl) dL_scripts_373 (zrm_k 49 rfl (by omega)) (by omega) (fun r7 hr7 hf => ?_)
                refine r_if_ne C0 467 dL_scripts_376 (by decide) hf (fun hf => ?_) (fun hf => ?_)
                · refine r_iconst (v := 0) C0 dL_scripts_467 (by decide) ?_
                  obtain rfl := Option.some.inj hf
                  refine r_widen (k1 := 49) (s1 := 294) (by omega) (by omega) ?_
                  exact rX_zret C0 rfl rfl dL_scripts_468
                · refine r_aload_n C0 dL_scripts_379 rfl 1 rfl ?_
                  refine r_iconst (v := 1) C0 dL_scripts_380 (by decide) ?_
                  refine r_ldc2 (v := 50099) C0 qw_793 dL_scripts_381 ?_
                  refine r_callWw C0 (st := []) (kc1 := kc + 16) [.ref p0, .int (1 : Int32), .long (50099 : Int64)] hf vs_179 (fun hl r8 hr8 => c_L_tryScript hl F p0 (1 : Int32) (50099 : Int64) hk_p0 r7.2 r8 hr8) rfl rfl (Nat.le_of_ble_eq_true rfl) dL_scripts_384 (zrm_k 49 rfl (by omega)) (by omega) (fun r8 hr8 hf => ?_)
                  refine r_bipush (v := -9) C0 dL_scripts_387 (by decide) ?_
                  refine r_icmp_ne C0 467 dL_scripts_389 (by decide) hf (fun hf => ?_) (fun hf => ?_)
                  · refine r_iconst (v := 0) C0 dL_scripts_467 (by decide) ?_
                    obtain rfl := Option.some.inj hf
                    refine r_widen (k1 := 49) (s1 := 294) (by omega) (by omega) ?_
                    exact rX_zret C0 rfl rfl dL_scripts_468
                  · refine r_aload_n C0 dL_scripts_392 rfl 1 rfl ?_
                    refine r_iconst (v := 1) C0 dL_scripts_393 (by decide) ?_
                    refine r_ldc2 (v := 60000) C0 qw_794 dL_scripts_394 ?_
                    refine r_callWw C0 (st := []) (kc1 := kc + 18) [.ref p0, .int (1 : Int32), .long (60000 : Int64)] hf vs_179 (fun hl r9 hr9 => c_L_tryScript hl F p0 (1 : Int32) (60000 : Int64) hk_p0 r8.2 r9 hr9) rfl rfl (Nat.le_of_ble_eq_true rfl) dL_scripts_397 (zrm_k 49 rfl (by omega)) (by omega) (fun r9 hr9 hf => ?_)
                    refine r_if_ne C0 467 dL_scripts_400 (by decide) hf (fun hf => ?_) (fun hf => ?_)
                    · refine r_iconst (v := 0) C0 dL_scripts_467 (by decide) ?_
                      obtain rfl := Option.some.inj hf
                      refine r_widen (k1 := 49) (s1 := 294) (by omega) (by omega) ?_
                      exact rX_zret C0 rfl rfl dL_scripts_468
                    · refine r_aload_n C0 dL_scripts_403 rfl 1 rfl ?_
                      refine r_iconst (v := 1) C0 dL_scripts_404 (by decide) ?_
                      refine r_lconst (v := 0) C0 dL_scripts_405 (by decide) ?_
                      refine r_callWw C0 (st := []) (kc1 := kc + 20) [.ref p0, .int (1 : Int32), .long (0 : Int64)] hf vs_179 (fun hl r10 hr10 => c_L_tryScript hl F p0 (1 : Int32) (0 : Int64) hk_p0 r9.2 r10 hr10) rfl rfl (Nat.le_of_ble_eq_true rfl) dL_scripts_406 (zrm_k 49 rfl (by omega)) (by omega) (fun r10 hr10 hf => ?_)
                      refine r_if_ne C0 467 dL_scripts_409 (by decide) hf (fun hf => ?_) (fun hf => ?_)
                      · refine r_iconst (v := 0) C0 dL_scripts_467 (by decide) ?_
                        obtain rfl := Option.some.inj hf
                        refine r_widen (k1 := 49) (s1 := 294) (by omega) (by omega) ?_
                        exact rX_zret C0 rfl rfl dL_scripts_468
                      · refine r_iload C0 dL_scripts_412 5 rfl ?_
                        refine r_aload_n C0 dL_scripts_414 rfl 1 rfl ?_
                        refine r_iconst (v := 5) C0 dL_scripts_415 (by decide) ?_
                        refine r_callWp C0 (st := [.int v9]) (kc1 := kc + 21) [.ref p0, .int (5 : Int32)] hf vs_159 (fun hl r11 hr11 => c_L_tryAbout hl F p0 (5 : Int32) hk_p0 r10.2 r11 hr11) rfl rfl (Nat.le_of_ble_eq_true rfl) dL_scripts_416 (zrm_k 49 rfl (by omega)) (by omega) (fun r11 hr11 hf => ?_)
                        refine r_bipush (v := 20) C0 dL_scripts_419 (by decide) ?_
                        refine r_iadd C0 dL_scripts_421 ?_
                        refine r_icmp_lt C0 467 dL_scripts_422 (by decide) hf (fun hf => ?_) (fun hf => ?_)
                        · refine r_iconst (v := 0) C0 dL_scripts_467 (by decide) ?_
                          obtain rfl := Option.some.inj hf
                          refine r_widen (k1 := 49) (s1 := 294) (by omega) (by omega) ?_
                          exact rX_zret C0 rfl rfl dL_scripts_468
                        · refine r_iload C0 dL_scripts_425 5 rfl ?_
                          refine r_sipush (v := 1000) C0 dL_scripts_427 (by decide) ?_
                          refine r_irem' C0 dL_scripts_430 (by decide) ?_
                          refine r_aload_n C0 dL_scripts_431 rfl 1 rfl ?_
                          refine r_iconst (v := 5) C0 dL_scripts_432 (by decide) ?_
                          refine r_callWp C0 (st := [.int (v9 - v9 / (1000 : Int32) * (1000 : Int32))]) (kc1 := kc + 22) [.ref p0, .int (5 : Int32)] hf vs_159 (fun hl r12 hr12 => c_L_tryAbout hl F p0 (5 : Int32) hk_p0 r10.2 r12 hr12) rfl rfl (Nat.le_of_ble_eq_true rfl) dL_scripts_433 (zrm_k 49 rfl (by omega)) (by omega) (fun r12 hr12 hf => ?_)
                          refine r_bipush (v := 20) C0 dL_scripts_436 (by decide) ?_
                          refine r_iadd C0 dL_scripts_438 ?_
                          refine r_sipush (v := 1000) C0 dL_scripts_439 (by decide) ?_
                          refine r_irem' C0 dL_scripts_442 (by decide) ?_
                          refine r_icmp_ne C0 467 dL_scripts_443 (by decide) hf (fun hf => ?_) (fun hf => ?_)
                          · refine r_iconst (v := 0) C0 dL_scripts_467 (by decide) ?_
                            obtain rfl := Option.some.inj hf
                            refine r_widen (k1 := 49) (s1 := 294) (by omega) (by omega) ?_
                            exact rX_zret C0 rfl rfl dL_scripts_468
                          · refine r_iload C0 dL_scripts_446 5 rfl ?_
                            refine r_aload_n C0 dL_scripts_448 rfl 1 rfl ?_
                            refine r_iload_n C0 dL_scripts_449 rfl 2 rfl ?_
                            refine r_i2l C0 dL_scripts_450 ?_
                            refine r_ldc2 (v := 163) C0 qw_776 dL_scripts_451 ?_
                            refine r_lmul C0 dL_scripts_454 ?_
                            refine r_bipush (v := 20) C0 dL_scripts_455 (by decide) ?_
                            refine r_callWw C0 (st := [.int v9]) (kc1 := kc + 23) [.ref p0, .long ((p1).toInt64 * (163 : Int64)), .int (20 : Int32)] hf vs_180 (fun hl r13 hr13 => c_L_trySimulate hl F p0 ((p1).toInt64 * (163 : Int64)) (20 : Int32) hk_p0 r10.2 r13 hr13) rfl rfl (Nat.le_of_ble_eq_true rfl) dL_scripts_457 (zrm_k 49 rfl (by omega)) (by omega) (fun r13 hr13 hf => ?_)
                            refine r_icmp_ne C0 467 dL_scripts_460 (by decide) hf (fun hf => ?_) (fun hf => ?_)
                            · refine r_iconst (v := 0) C0 dL_scripts_467 (by decide) ?_
                              obtain rfl := Option.some.inj hf
                              refine r_widen (k1 := 49) (s1 := 294) (by omega) (by omega) ?_
                              exact rX_zret C0 rfl rfl dL_scripts_468
                            · refine r_iconst (v := 1) C0 dL_scripts_463 (by decide) ?_
                              refine r_goto C0 468 dL_scripts_464 (by decide) ?_
                              obtain rfl := Option.some.inj hf
                              refine r_widen (k1 := 49) (s1 := 294) (by omega) (by omega) ?_
                              exact rX_zret C0 rfl rfl dL_scripts_468
set_option maxHeartbeats 4000000 in
set_option maxRecDepth 100000 in
theorem g_L_scripts_254 {Γ : zCx} {E : zEn} {S : zSk} {X : zMl} (C0 : zCt Γ E RL cL_scripts 11 (Option.some Jvm.ClassFile.FieldType.boolean) [] { frames := 9, cells := 49, slots := 294, locals := 208 }) (F : Nat) (p0 : Nat) (p1 : Int32) (hk_p0 : K_X10 S p0)  (v2 : Int32) (v3 : Int32) (v4 : Int32) (v9 : Int32) (s0 : Int32) (s1 : Int32) (M : zMi) (r : Int32 × zMi) (hf : f_L_scripts_254 F p0 p1 v2 v3 v4 v9 s0 s1 M = some r) (kc : Nat) (hkc : kc + (25) ≤ 49) : zG Γ (zQX Γ E 49 294 S (.inr (some (.int r.1)), r.2) X) E 11 kc (6 * kc) S ZT M X 254 [(0, .ref p0), (1, .int p1), (2, .int v2), (3, .int v3), (4, .int v4), (9, .int v9)] [.int s0, .int s1] := by
  unfold f_L_scripts_254 at hf
  refine r_icmp_ne C0 280 dL_scripts_254 (by decide) hf (fun hf => ?_) (fun hf => ?_)
  · refine r_iconst (v := 0) C0 dL_scripts_280 (by decide) ?_
    refine r_sub (L' := [(0, .ref p0), (1, .int p1), (2, .int v2), (3, .int v3), (9, .int v9)]) [0, 1, 2, 3, 5] rfl ?_
    exact g_L_scripts_281 C0 F p0 p1 hk_p0 v2 v3 v9 (0 : Int32) M _ hf _ (by omega)
  · refine r_aload_n C0 dL_scripts_257 rfl 0 rfl ?_
    refine r_iconst (v := 1) C0 dL_scripts_258 (by decide) ?_
    refine r_ldc2 (v := 20001) C0 qw_786 dL_scripts_259 ?_
    refine r_ldc2 (v := 1000) C0 qw_778 dL_scripts_262 ?_
    refine r_iload C0 dL_scripts_265 4 rfl ?_
    refine r_i2l C0 dL_scripts_267 ?_
    refine r_lmul C0 dL_scripts_268 ?_
    refine r_ladd C0 dL_scripts_269 ?_
    refine r_callWw C0 (st := []) (kc1 := kc + 2) [.ref p0, .int (1 : Int32), .long ((20001 : Int64) + ((1000 : Int64) * (v4).toInt64))] hf vs_179 (fun hl r1 hr1 => c_L_tryScript hl F p0 (1 : Int32) ((20001 : Int64) + ((1000 : Int64) * (v4).toInt64)) hk_p0 M r1 hr1) rfl rfl (Nat.le_of_ble_eq_true rfl) dL_scripts_270 (zrm_k 49 rfl (by omega)) (by omega) (fun r1 hr1 hf => ?_)
    refine r_if_ne C0 280 dL_scripts_273 (by decide) hf (fun hf => ?_) (fun hf => ?_)
    · refine r_iconst (v := 0) C0 dL_scripts_280 (by decide) ?_
      refine r_sub (L' := [(0, .ref p0), (1, .int p1), (2, .int v2), (3, .int v3), (9, .int v9)]) [0, 1, 2, 3, 5] rfl ?_
      exact g_L_scripts_281 C0 F p0 p1 hk_p0 v2 v3 v9 (0 : Int32) r1.2 _ hf _ (by omega)
    · refine r_iconst (v := 1) C0 dL_scripts_276 (by decide) ?_
      refine r_goto C0 281 dL_scripts_277 (by decide) ?_
      refine r_sub (L' := [(0, .ref p0), (1, .int p1), (2, .int v2), (3, .int v3), (9, .int v9)]) [0, 1, 2, 3, 5] rfl ?_
      exact g_L_scripts_281 C0 F p0 p1 hk_p0 v2 v3 v9 (1 : Int32) r1.2 _ hf _ (by omega)
