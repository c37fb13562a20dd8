set_option maxHeartbeats 4000000 in
set_option maxRecDepth 100000 in
theorem g_L_days_430 {Γ : zCx} {E : zEn} {S : zSk} {X : zMl} (C0 : zCt Γ E RL cL_days 28 (Option.some Jvm.ClassFile.FieldType.boolean) [] { frames := 10, cells := 7635, slots := 45810, locals := 185 }) (F : Nat) (p0 : Nat) (p1 : Int32) (k_92 : Int32 → Int32 → Int32 → Int32 → Int32 → Int32 → Int32 → Int32 → zMi → Option (Int32 × zMi)) (TK_92 : Nat) (hk_p0 : K_X10 S p0) (hk_k_92 : ∀ (v2_ : Int32) (v3_ : Int32) (v4_ : Int32) (v5_ : Int32) (v6_ : Int32) (v7_ : Int32) (v8_ : Int32) (v9_ : Int32) (M : zMi) (r : Int32 × zMi) , k_92 v2_ v3_ v4_ v5_ v6_ v7_ v8_ v9_ M = some r → ∀ kc : Nat, kc + TK_92 ≤ 7635 → zG Γ (zQX Γ E 7635 45810 S (.inr (some (.int r.1)), r.2) X) E 28 kc (6 * kc) S ZT M X 92 [(0, .ref p0), (2, .int v2_), (3, .int v3_), (4, .int v4_), (5, .int v5_), (6, .int v6_), (7, .int v7_), (8, .int v8_), (9, .int v9_)] [])  (v2 : Int32) (v3 : Int32) (v4 : Int32) (v5 : Int32) (v6 : Int32) (v7 : Int32) (v9 : Int32) (v22 : Int32) (v23 : Int32) (v24 : Int32) (s0 : Int32) (M : zMi) (r : Int32 × zMi) (hf : f_L_days_430 F p0 p1 k_92 v2 v3 v4 v5 v6 v7 v9 v22 v23 v24 s0 M = some r) (kc : Nat) (hkc : kc + (1 + TK_92) ≤ 7635) : zG Γ (zQX Γ E 7635 45810 S (.inr (some (.int r.1)), r.2) X) E 28 kc (6 * kc) S ZT M X 430 [(0, .ref p0), (2, .int v2), (3, .int v3), (4, .int v4), (5, .int v5), (6, .int v6), (7, .int v7), (9, .int v9), (22, .int v22), (23, .int v23), (24, .int v24)] [.int s0] := by
  unfold f_L_days_430 at hf
  refine r_iload C0 dL_days_430 8 rfl ?_
  refine r_if_ne C0 439 dL_days_432 (by decide) hf (fun hf => ?_) (fun hf => ?_)
  · refine r_iconst (v := 0) C0 dL_days_439 (by decide) ?_
    refine r_sub (L' := [(0, .ref p0), (2, .int v2), (3, .int v3), (4, .int v4), (5, .int v5), (6, .int v6), (7, .int v7), (9, .int v9), (23, .int v23), (24, .int v24)]) [0, 1, 2, 3, 4, 5, 6, 7, 9, 10] rfl ?_
    exact g_L_days_440 C0 F p0 p1 k_92 TK_92 hk_p0 hk_k_92 v2 v3 v4 v5 v6 v7 v9 v23 v24 (0 : Int32) s0 M _ hf _ (by omega)
  · refine r_iconst (v := 1) C0 dL_days_435 (by decide) ?_
    refine r_goto C0 440 dL_days_436 (by decide) ?_
    refine r_sub (L' := [(0, .ref p0), (2, .int v2), (3, .int v3), (4, .int v4), (5, .int v5), (6, .int v6), (7, .int v7), (9, .int v9), (23, .int v23), (24, .int v24)]) [0, 1, 2, 3, 4, 5, 6, 7, 9, 10] rfl ?_
    exact g_L_days_440 C0 F p0 p1 k_92 TK_92 hk_p0 hk_k_92 v2 v3 v4 v5 v6 v7 v9 v23 v24 (1 : Int32) s0 M _ hf _ (by omega)
set_option maxHeartbeats 4000000 in
set_option maxRecDepth 100000 in
theorem g_L_days_374 {Γ : zCx} {E : zEn} {S : zSk} {X : zMl} (C0 : zCt Γ E RL cL_days 28 (Option.some Jvm.ClassFile.FieldType.boolean) [] { frames := 10, cells := 7635, slots := 45810, locals := 185 }) (F : Nat) (p0 : Nat) (p1 : Int32) (k_92 : Int32 → Int32 → Int32 → Int32 → Int32 → Int32 → Int32 → Int32 → zMi → Option (Int32 × zMi)) (TK_92 : Nat) (hk_p0 : K_X10 S p0) (hk_k_92 : ∀ (v2_ : Int32) (v3_ : Int32) (v4_ : Int32) (v5_ : Int32) (v6_ : Int32) (v7_ : Int32) (v8_ : Int32) (v9_ : Int32) (M : zMi) (r : Int32 × zMi) , k_92 v2_ v3_ v4_ v5_ v6_ v7_ v8_ v9_ M = some r → ∀ kc : Nat, kc + TK_92 ≤ 7635 → zG Γ (zQX Γ E 7635 45810 S (.inr (some (.int r.1)), r.2) X) E 28 kc (6 * kc) S ZT M X 92 [(0, .ref p0), (2, .int v2_), (3, .int v3_), (4, .int v4_), (5, .int v5_), (6, .int v6_), (7, .int v7_), (8, .int v8_), (9, .int v9_)] [])  (v2 : Int32) (v3 : Int32) (v4 : Int32) (v5 : Int32) (v6 : Int32) (v7 : Int32) (v9 : Int32) (v10 : Int32) (v11 : Int32) (v12 : Int32) (v13 : Int32) (v14 : Int32) (v15 : Int32) (v16 : Int32) (v17 : Int32) (v19 : Int32) (v22 : Int32) (v23 : Int32) (v24 : Int32) (s0 : Int32) (M : zMi) (r : Int32 × zMi) (hf : f_L_days_374 F p0 p1 k_92 v2 v3 v4 v5 v6 v7 v9 v10 v11 v12 v13 v14 v15 v16 v17 v19 v22 v23 v24 s0 M = some r) (kc : Nat) (hkc : kc + (14 + TK_92) ≤ 7635) : zG Γ (zQX Γ E 7635 45810 S (.inr (some (.int r.1)), r.2) X) E 28 kc (6 * kc) S ZT M X 374 [(0, .ref p0), (2, .int v2), (3, .int v3), (4, .int v4), (5, .int v5), (6, .int v6), (7, .int v7), (9, .int v9), (10, .int v10), (11, .int v11), (12, .int v12), (13, .int v13), (14, .int v14), (15, .int v15), (16, .int v16), (17, .int v17), (19, .int v19), (22, .int v22), (23, .int v23), (24, .int v24)] [.int s0] := by
  unfold f_L_days_374 at hf
  refine r_istore (L' := [(8, .int s0), (0, .ref p0), (2, .int v2), (3, .int v3), (4, .int v4), (5, .int v5), (6, .int v6), (7, .int v7), (9, .int v9), (10, .int v10), (11, .int v11), (12, .int v12), (13, .int v13), (14, .int v14), (15, .int v15), (16, .int v16), (17, .int v17), (19, .int v19), (22, .int v22), (23, .int v23), (24, .int v24)]) C0 dL_days_374 (by decide) rfl ?_
  refine r_iload C0 dL_days_376 11 rfl ?_
  refine r_if_eq C0 406 dL_days_378 (by decide) hf (fun hf => ?_) (fun hf => ?_)
  · refine r_iload C0 dL_days_406 13 rfl ?_
    refine r_bipush (v := -9) C0 dL_days_408 (by decide) ?_
    refine r_icmp_ne C0 476 dL_days_410 (by decide) hf (fun hf => ?_) (fun hf => ?_)
    · refine r_iload C0 dL_days_476 14 rfl ?_
      refine r_iconst (v := 2) C0 dL_days_478 (by decide) ?_
      refine r_icmp_ne C0 543 dL_days_479 (by decide) hf (fun hf => ?_) (fun hf => ?_)
      · refine r_iload C0 dL_days_543 14 rfl ?_
        refine r_iconst (v := 1) C0 dL_days_545 (by decide) ?_
        refine r_icmp_ne C0 657 dL_days_546 (by decide) hf (fun hf => ?_) (fun hf => ?_)
        · refine r_aload_n C0 dL_days_657 rfl 1 rfl ?_
          refine r_iload C0 dL_days_658 10 rfl ?_
          refine r_iconst (v := 1) C0 dL_days_660 (by decide) ?_
          refine r_callWp C0 (st := []) (kc1 := kc + 2) [.ref p0, .int v11, .int (1 : Int32)] hf vs_164 (fun hl r1 hr1 => c_L_tryZone hl F p0 v11 (1 : Int32) hk_p0 M r1 hr1) rfl rfl (Nat.le_of_ble_eq_true rfl) dL_days_661 (zrm_k 7635 rfl (by omega)) (by omega) (fun r1 hr1 hf => ?_)
          refine r_istore (L' := [(25, .int r1), (8, .int s0), (0, .ref p0), (2, .int v2), (3, .int v3), (4, .int v4), (5, .int v5), (6, .int v6), (7, .int v7), (9, .int v9), (10, .int v10), (11, .int v11), (12, .int v12), (13, .int v13), (14, .int v14), (15, .int v15), (16, .int v16), (17, .int v17), (19, .int v19), (22, .int v22), (23, .int v23), (24, .int v24)]) C0 dL_days_664 (by decide) rfl ?_
          refine r_aload_n C0 dL_days_666 rfl 2 rfl ?_
          refine r_iload C0 dL_days_667 11 rfl ?_
          refine r_iconst (v := 2) C0 dL_days_669 (by decide) ?_
          refine r_callWp C0 (st := []) (kc1 := kc + 4) [.ref p0, .int v11, .int (2 : Int32)] hf vs_164 (fun hl r2 hr2 => c_L_tryZone hl F p0 v11 (2 : Int32) hk_p0 M r2 hr2) rfl rfl (Nat.le_of_ble_eq_true rfl) dL_days_670 (zrm_k 7635 rfl (by omega)) (by omega) (fun r2 hr2 hf => ?_)
          refine r_istore (L' := [(26, .int r2), (25, .int r1), (8, .int s0), (0, .ref p0), (2, .int v2), (3, .int v3), (4, .int v4), (5, .int v5), (6, .int v6), (7, .int v7), (9, .int v9), (10, .int v10), (11, .int v11), (12, .int v12), (13, .int v13), (14, .int v14), (15, .int v15), (16, .int v16), (17, .int v17), (19, .int v19), (22, .int v22), (23, .int v23), (24, .int v24)]) C0 dL_days_673 (by decide) rfl ?_
          refine r_iload C0 dL_days_675 11 rfl ?_
          refine r_iload C0 dL_days_677 1 rfl ?_
          refine r_icmp_lt C0 705 dL_days_679 (by decide) hf (fun hf => ?_) (fun hf => ?_)
          · refine r_iconst (v := 0) C0 dL_days_705 (by decide) ?_
            refine r_sub (L' := [(0, .ref p0), (2, .int v2), (3, .int v3), (4, .int v4), (5, .int v5), (6, .int v6), (7, .int v7), (8, .int s0), (9, .int v9), (10, .int v10), (11, .int v11), (13, .int v13), (14, .int v14), (23, .int v23), (24, .int v24), (25, .int r1), (26, .int r2)]) [3, 4, 5, 6, 7, 8, 9, 2, 10, 11, 12, 14, 15, 21, 22, 1, 0] rfl ?_
            exact g_L_days_706 C0 F p0 p1 k_92 TK_92 hk_p0 hk_k_92 v2 v3 v4 v5 v6 v7 s0 v9 v10 v11 v13 v14 v23 v24 r1 r2 (0 : Int32) M _ hf _ (by omega)
          · refine r_iload C0 dL_days_682 11 rfl ?_
            refine r_iload C0 dL_days_684 0 rfl ?_
            refine r_icmp_gt C0 705 dL_days_686 (by decide) hf (fun hf => ?_) (fun hf => ?_)
            · refine r_iconst (v := 0) C0 dL_days_705 (by decide) ?_
              refine r_sub (L' := [(0, .ref p0), (2, .int v2), (3, .int v3), (4, .int v4), (5, .int v5), (6, .int v6), (7, .int v7), (8, .int s0), (9, .int v9), (10, .int v10), (11, .int v11), (13, .int v13), (14, .int v14), (23, .int v23), (24, .int v24), (25, .int r1), (26, .int r2)]) [3, 4, 5, 6, 7, 8, 9, 2, 10, 11, 12, 14, 15, 21, 22, 1, 0] rfl ?_
              exact g_L_days_706 C0 F p0 p1 k_92 TK_92 hk_p0 hk_k_92 v2 v3 v4 v5 v6 v7 s0 v9 v10 v11 v13 v14 v23 v24 r1 r2 (0 : Int32) M _ hf _ (by omega)
            · refine r_iload C0 dL_days_689 19 rfl ?_
              refine r_aload_n C0 dL_days_691 rfl 3 rfl ?_
              refine r_iload C0 dL_days_692 15 rfl ?_
              refine r_iconst (v := 2) C0 dL_days_694 (by decide) ?_
              refine r_callWp C0 (st := [.int v19]) (kc1 := kc + 6) [.ref p0, .int v14, .int (2 : Int32)] hf vs_161 (fun hl r3 hr3 => c_L_tryShip hl F p0 v14 (2 : Int32) hk_p0 M r3 hr3) rfl rfl (Nat.le_of_ble_eq_true rfl) dL_days_695 (zrm_k 7635 rfl (by omega)) (by omega) (fun r3 hr3 hf => ?_)
              refine r_icmp_gt C0 705 dL_days_698 (by decide) hf (fun hf => ?_) (fun hf => ?_)
              · refine r_iconst (v := 0) C0 dL_days_705 (by decide) ?_
                refine r_sub (L' := [(0, .ref p0), (2, .int v2), (3, .int v3), (4, .int v4), (5, .int v5), (6, .int v6), (7, .int v7), (8, .int s0), (9, .int v9), (10, .int v10), (11, .int v11), (13, .int v13), (14, .int v14), (23, .int v23), (24, .int v24), (25, .int r1), (26, .int r2)]) [3, 4, 5, 6, 7, 8, 9, 2, 10, 11, 12, 14, 15, 21, 22, 1, 0] rfl ?_
                exact g_L_days_706 C0 F p0 p1 k_92 TK_92 hk_p0 hk_k_92 v2 v3 v4 v5 v6 v7 s0 v9 v10 v11 v13 v14 v23 v24 r1 r2 (0 : Int32) M _ hf _ (by omega)
              · refine r_iconst (v := 1) C0 dL_days_701 (by decide) ?_
                refine r_goto C0 706 dL_days_702 (by decide) ?_
                refine r_sub (L' := [(0, .ref p0), (2, .int v2), (3, .int v3), (4, .int v4), (5, .int v5), (6, .int v6), (7, .int v7), (8, .int s0), (9, .int v9), (10, .int v10), (11, .int v11), (13, .int v13), (14, .int v14), (23, .int v23), (24, .int v24), (25, .int r1), (26, .int r2)]) [3, 4, 5, 6, 7, 8, 9, 2, 10, 11, 12, 14, 15, 21, 22, 1, 0] rfl ?_
                exact g_L_days_706 C0 F p0 p1 k_92 TK_92 hk_p0 hk_k_92 v2 v3 v4 v5 v6 v7 s0 v9 v10 v11 v13 v14 v23 v24 r1 r2 (1 : Int32) M _ hf _ (by omega)
        · refine r_iload C0 dL_days_549 0 rfl ?_
          refine r_if_eq C0 651 dL_days_551 (by decide) hf (fun hf => ?_) (fun hf => ?_)
          · refine r_iconst (v := 0) C0 dL_days_651 (by decide) ?_
            refine r_istore (L' := [(8, .int (0 : Int32)), (0, .ref p0), (2, .int v2), (3, .int v3), (4, .int v4), (5, .int v5), (6, .int v6), (7, .int v7), (9, .int v9), (10, .int v10), (11, .int v11), (12, .int v12), (13, .int v13), (14, .int v14), (15, .int v15), (16, .int v16), (17, .int v17), (19, .int v19), (22, .int v22), (23, .int v23), (24, .int v24)]) C0 dL_days_652 (by decide) rfl ?_
            refine r_goto C0 898 dL_days_654 (by decide) ?_
            refine r_iinc (j := 8) (v := (v9 + (1 : Int32))) (L' := [(9, .int (v9 + (1 : Int32))), (8, .int (0 : Int32)), (0, .ref p0), (2, .int v2), (3, .int v3), (4, .int v4), (5, .int v5), (6, .int v6), (7, .int v7), (10, .int v10), (11, .int v11), (12, .int v12), (13, .int v13), (14, .int v14), (15, .int v15), (16, .int v16), (17, .int v17), (19, .int v19), (22, .int v22), (23, .int v23), (24, .int v24)]) C0 dL_days_898 rfl rfl (by decide) rfl ?_
            refine r_goto C0 92 dL_days_901 (by decide) ?_
            refine r_sub (L' := [(0, .ref p0), (2, .int v2), (3, .int v3), (4, .int v4), (5, .int v5), (6, .int v6), (7, .int v7), (8, .int (0 : Int32)), (9, .int (v9 + (1 : Int32)))]) [2, 3, 4, 5, 6, 7, 8, 1, 0] rfl ?_
            exact hk_k_92 v2 v3 v4 v5 v6 v7 (0 : Int32) (v9 + (1 : Int32)) M _ hf _ (by omega)
          · refine r_iload C0 dL_days_554 19 rfl ?_
            refine r_if_ne C0 651 dL_days_556 (by decide) hf (fun hf => ?_) (fun hf => ?_)
            · refine r_iconst (v := 0) C0 dL_days_651 (by decide) ?_
              refine r_istore (L' := [(8, .int (0 : Int32)), (0, .ref p0), (2, .int v2), (3, .int v3), (4, .int v4), (5, .int v5), (6, .int v6), (7, .int v7), (9, .int v9), (10, .int v10), (11, .int v11), (12, .int v12), (13, .int v13), (14, .int v14), (15, .int v15), (16, .int v16), (17, .int v17), (19, .int v19), (22, .int v22), (23, .int v23), (24, .int v24)]) C0 dL_days_652 (by decide) rfl ?_
              refine r_goto C0 898 dL_days_654 (by decide) ?_
              refine r_iinc (j := 8) (v := (v9 + (1 : Int32))) (L' := [(9, .int (v9 + (1 : Int32))), (8, .int (0 : Int32)), (0, .ref p0), (2, .int v2), (3, .int v3), (4, .int v4), (5, .int v5), (6, .int v6), (7, .int v7), (10, .int v10), (11, .int v11), (12, .int v12), (13, .int v13), (14, .int v14), (15, .int v15), (16, .int v16), (17, .int v17), (19, .int v19), (22, .int v22), (23, .int v23), (24, .int v24)]) C0 dL_days_898 rfl rfl (by decide) rfl ?_
              refine r_goto C0 92 dL_days_901 (by decide) ?_
              refine r_sub (L' := [(0, .ref p0), (2, .int v2), (3, .int v3), (4, .int v4), (5, .int v5), (6, .int v6), (7, .int v7), (8, .int (0 : Int32)), (9, .int (v9 + (1 : Int32)))]) [2, 3, 4, 5, 6, 7, 8, 1, 0] rfl ?_
              exact hk_k_92 v2 v3 v4 v5 v6 v7 (0 : Int32) (v9 + (1 : Int32)) M _ hf _ (by omega)
            · refine r_iload C0 dL_days_559 20 rfl ?_
              refine r_iconst (v := 5) C0 dL_days_561 (by decide) ?_
              refine r_icmp_eq C0 576 dL_days_562 (by decide) hf (fun hf => ?_) (fun hf => ?_)
              · refine r_sub (L' := [(0, .ref p0), (2, .int v2), (3, .int v3), (4, .int v4), (5, .int v5), (6, .int v6), (7, .int v7), (9, .int v9), (17, .int v17), (24, .int v24)]) [1, 2, 3, 4, 5, 6, 7, 8, 16, 20] rfl ?_
                exact g_L_days_576 C0 F p0 p1 k_92 TK_92 hk_p0 hk_k_92 v2 v3 v4 v5 v6 v7 v9 v17 v24 M _ hf _ (by omega)
              · refine r_iload C0 dL_days_565 20 rfl ?_
                refine r_if_ne C0 651 dL_days_567 (by decide) hf (fun hf => ?_) (fun hf => ?_)
                · refine r_iconst (v := 0) C0 dL_days_651 (by decide) ?_
                  refine r_istore (L' := [(8, .int (0 : Int32)), (0, .ref p0), (2, .int v2), (3, .int v3), (4, .int v4), (5, .int v5), (6, .int v6), (7, .int v7), (9, .int v9), (10, .int v10), (11, .int v11), (12, .int v12), (13, .int v13), (14, .int v14), (15, .int v15), (16, .int v16), (17, .int v17), (19, .int v19), (22, .int v22), (23, .int v23), (24, .int v24)]) C0 dL_days_652 (by decide) rfl ?_
                  refine r_goto C0 898 dL_days_654 (by decide) ?_
                  refine r_iinc (j := 8) (v := (v9 + (1 : Int32))) (L' := [(9, .int (v9 + (1 : Int32))), (8, .int (0 : Int32)), (0, .ref p0), (2, .int v2), (3, .int v3), (4, .int v4), (5, .int v5), (6, .int v6), (7, .int v7), (10, .int v10), (11, .int v11), (12, .int v12), (13, .int v13), (14, .int v14), (15, .int v15), (16, .int v16), (17, .int v17), (19, .int v19), (22, .int v22), (23, .int v23), (24, .int v24)]) C0 dL_days_898 rfl rfl (by decide) rfl ?_
                  refine r_goto C0 92 dL_days_901 (by decide) ?_
                  refine r_sub (L' := [(0, .ref p0), (2, .int v2), (3, .int v3), (4, .int v4), (5, .int v5), (6, .int v6), (7, .int v7), (8, .int (0 : Int32)), (9, .int (v9 + (1 : Int32)))]) [2, 3, 4, 5, 6, 7, 8, 1, 0] rfl ?_
                  exact hk_k_92 v2 v3 v4 v5 v6 v7 (0 : Int32) (v9 + (1 : Int32)) M _ hf _ (by omega)
                · refine r_iload C0 dL_days_570 17 rfl ?_
                  refine r_iconst (v := 3) C0 dL_days_572 (by decide) ?_
                  refine r_icmp_gt C0 651 dL_days_573 (by decide) hf (fun hf => ?_) (fun hf => ?_)
                  · refine r_iconst (v := 0) C0 dL_days_651 (by decide) ?_
                    refine r_istore (L' := [(8, .int (0 : Int32)), (0, .ref p0), (2, .int v2), (3, .int v3), (4, .int v4), (5, .int v5), (6, .int v6), (7, .int v7), (9, .int v9), (10, .int v10), (11, .int v11), (12, .int v12), (13, .int v13), (14, .int v14), (15, .int v15), (16, .int v16), (17, .int v17), (19, .int v19), (22, .int v22), (23, .int v23), (24, .int v24)]) C0 dL_days_652 (by decide) rfl ?_
                    refine r_goto C0 898 dL_days_654 (by decide) ?_
                    refine r_iinc (j := 8) (v := (v9 + (1 : Int32))) (L' := [(9, .int (v9 + (1 : Int32))), (8, .int (0 : Int32)), (0, .ref p0), (2, .int v2), (3, .int v3), (4, .int v4), (5, .int v5), (6, .int v6), (7, .int v7), (10, .int v10), (11, .int v11), (12, .int v12), (13, .int v13), (14, .int v14), (15, .int v15), (16, .int v16), (17, .int v17), (19, .int v19), (22, .int v22), (23, .int v23), (24, .int v24)]) C0 dL_days_898 rfl rfl (by decide) rfl ?_
                    refine r_goto C0 92 dL_days_901 (by decide) ?_
                    refine r_sub (L' := [(0, .ref p0), (2, .int v2), (3, .int v3), (4, .int v4), (5, .int v5), (6, .int v6), (7, .int v7), (8, .int (0 : Int32)), (9, .int (v9 + (1 : Int32)))]) [2, 3, 4, 5, 6, 7, 8, 1, 0] rfl ?_
                    exact hk_k_92 v2 v3 v4 v5 v6 v7 (0 : Int32) (v9 + (1 : Int32)) M _ hf _ (by omega)
                  · refine r_sub (L' := [(0, .ref p0), (2, .int v2), (3, .int v3), (4, .int v4), (5, .int v5), (6, .int v6), (7, .int v7), (9, .int v9), (17, .int v17), (24, .int v24)]) [1, 2, 3, 4, 5, 6, 7, 8, 16, 20] rfl ?_
                    exact g_L_days_576 C0 F p0 p1 k_92 TK_92 hk_p0 hk_k_92 v2 v3 v4 v5 v6 v7 v9 v17 v24 M _ hf _ (by omega)
      · refine r_iload C0 dL_days_482 0 rfl ?_
        refine r_if_eq C0 537 dL_days_484 (by decide) hf (fun hf => ?_) (fun hf => ?_)
        · refine r_iconst (v := 0) C0 dL_days_537 (by decide) ?_
          refine r_istore (L' := [(8, .int (0 : Int32)), (0, .ref p0), (2, .int v2), (3, .int v3), (4, .int v4), (5, .int v5), (6, .int v6), (7, .int v7), (9, .int v9), (10, .int v10), (11, .int v11), (12, .int v12), (13, .int v13), (14, .int v14), (15, .int v15), (16, .int v16), (17, .int v17), (19, .int v19), (22, .int v22), (23, .int v23), (24, .int v24)]) C0 dL_days_538 (by decide) rfl ?_
          refine r_goto C0 898 dL_days_540 (by decide) ?_
          refine r_iinc (j := 8) (v := (v9 + (1 : Int32))) (L' := [(9, .int (v9 + (1 : Int32))), (8, .int (0 : Int32)), (0, .ref p0), (2, .int v2), (3, .int v3), (4, .int v4), (5, .int v5), (6, .int v6), (7, .int v7), (10, .int v10), (11, .int v11), (12, .int v12), (13, .int v13), (14, .int v14), (15, .int v15), (16, .int v16), (17, .int v17), (19, .int v19), (22, .int v22), (23, .int v23), (24, .int v24)]) C0 dL_days_898 rfl rfl (by decide) rfl ?_
          refine r_goto C0 92 dL_days_901 (by decide) ?_
          refine r_sub (L' := [(0, .ref p0), (2, .int v2), (3, .int v3), (4, .int v4), (5, .int v5), (6, .int v6), (7, .int v7), (8, .int (0 : Int32)), (9, .int (v9 + (1 : Int32)))]) [2, 3, 4, 5, 6, 7, 8, 1, 0] rfl ?_
          exact hk_k_92 v2 v3 v4 v5 v6 v7 (0 : Int32) (v9 + (1 : Int32)) M _ hf _ (by omega)
        · refine r_iload C0 dL_days_487 20 rfl ?_
          refine r_if_ne C0 537 dL_days_489 (by decide) hf (fun hf => ?_) (fun hf => ?_)
          · refine r_iconst (v := 0) C0 dL_days_537 (by decide) ?_
            refine r_istore (L' := [(8, .int (0 : Int32)), (0, .ref p0), (2, .int v2), (3, .int v3), (4, .int v4), (5, .int v5), (6, .int v6), (7, .int v7), (9, .int v9), (10, .int v10), (11, .int v11), (12, .int v12), (13, .int v13), (14, .int v14), (15, .int v15), (16, .int v16), (17, .int v17), (19, .int v19), (22, .int v22), (23, .int v23), (24, .int v24)]) C0 dL_days_538 (by decide) rfl ?_
            refine r_goto C0 898 dL_days_540 (by decide) ?_
            refine r_iinc (j := 8) (v := (v9 + (1 : Int32))) (L' := [(9, .int (v9 + (1 : Int32))), (8, .int (0 : Int32)), (0, .ref p0), (2, .int v2), (3, .int v3), (4, .int v4), (5, .int v5), (6, .int v6), (7, .int v7), (10, .int v10), (11, .int v11), (12, .int v12), (13, .int v13), (14, .int v14), (15, .int v15), (16, .int v16), (17, .int v17), (19, .int v19), (22, .int v22), (23, .int v23), (24, .int v24)]) C0 dL_days_898 rfl rfl (by decide) rfl ?_
            refine r_goto C0 92 dL_days_901 (by decide) ?_
            refine r_sub (L' := [(0, .ref p0), (2, .int v2), (3, .int v3), (4, .int v4), (5, .int v5), (6, .int v6), (7, .int v7), (8, .int (0 : Int32)), (9, .int (v9 + (1 : Int32)))]) [2, 3, 4, 5, 6, 7, 8, 1, 0] rfl ?_
            exact hk_k_92 v2 v3 v4 v5 v6 v7 (0 : Int32) (v9 + (1 : Int32)) M _ hf _ (by omega)
          · refine r_iload C0 dL_days_492 19 rfl ?_
            refine r_if_ne C0 537 dL_days_494 (by decide) hf (fun hf => ?_) (fun hf => ?_)
            · refine r_iconst (v := 0) C0 dL_days_537 (by decide) ?_
              refine r_istore (L' := [(8, .int (0 : Int32)), (0, .ref p0), (2, .int v2), (3, .int v3), (4, .int v4), (5, .int v5), (6, .int v6), (7, .int v7), (9, .int v9), (10, .int v10), (11, .int v11), (12, .int v12), (13, .int v13), (14, .int v14), (15, .int v15), (16, .int v16), (17, .int v17), (19, .int v19), (22, .int v22), (23, .int v23), (24, .int v24)]) C0 dL_days_538 (by decide) rfl ?_
              refine r_goto C0 898 dL_days_540 (by decide) ?_
              refine r_iinc (j := 8) (v := (v9 + (1 : Int32))) (L' := [(9, .int (v9 + (1 : Int32))), (8, .int (0 : Int32)), (0, .ref p0), (2, .int v2), (3, .int v3), (4, .int v4), (5, .int v5), (6, .int v6), (7, .int v7), (10, .int v10), (11, .int v11), (12, .int v12), (13, .int v13), (14, .int v14), (15, .int v15), (16, .int v16), (17, .int v17), (19, .int v19), (22, .int v22), (23, .int v23), (24, .int v24)]) C0 dL_days_898 rfl rfl (by decide) rfl ?_
              refine r_goto C0 92 dL_days_901 (by decide) ?_
              refine r_sub (L' := [(0, .ref p0), (2, .int v2), (3, .int v3), (4, .int v4), (5, .int v5), (6, .int v6), (7, .int v7), (8, .int (0 : Int32)), (9, .int (v9 + (1 : Int32)))]) [2, 3, 4, 5, 6, 7, 8, 1, 0] rfl ?_
              exact hk_k_92 v2 v3 v4 v5 v6 v7 (0 : Int32) (v9 + (1 : Int32)) M _ hf _ (by omega)
            · refine r_aload_n C0 dL_days_497 rfl 1 rfl ?_
              refine r_bipush (v := 11) C0 dL_days_498 (by decide) ?_
              refine r_callWp C0 (st := []) (kc1 := kc + 1) [.ref p0, .int (11 : Int32)] hf vs_159 (fun hl r4 hr4 => c_L_tryAbout hl F p0 (11 : Int32) hk_p0 M r4 hr4) rfl rfl (Nat.le_of_ble_eq_true rfl) dL_days_500 (zrm_k 7635 rfl (by omega)) (by omega) (fun r4 hr4 hf => ?_)
              refine r_iload C0 dL_days_503 15 rfl ?_
              refine r_iconst (v := 1) C0 dL_days_505 (by decide) ?_
              refine r_isub C0 dL_days_506 ?_
              refine r_icmp_ne C0 537 dL_days_507 (by decide) hf (fun hf => ?_) (fun hf => ?_)
              · refine r_iconst (v := 0) C0 dL_days_537 (by decide) ?_
                refine r_istore (L' := [(8, .int (0 : Int32)), (0, .ref p0), (2, .int v2), (3, .int v3), (4, .int v4), (5, .int v5), (6, .int v6), (7, .int v7), (9, .int v9), (10, .int v10), (11, .int v11), (12, .int v12), (13, .int v13), (14, .int v14), (15, .int v15), (16, .int v16), (17, .int v17), (19, .int v19), (22, .int v22), (23, .int v23), (24, .int v24)]) C0 dL_days_538 (by decide) rfl ?_
                refine r_goto C0 898 dL_days_540 (by decide) ?_
                refine r_iinc (j := 8) (v := (v9 + (1 : Int32))) (L' := [(9, .int (v9 + (1 : Int32))), (8, .int (0 : Int32)), (0, .ref p0), (2, .int v2), (3, .int v3), (4, .int v4), (5, .int v5), (6, .int v6), (7, .int v7), (10, .int v10), (11, .int v11), (12, .int v12), (13, .int v13), (14, .int v14), (15, .int v15), (16, .int v16), (17, .int v17), (19, .int v19), (22, .int v22), (23, .int v23), (24, .int v24)]) C0 dL_days_898 rfl rfl (by decide) rfl ?_
                refine r_goto C0 92 dL_days_901 (by decide) ?_
                refine r_sub (L' := [(0, .ref p0), (2, .int v2), (3, .int v3), (4, .int v4), (5, .int v5), (6, .int v6), (7, .int v7), (8, .int (0 : Int32)), (9, .int (v9 + (1 : Int32)))]) [2, 3, 4, 5, 6, 7, 8, 1, 0] rfl ?_
                exact hk_k_92 v2 v3 v4 v5 v6 v7 (0 : Int32) (v9 + (1 : Int32)) M _ hf _ (by omega)
              · refine r_aload_n C0 dL_days_510 rfl 1 rfl ?_
                refine r_bipush (v := 12) C0 dL_days_511 (by decide) ?_
                refine r_callWp C0 (st := []) (kc1 := kc + 2) [.ref p0, .int (12 : Int32)] hf vs_159 (fun hl r5 hr5 => c_L_tryAbout hl F p0 (12 : Int32) hk_p0 M r5 hr5) rfl rfl (Nat.le_of_ble_eq_true rfl) dL_days_513 (zrm_k 7635 rfl (by omega)) (by omega) (fun r5 hr5 hf => ?_)
                refine r_iload C0 dL_days_516 16 rfl ?_
                refine r_iload C0 dL_days_518 15 rfl ?_
                refine r_iconst (v := 1) C0 dL_days_520 (by decide) ?_
                refine r_icmp_ne C0 528 dL_days_521 (by decide) hf (fun hf => ?_) (fun hf => ?_)
                · refine r_iconst (v := 0) C0 dL_days_528 (by decide) ?_
                  refine r_sub (L' := [(0, .ref p0), (2, .int v2), (3, .int v3), (4, .int v4), (5, .int v5), (6, .int v6), (7, .int v7), (9, .int v9)]) [1, 2, 3, 4, 5, 6, 7, 8] rfl ?_
                  exact g_L_days_529 C0 F p0 p1 k_92 TK_92 hk_p0 hk_k_92 v2 v3 v4 v5 v6 v7 v9 (0 : Int32) v17 r5 M _ hf _ (by omega)
                · refine r_iconst (v := 1) C0 dL_days_524 (by decide) ?_
                  refine r_goto C0 529 dL_days_525 (by decide) ?_
                  refine r_sub (L' := [(0, .ref p0), (2, .int v2), (3, .int v3), (4, .int v4), (5, .int v5), (6, .int v6), (7, .int v7), (9, .int v9)]) [1, 2, 3, 4, 5, 6, 7, 8] rfl ?_
                  exact g_L_days_529 C0 F p0 p1 k_92 TK_92 hk_p0 hk_k_92 v2 v3 v4 v5 v6 v7 v9 (1 : Int32) v17 r5 M _ hf _ (by omega)
    · refine r_iload C0 dL_days_413 0 rfl ?_
      refine r_if_eq C0 470 dL_days_415 (by decide) hf (fun hf => ?_) (fun hf => ?_)
      · refine r_iconst (v := 0) C0 dL_days_470 (by decide) ?_
        refine r_istore (L' := [(8, .int (0 : Int32)), (0, .ref p0), (2, .int v2), (3, .int v3), (4, .int v4), (5, .int v5), (6, .int v6), (7, .int v7), (9, .int v9), (10, .int v10), (11, .int v11), (12, .int v12), (13, .int v13), (14, .int v14), (15, .int v15), (16, .int v16), (17, .int v17), (19, .int v19), (22, .int v22), (23, .int v23), (24, .int v24)]) C0 dL_days_471 (by decide) rfl ?_
        refine r_goto C0 898 dL_days_473 (by decide) ?_
        refine r_iinc (j := 8) (v := (v9 + (1 : Int32))) (L' := [(9, .int (v9 + (1 : Int32))), (8, .int (0 : Int32)), (0, .ref p0), (2, .int v2), (3, .int v3), (4, .int v4), (5, .int v5), (6, .int v6), (7, .int v7), (10, .int v10), (11, .int v11), (12, .int v12), (13, .int v13), (14, .int v14), (15, .int v15), (16, .int v16), (17, .int v17), (19, .int v19), (22, .int v22), (23, .int v23), (24, .int v24)]) C0 dL_days_898 rfl rfl (by decide) rfl ?_
        refine r_goto C0 92 dL_days_901 (by decide) ?_
        refine r_sub (L' := [(0, .ref p0), (2, .int v2), (3, .int v3), (4, .int v4), (5, .int v5), (6, .int v6), (7, .int v7), (8, .int (0 : Int32)), (9, .int (v9 + (1 : Int32)))]) [2, 3, 4, 5, 6, 7, 8, 1, 0] rfl ?_
        exact hk_k_92 v2 v3 v4 v5 v6 v7 (0 : Int32) (v9 + (1 : Int32)) M _ hf _ (by omega)
      · refine r_iload C0 dL_days_418 20 rfl ?_
        refine r_bipush (v := 6) C0 dL_days_420 (by decide) ?_
        refine r_icmp_ne C0 429 dL_days_422 (by decide) hf (fun hf => ?_) (fun hf => ?_)
        · refine r_iconst (v := 0) C0 dL_days_429 (by decide) ?_
          refine r_sub (L' := [(0, .ref p0), (2, .int v2), (3, .int v3), (4, .int v4), (5, .int v5), (6, .int v6), (7, .int v7), (9, .int v9), (22, .int v22), (23, .int v23), (24, .int v24)]) [1, 2, 3, 4, 5, 6, 7, 8, 18, 19, 20] rfl ?_
          exact g_L_days_430 C0 F p0 p1 k_92 TK_92 hk_p0 hk_k_92 v2 v3 v4 v5 v6 v7 v9 v22 v23 v24 (0 : Int32) M _ hf _ (by omega)
        · refine r_iconst (v := 1) C0 dL_days_425 (by decide) ?_
          refine r_goto C0 430 dL_days_426 (by decide) ?_
          refine r_sub (L' := [(0, .ref p0), (2, .int v2), (3, .int v3), (4, .int v4), (5, .int v5), (6, .int v6), (7, .int v7), (9, .int v9), (22, .int v22), (23, .int v23), (24, .int v24)]) [1, 2, 3, 4, 5, 6, 7, 8, 18, 19, 20] rfl ?_
          exact g_L_days_430 C0 F p0 p1 k_92 TK_92 hk_p0 hk_k_92 v2 v3 v4 v5 v6 v7 v9 v22 v23 v24 (1 : Int32) M _ hf _ (by omega)
  · refine r_iload C0 dL_days_381 0 rfl ?_
    refine r_if_eq C0 400 dL_days_383 (by decide) hf (fun hf => ?_) (fun hf => ?_)
    · refine r_iconst (v := 0) C0 dL_days_400 (by decide) ?_
      refine r_istore (L' := [(8, .int (0 : Int32)), (0, .ref p0), (2, .int v2), (3, .int v3), (4, .int v4), (5, .int v5), (6, .int v6), (7, .int v7), (9, .int v9), (10, .int v10), (11, .int v11), (12, .int v12), (13, .int v13), (14, .int v14), (15, .int v15), (16, .int v16), (17, .int v17), (19, .int v19), (22, .int v22), (23, .int v23), (24, .int v24)]) C0 dL_days_401 (by decide) rfl ?_
      refine r_goto C0 898 dL_days_403 (by decide) ?_
      refine r_iinc (j := 8) (v := (v9 + (1 : Int32))) (L' := [(9, .int (v9 + (1 : Int32))), (8, .int (0 : Int32)), (0, .ref p0), (2, .int v2), (3, .int v3), (4, .int v4), (5, .int v5), (6, .int v6), (7, .int v7), (10, .int v10), (11, .int v11), (12, .int v12), (13, .int v13), (14, .int v14), (15, .int v15), (16, .int v16), (17, .int v17), (19, .int v19), (22, .int v22), (23, .int v23), (24, .int v24)]) C0 dL_days_898 rfl rfl (by decide) rfl ?_
      refine r_goto C0 92 dL_days_901 (by decide) ?_
      refine r_sub (L' := [(0, .ref p0), (2, .int v2), (3, .int v3), (4, .int v4), (5, .int v5), (6, .int v6), (7, .int v7), (8, .int (0 : Int32)), (9, .int (v9 + (1 : Int32)))]) [2, 3, 4, 5, 6, 7, 8, 1, 0] rfl ?_
      exact hk_k_92 v2 v3 v4 v5 v6 v7 (0 : Int32) (v9 + (1 : Int32)) M _ hf _ (by omega)
    · refine r_iload C0 dL_days_386 20 rfl ?_
      refine r_if_ne C0 400 dL_days_388 (by decide) hf (fun hf => ?_) (fun hf => ?_)
      · refine r_iconst (v := 0) C0 dL_days_400 (by decide) ?_
        refine r_istore (L' := [(8, .int (0 : Int32)), (0, .ref p0), (2, .int v2), (3, .int v3), (4, .int v4), (5, .int v5), (6, .int v6), (7, .int v7), (9, .int v9), (10, .int v10), (11, .int v11), (12, .int v12), (13, .int v13), (14, .int v14), (15, .int v15), (16, .int v16), (17, .int v17), (19, .int v19), (22, .int v22), (23, .int v23), (24, .int v24)]) C0 dL_days_401 (by decide) rfl ?_
        refine r_goto C0 898 dL_days_403 (by decide) ?_
        refine r_iinc (j := 8) (v := (v9 + (1 : Int32))) (L' := [(9, .int (v9 + (1 : Int32))), (8, .int (0 : Int32)), (0, .ref p0), (2, .int v2), (3, .int v3), (4, .int v4), (5, .int v5), (6, .int v6), (7, .int v7), (10, .int v10), (11, .int v11), (12, .int v12), (13, .int v13), (14, .int v14), (15, .int v15), (16, .int v16), (17, .int v17), (19, .int v19), (22, .int v22), (23, .int v23), (24, .int v24)]) C0 dL_days_898 rfl rfl (by decide) rfl ?_
        refine r_goto C0 92 dL_days_901 (by decide) ?_
        refine r_sub (L' := [(0, .ref p0), (2, .int v2), (3, .int v3), (4, .int v4), (5, .int v5), (6, .int v6), (7, .int v7), (8, .int (0 : Int32)), (9, .int (v9 + (1 : Int32)))]) [2, 3, 4, 5, 6, 7, 8, 1, 0] rfl ?_
        exact hk_k_92 v2 v3 v4 v5 v6 v7 (0 : Int32) (v9 + (1 : Int32)) M _ hf _ (by omega)
      · refine r_iload C0 dL_days_391 19 rfl ?_
        refine r_if_ne C0 400 dL_days_393 (by decide) hf (fun hf => ?_) (fun hf => ?_)
        · refine r_iconst (v := 0) C0 dL_days_400 (by decide) ?_
          refine r_istore (L' := [(8, .int (0 : Int32)), (0, .ref p0), (2, .int v2), (3, .int v3), (4, .int v4), (5, .int v5), (6, .int v6), (7, .int v7), (9, .int v9), (10, .int v10), (11, .int v11), (12, .int v12), (13, .int v13), (14, .int v14), (15, .int v15), (16, .int v16), (17, .int v17), (19, .int v19), (22, .int v22), (23, .int v23), (24, .int v24)]) C0 dL_days_401 (by decide) rfl ?_
          refine r_goto C0 898 dL_days_403 (by decide) ?_
          refine r_iinc (j := 8) (v := (v9 + (1 : Int32))) (L' := [(9, .int (v9 + (1 : Int32))), (8, .int (0 : Int32)), (0, .ref p0), (2, .int v2), (3, .int v3), (4, .int v4), (5, .int v5), (6, .int v6), (7, .int v7), (10, .int v10), (11, .int v11), (12, .int v12), (13, .int v13), (14, .int v14), (15, .int v15), (16, .int v16), (17, .int v17), (19, .int v19), (22, .int v22), (23, .int v23), (24, .int v24)]) C0 dL_days_898 rfl rfl (by decide) rfl ?_
          refine r_goto C0 92 dL_days_901 (by decide) ?_
          refine r_sub (L' := [(0, .ref p0), (2, .int v2), (3, .int v3), (4, .int v4), (5, .int v5), (6, .int v6), (7, .int v7), (8, .int (0 : Int32)), (9, .int (v9 + (1 : Int32)))]) [2, 3, 4, 5, 6, 7, 8, 1, 0] rfl ?_
          exact hk_k_92 v2 v3 v4 v5 v6 v7 (0 : Int32) (v9 + (1 : Int32)) M _ hf _ (by omega)
        · refine r_iconst (v := 1) C0 dL_days_396 (by decide) ?_
          refine r_goto C0 401 dL_days_397 (by decide) ?_
          refine r_istore (L' := [(8, .int (1 : Int32)), (0, .ref p0), (2, .int v2), (3, .int v3), (4, .int v4), (5, .int v5), (6, .int v6), (7, .int v7), (9, .int v9), (10, .int v10), (11, .int v11), (12, .int v12), (13, .int v13), (14, .int v14), (15, .int v15), (16, .int v16), (17, .int v17), (19, .int v19), (22, .int v22), (23, .int v23), (24, .int v24)]) C0 dL_days_401 (by decide) rfl ?_
          refine r_goto C0 898 dL_days_403 (by decide) ?_
          refine r_iinc (j := 8) (v := (v9 + (1 : Int32))) (L' := [(9, .int (v9 + (1 : Int32))), (8, .int (1 : Int32)), (0, .ref p0), (2, .int v2), (3, .int v3), (4, .int v4), (5, .int v5), (6, .int v6), (7, .int v7), (10, .int v10), (11, .int v11), (12, .int v12), (13, .int v13), (14, .int v14), (15, .int v15), (16, .int v16), (17, .int v17), (19, .int v19), (22, .int v22), (23, .int v23), (24, .int v24)]) C0 dL_days_898 rfl rfl (by decide) rfl ?_
          refine r_goto C0 92 dL_days_901 (by decide) ?_
          refine r_sub (L' := [(0, .ref p0), (2, .int v2), (3, .int v3), (4, .int v4), (5, .int v5), (6, .int v6), (7, .int v7), (8, .int (1 : Int32)), (9, .int (v9 + (1 : Int32)))]) [2, 3, 4, 5, 6, 7, 8, 1, 0] rfl ?_
          exact hk_k_92 v2 v3 v4 v5 v6 v7 (1 : Int32) (v9 + (1 : Int32)) M _ hf _ (by omega)
set_option maxHeartbeats 4000000 in
set_option maxRecDepth 100000 in
theorem g_L_days_273 {Γ : zCx} {E : zEn} {S : zSk} {X : zMl} (C0 : zCt Γ E RL cL_days 28 (Option.some Jvm.ClassFile.FieldType.boolean) [] { frames := 10, cells := 7635, slots := 45810, locals := 185 }) (F : Nat) (p0 : Nat) (p1 : Int32) (k_92 : Int32 → Int32 → Int32 → Int32 → Int32 → Int32 → Int32 → Int32 → zMi → Option (Int32 × zMi)) (k_206 : Int32 → Int32 → Int32 → Int32 → Int32 → Int32 → Int32 → Int32 → Int32 → Int32 → Int32 → Int32 → Int32 → Int32 → Int32 → Int32 → Int32 → Int32 → Int32 → Int32 → Int32 → zMi → Option (Int32 × zMi)) (TK_92 : Nat) (TK_206 : Nat) (hk_p0 : K_X10 S p0) (hk_k_92 : ∀ (v2_ : Int32) (v3_ : Int32) (v4_ : Int32) (v5_ : Int32) (v6_ : Int32) (v7_ : Int32) (v8_ : Int32) (v9_ : Int32) (M : zMi) (r : Int32 × zMi) , k_92 v2_ v3_ v4_ v5_ v6_ v7_ v8_ v9_ M = some r → ∀ kc : Nat, kc + TK_92 ≤ 7635 → zG Γ (zQX Γ E 7635 45810 S (.inr (some (.int r.1)), r.2) X) E 28 kc (6 * kc) S ZT M X 92 [(0, .ref p0), (2, .int v2_), (3, .int v3_), (4, .int v4_), (5, .int v5_), (6, .int v6_), (7, .int v7_), (8, .int v8_), (9, .int v9_)] []) (hk_k_206 : ∀ (v2_ : Int32) (v3_ : Int32) (v4_ : Int32) (v5_ : Int32) (v6_ : Int32) (v7_ : Int32) (v9_ : Int32) (v10_ : Int32) (v11_ : Int32) (v12_ : Int32) (v13_ : Int32) (v14_ : Int32) (v15_ : Int32) (v16_ : Int32) (v17_ : Int32) (v18_ : Int32) (v19_ : Int32) (v20_ : Int32) (v21_ : Int32) (v22_ : Int32) (v23_ : Int32) (M : zMi) (r : Int32 × zMi) , k_206 v2_ v3_ v4_ v5_ v6_ v7_ v9_ v10_ v11_ v12_ v13_ v14_ v15_ v16_ v17_ v18_ v19_ v20_ v21_ v22_ v23_ M = some r → ∀ kc : Nat, kc + TK_206 ≤ 7635 → zG Γ (zQX Γ E 7635 45810 S (.inr (some (.int r.1)), r.2) X) E 28 kc (6 * kc) S ZT M X 206 [(0, .ref p0), (2, .int v2_), (3, .int v3_), (4, .int v4_), (5, .int v5_), (6, .int v6_), (7, .int v7_), (9, .int v9_), (10, .int v10_), (11, .int v11_), (12, .int v12_), (13, .int v13_), (14, .int v14_), (15, .int v15_), (16, .int v16_), (17, .int v17_), (18, .int v18_), (19, .int v19_), (20, .int v20_), (21, .int v21_), (22, .int v22_), (23, .int v23_)] [])  (v2 : Int32) (v3 : Int32) (v4 : Int32) (v5 : Int32) (v6 : Int32) (v7 : Int32) (v9 : Int32) (v10 : Int32) (v11 : Int32) (v12 : Int32) (v13 : Int32) (v14 : Int32) (v15 : Int32) (v16 : Int32) (v17 : Int32) (v18 : Int32) (v19 : Int32) (v20 : Int32) (v22 : Int32) (v23 : Int32) (v24 : Int32) (v25 : Int32) (s0 : Int32) (s1 : Int32) (M : zMi) (r : Int32 × zMi) (hf : f_L_days_273 F p0 p1 k_92 k_206 v2 v3 v4 v5 v6 v7 v9 v10 v11 v12 v13 v14 v15 v16 v17 v18 v19 v20 v22 v23 v24 v25 s0 s1 M = some r) (kc : Nat) (hkc : kc + (0 + TK_206) ≤ 7635) : zG Γ (zQX Γ E 7635 45810 S (.inr (some (.int r.1)), r.2) X) E 28 kc (6 * kc) S ZT M X 273 [(0, .ref p0), (2, .int v2), (3, .int v3), (4, .int v4), (5, .int v5), (6, .int v6), (7, .int v7), (9, .int v9), (10, .int v10), (11, .int v11), (12, .int v12), (13, .int v13), (14, .int v14), (15, .int v15), (16, .int v16), (17, .int v17), (18, .int v18), (19, .int v19), (20, .int v20), (22, .int v22), (23, .int v23), (24, .int v24), (25, .int v25)] [.int s0, .int s1] := by
  unfold f_L_days_273 at hf
  refine r_iadd C0 dL_days_273 ?_
  refine r_nm hf (fun x1 hf => ?_)
  refine r_istore (L' := [(21, .int x1), (0, .ref p0), (2, .int v2), (3, .int v3), (4, .int v4), (5, .int v5), (6, .int v6), (7, .int v7), (9, .int v9), (10, .int v10), (11, .int v11), (12, .int v12), (13, .int v13), (14, .int v14), (15, .int v15), (16, .int v16), (17, .int v17), (18, .int v18), (19, .int v19), (20, .int v20), (22, .int v22), (23, .int v23), (24, .int v24), (25, .int v25)]) C0 dL_days_274 (by decide) rfl ?_
  refine r_iload C0 dL_days_276 20 rfl ?_
  refine r_iload C0 dL_days_278 22 rfl ?_
  refine r_iconst (v := 2) C0 dL_days_280 (by decide) ?_
  refine r_icmp_eq C0 295 dL_days_281 (by decide) hf (fun hf => ?_) (fun hf => ?_)
  · refine r_iconst (v := 1) C0 dL_days_295 (by decide) ?_
    refine r_goto C0 300 dL_days_296 (by decide) ?_
    refine r_ior C0 dL_days_300 ?_
    refine r_nm hf (fun x2 hf => ?_)
    refine r_istore (L' := [(22, .int x2), (21, .int x1), (0, .ref p0), (2, .int v2), (3, .int v3), (4, .int v4), (5, .int v5), (6, .int v6), (7, .int v7), (9, .int v9), (10, .int v10), (11, .int v11), (12, .int v12), (13, .int v13), (14, .int v14), (15, .int v15), (16, .int v16), (17, .int v17), (18, .int v18), (19, .int v19), (20, .int v20), (23, .int v23), (24, .int v24), (25, .int v25)]) C0 dL_days_301 (by decide) rfl ?_
    refine r_iinc (j := 21) (v := (v23 + (1 : Int32))) (L' := [(23, .int (v23 + (1 : Int32))), (22, .int x2), (21, .int x1), (0, .ref p0), (2, .int v2), (3, .int v3), (4, .int v4), (5, .int v5), (6, .int v6), (7, .int v7), (9, .int v9), (10, .int v10), (11, .int v11), (12, .int v12), (13, .int v13), (14, .int v14), (15, .int v15), (16, .int v16), (17, .int v17), (18, .int v18), (19, .int v19), (20, .int v20), (24, .int v24), (25, .int v25)]) C0 dL_days_303 rfl rfl (by decide) rfl ?_
    refine r_goto C0 206 dL_days_306 (by decide) ?_
    refine r_sub (L' := [(0, .ref p0), (2, .int v2), (3, .int v3), (4, .int v4), (5, .int v5), (6, .int v6), (7, .int v7), (9, .int v9), (10, .int v10), (11, .int v11), (12, .int v12), (13, .int v13), (14, .int v14), (15, .int v15), (16, .int v16), (17, .int v17), (18, .int v18), (19, .int v19), (20, .int v20), (21, .int x1), (22, .int x2), (23, .int (v23 + (1 : Int32)))]) [3, 4, 5, 6, 7, 8, 9, 10, 11, 12, 13, 14, 15, 16, 17, 18, 19, 20, 21, 2, 1, 0] rfl ?_
    exact hk_k_206 v2 v3 v4 v5 v6 v7 v9 v10 v11 v12 v13 v14 v15 v16 v17 v18 v19 v20 x1 x2 (v23 + (1 : Int32)) M _ hf _ (by omega)
  · refine r_iload C0 dL_days_284 22 rfl ?_
    refine r_iconst (v := 1) C0 dL_days_286 (by decide) ?_
    refine r_icmp_ne C0 299 dL_days_287 (by decide) hf (fun hf => ?_) (fun hf => ?_)
    · refine r_iconst (v := 0) C0 dL_days_299 (by decide) ?_
      refine r_ior C0 dL_days_300 ?_
      refine r_nm hf (fun x3 hf => ?_)
      refine r_istore (L' := [(22, .int x3), (21, .int x1), (0, .ref p0), (2, .int v2), (3, .int v3), (4, .int v4), (5, .int v5), (6, .int v6), (7, .int v7), (9, .int v9), (10, .int v10), (11, .int v11), (12, .int v12), (13, .int v13), (14, .int v14), (15, .int v15), (16, .int v16), (17, .int v17), (18, .int v18), (19, .int v19), (20, .int v20), (23, .int v23), (24, .int v24), (25, .int v25)]) C0 dL_days_301 (by decide) rfl ?_
      refine r_iinc (j := 21) (v := (v23 + (1 : Int32))) (L' := [(23, .int (v23 + (1 : Int32))), (22, .int x3), (21, .int x1), (0, .ref p0), (2, .int v2), (3, .int v3), (4, .int v4), (5, .int v5), (6, .int v6), (7, .int v7), (9, .int v9), (10, .int v10), (11, .int v11), (12, .int v12), (13, .int v13), (14, .int v14), (15, .int v15), (16, .int v16), (17, .int v17), (18, .int v18), (19, .int v19), (20, .int v20), (24, .int v24), (25, .int v25)]) C0 dL_days_303 rfl rfl (by decide) rfl ?_
      refine r_goto C0 206 dL_days_306 (by decide) ?_
      refine r_sub (L' := [(0, .ref p0), (2, .int v2), (3, .int v3), (4, .int v4), (5, .int v5), (6, .int v6), (7, .int v7), (9, .int v9), (10, .int v10), (11, .int v11), (12, .int v12), (13, .int v13), (14, .int v14), (15, .int v15), (16, .int v16), (17, .int v17), (18, .int v18), (19, .int v19), (20, .int v20), (21, .int x1), (22, .int x3), (23, .int (v23 + (1 : Int32)))]) [3, 4, 5, 6, 7, 8, 9, 10, 11, 12, 13, 14, 15, 16, 17, 18, 19, 20, 21, 2, 1, 0] rfl ?_
      exact hk_k_206 v2 v3 v4 v5 v6 v7 v9 v10 v11 v12 v13 v14 v15 v16 v17 v18 v19 v20 x1 x3 (v23 + (1 : Int32)) M _ hf _ (by omega)
    · refine r_iload C0 dL_days_290 23 rfl ?_
      refine r_if_eq C0 299 dL_days_292 (by decide) hf (fun hf => ?_) (fun hf => ?_)
      · refine r_iconst (v := 0) C0 dL_days_299 (by decide) ?_
        refine r_ior C0 dL_days_300 ?_
        refine r_nm hf (fun x4 hf => ?_)
        refine r_istore (L' := [(22, .int x4), (21, .int x1), (0, .ref p0), (2, .int v2), (3, .int v3), (4, .int v4), (5, .int v5), (6, .int v6), (7, .int v7), (9, .int v9), (10, .int v10), (11, .int v11), (12, .int v12), (13, .int v13), (14, .int v14), (15, .int v15), (16, .int v16), (17, .int v17), (18, .int v18), (19, .int v19), (20, .int v20), (23, .int v23), (24, .int v24), (25, .int v25)]) C0 dL_days_301 (by decide) rfl ?_
        refine r_iinc (j := 21) (v := (v23 + (1 : Int32))) (L' := [(23, .int (v23 + (1 : Int32))), (22, .int x4), (21, .int x1), (0, .ref p0), (2, .int v2), (3, .int v3), (4, .int v4), (5, .int v5), (6, .int v6), (7, .int v7), (9, .int v9), (10, .int v10), (11, .int v11), (12, .int v12), (13, .int v13), (14, .int v14), (15, .int v15), (16, .int v16), (17, .int v17), (18, .int v18), (19, .int v19), (20, .int v20), (24, .int v24), (25, .int v25)]) C0 dL_days_303 rfl rfl (by decide) rfl ?_
        refine r_goto C0 206 dL_days_306 (by decide) ?_
        refine r_sub (L' := [(0, .ref p0), (2, .int v2), (3, .int v3), (4, .int v4), (5, .int v5), (6, .int v6), (7, .int v7), (9, .int v9), (10, .int v10), (11, .int v11), (12, .int v12), (13, .int v13), (14, .int v14), (15, .int v15), (16, .int v16), (17, .int v17), (18, .int v18), (19, .int v19), (20, .int v20), (21, .int x1), (22, .int x4), (23, .int (v23 + (1 : Int32)))]) [3, 4, 5, 6, 7, 8, 9, 10, 11, 12, 13, 14, 15, 16, 17, 18, 19, 20, 21, 2, 1, 0] rfl ?_
        exact hk_k_206 v2 v3 v4 v5 v6 v7 v9 v10 v11 v12 v13 v14 v15 v16 v17 v18 v19 v20 x1 x4 (v23 + (1 : Int32)) M _ hf _ (by omega)
      · refine r_iconst (v := 1) C0 dL_days_295 (by decide) ?_
        refine r_goto C0 300 dL_days_296 (by decide) ?_
        refine r_ior C0 dL_days_300 ?_
        refine r_nm hf (fun x5 hf => ?_)
        refine r_istore (L' := [(22, .int x5), (21, .int x1), (0, .ref p0), (2, .int v2), (3, .int v3), (4, .int v4), (5, .int v5), (6, .int v6), (7, .int v7), (9, .int v9), (10, .int v10), (11, .int v11), (12, .int v12), (13, .int v13), (14, .int v14), (15, .int v15), (16, .int v16), (17, .int v17), (18, .int v18), (19, .int v19), (20, .int v20), (23, .int v23), (24, .int v24), (25, .int v25)]) C0 dL_days_301 (by decide) rfl ?_
        refine r_iinc (j := 21) (v := (v23 + (1 : Int32))) (L' := [(23, .int (v23 + (1 : Int32))), (22, .int x5), (21, .int x1), (0, .ref p0), (2, .int v2), (3, .int v3), (4, .int v4), (5, .int v5), (6, .int v6), (7, .int v7), (9, .int v9), (10, .int v10), (11, .int v11), (12, .int v12), (13, .int v13), (14, .int v14), (15, .int v15), (16, .int v16), (17, .int v17), (18, .int v18), (19, .int v19), (20, .int v20), (24, .int v24), (25, .int v25)]) C0 dL_days_303 rfl rfl (by decide) rfl ?_
        refine r_goto C0 206 dL_days_306 (by decide) ?_
        refine r_sub (L' := [(0, .ref p0), (2, .int v2), (3, .int v3), (4, .int v4), (5, .int v5), (6, .int v6), (7, .int v7), (9, .int v9), (10, .int v10), (11, .int v11), (12, .int v12), (13, .int v13), (14, .int v14), (15, .int v15), (16, .int v16), (17, .int v17), (18, .int v18), (19, .int v19), (20, .int v20), (21, .int x1), (22, .int x5), (23, .int (v23 + (1 : Int32)))]) [3, 4, 5, 6, 7, 8, 9, 10, 11, 12, 13, 14, 15, 16, 17, 18, 19, 20, 21, 2, 1, 0] rfl ?_
        exact hk_k_206 v2 v3 v4 v5 v6 v7 v9 v10 v11 v12 v13 v14 v15 v16 v17 v18 v19 v20 x1 x5 (v23 + (1 : Int32)) M _ hf _ (by omega)
set_option maxHeartbeats 4000000 in
set_option maxRecDepth 100000 in
theorem g_L_days_242 {Γ : zCx} {E : zEn} {S : zSk} {X : zMl} (C0 : zCt Γ E RL cL_days 28 (Option.some Jvm.ClassFile.FieldType.boolean) [] { frames := 10, cells := 7635, slots := 45810, locals := 185 }) (F : Nat) (p0 : Nat) (p1 : Int32) (k_92 : Int32 → Int32 → Int32 → Int32 → Int32 → Int32 → Int32 → Int32 → zMi → Option (Int32 × zMi)) (k_206 : Int32 → Int32 → Int32 → Int32 → Int32 → Int32 → Int32 → Int32 → Int32 → Int32 → Int32 → Int32 → Int32 → Int32 → Int32 → Int32 → Int32 → Int32 → Int32 → Int32 → Int32 → zMi → Option (Int32 × zMi)) (TK_92 : Nat) (TK_206 : Nat) (hk_p0 : K_X10 S p0) (hk_k_92 : ∀ (v2_ : Int32) (v3_ : Int32) (v4_ : Int32) (v5_ : Int32) (v6_ : Int32) (v7_ : Int32) (v8_ : Int32) (v9_ : Int32) (M : zMi) (r : Int32 × zMi) , k_92 v2_ v3_ v4_ v5_ v6_ v7_ v8_ v9_ M = some r → ∀ kc : Nat, kc + TK_92 ≤ 7635 → zG Γ (zQX Γ E 7635 45810 S (.inr (some (.int r.1)), r.2) X) E 28 kc (6 * kc) S ZT M X 92 [(0, .ref p0), (2, .int v2_), (3, .int v3_), (4, .int v4_), (5, .int v5_), (6, .int v6_), (7, .int v7_), (8, .int v8_), (9, .int v9_)] []) (hk_k_206 : ∀ (v2_ : Int32) (v3_ : Int32) (v4_ : Int32) (v5_ : Int32) (v6_ : Int32) (v7_ : Int32) (v9_ : Int32) (v10_ : Int32) (v11_ : Int32) (v12_ : Int32) (v13_ : Int32) (v14_ : Int32) (v15_ : Int32) (v16_ : Int32) (v17_ : Int32) (v18_ : Int32) (v19_ : Int32) (v20_ : Int32) (v21_ : Int32) (v22_ : Int32) (v23_ : Int32) (M : zMi) (r : Int32 × zMi) , k_206 v2_ v3_ v4_ v5_ v6_ v7_ v9_ v10_ v11_ v12_ v13_ v14_ v15_ v16_ v17_ v18_ v19_ v20_ v21_ v22_ v23_ M = some r → ∀ kc : Nat, kc + TK_206 ≤ 7635 → zG Γ (zQX Γ E 7635 45810 S (.inr (some (.int r.1)), r.2) X) E 28 kc (6 * kc) S ZT M X 206 [(0, .ref p0), (2, .int v2_), (3, .int v3_), (4, .int v4_), (5, .int v5_), (6, .int v6_), (7, .int v7_), (9, .int v9_), (10, .int v10_), (11, .int v11_), (12, .int v12_), (13, .int v13_), (14, .int v14_), (15, .int v15_), (16, .int v16_), (17, .int v17_), (18, .int v18_), (19, .int v19_), (20, .int v20_), (21, .int v21_), (22, .int v22_), (23, .int v23_)] [])  (v2 : Int32) (v3 : Int32) (v4 : Int32) (v5 : Int32) (v6 : Int32) (v7 : Int32) (v9 : Int32) (v10 : Int32) (v11 : Int32) (v12 : Int32) (v13 : Int32) (v14 : Int32) (v15 : Int32) (v16 : Int32) (v17 : Int32) (v18 : Int32) (v19 : Int32) (v20 : Int32) (v21 : Int32) (v22 : Int32) (v23 : Int32) (v24 : Int32) (s0 : Int32) (M : zMi) (r : Int32 × zMi) (hf : f_L_days_242 F p0 p1 k_92 k_206 v2 v3 v4 v5 v6 v7 v9 v10 v11 v12 v13 v14 v15 v16 v17 v18 v19 v20 v21 v22 v23 v24 s0 M = some r) (kc : Nat) (hkc : kc + (2 + TK_206) ≤ 7635) : zG Γ (zQX Γ E 7635 45810 S (.inr (some (.int r.1)), r.2) X) E 28 kc (6 * kc) S ZT M X 242 [(0, .ref p0), (2, .int v2), (3, .int v3), (4, .int v4), (5, .int v5), (6, .int v6), (7, .int v7), (9, .int v9), (10, .int v10), (11, .int v11), (12, .int v12), (13, .int v13), (14, .int v14), (15, .int v15), (16, .int v16), (17, .int v17), (18, .int v18), (19, .int v19), (20, .int v20), (21, .int v21), (22, .int v22), (23, .int v23), (24, .int v24)] [.int s0] := by
  unfold f_L_days_242 at hf
  refine r_istore (L' := [(25, .int s0), (0, .ref p0), (2, .int v2), (3, .int v3), (4, .int v4), (5, .int v5), (6, .int v6), (7, .int v7), (9, .int v9), (10, .int v10), (11, .int v11), (12, .int v12), (13, .int v13), (14, .int v14), (15, .int v15), (16, .int v16), (17, .int v17), (18, .int v18), (19, .int v19), (20, .int v20), (21, .int v21), (22, .int v22), (23, .int v23), (24, .int v24)]) C0 dL_days_242 (by decide) rfl ?_
  refine r_iload C0 dL_days_244 20 rfl ?_
  refine r_iload C0 dL_days_246 23 rfl ?_
  refine r_if_le C0 272 dL_days_248 (by decide) hf (fun hf => ?_) (fun hf => ?_)
  · refine r_iconst (v := 0) C0 dL_days_272 (by decide) ?_
    refine r_sub (L' := [(0, .ref p0), (2, .int v2), (3, .int v3), (4, .int v4), (5, .int v5), (6, .int v6), (7, .int v7), (9, .int v9), (10, .int v10), (11, .int v11), (12, .int v12), (13, .int v13), (14, .int v14), (15, .int v15), (16, .int v16), (17, .int v17), (18, .int v18), (19, .int v19), (20, .int v20), (22, .int v22), (23, .int v23), (24, .int v24), (25, .int s0)]) [1, 2, 3, 4, 5, 6, 7, 8, 9, 10, 11, 12, 13, 14, 15, 16, 17, 18, 19, 21, 22, 23, 0] rfl ?_
    exact g_L_days_273 C0 F p0 p1 k_92 k_206 TK_92 TK_206 hk_p0 hk_k_92 hk_k_206 v2 v3 v4 v5 v6 v7 v9 v10 v11 v12 v13 v14 v15 v16 v17 v18 v19 v20 v22 v23 v24 s0 (0 : Int32) v21 M _ hf _ (by omega)
  · refine r_iload C0 dL_days_251 23 rfl ?_
    refine r_iconst (v := 4) C0 dL_days_253 (by decide) ?_
    refine r_icmp_ne C0 262 dL_days_254 (by decide) hf (fun hf => ?_) (fun hf => ?_)
    · refine r_aload_n C0 dL_days_262 rfl 1 rfl ?_
      refine r_iload C0 dL_days_263 22 rfl ?_
      refine r_iconst (v := 3) C0 dL_days_265 (by decide) ?_
      refine r_callWp C0 (st := [.int v21]) (kc1 := kc + 2) [.ref p0, .int v23, .int (3 : Int32)] hf vs_161 (fun hl r1 hr1 => c_L_tryShip hl F p0 v23 (3 : Int32) hk_p0 M r1 hr1) rfl rfl (Nat.le_of_ble_eq_true rfl) dL_days_266 (zrm_k 7635 rfl (by omega)) (by omega) (fun r1 hr1 hf => ?_)
      refine r_goto C0 273 dL_days_269 (by decide) ?_
      refine r_sub (L' := [(0, .ref p0), (2, .int v2), (3, .int v3), (4, .int v4), (5, .int v5), (6, .int v6), (7, .int v7), (9, .int v9), (10, .int v10), (11, .int v11), (12, .int v12), (13, .int v13), (14, .int v14), (15, .int v15), (16, .int v16), (17, .int v17), (18, .int v18), (19, .int v19), (20, .int v20), (22, .int v22), (23, .int v23), (24, .int v24), (25, .int s0)]) [1, 2, 3, 4, 5, 6, 7, 8, 9, 10, 11, 12, 13, 14, 15, 16, 17, 18, 19, 21, 22, 23, 0] rfl ?_
      exact g_L_days_273 C0 F p0 p1 k_92 k_206 TK_92 TK_206 hk_p0 hk_k_92 hk_k_206 v2 v3 v4 v5 v6 v7 v9 v10 v11 v12 v13 v14 v15 v16 v17 v18 v19 v20 v22 v23 v24 s0 r1 v21 M _ hf _ (by omega)
    · refine r_iload C0 dL_days_257 0 rfl ?_
      refine r_if_ne C0 272 dL_days_259 (by decide) hf (fun hf => ?_) (fun hf => ?_)
      · refine r_iconst (v := 0) C0 dL_days_272 (by decide) ?_
        refine r_sub (L' := [(0, .ref p0), (2, .int v2), (3, .int v3), (4, .int v4), (5, .int v5), (6, .int v6), (7, .int v7), (9, .int v9), (10, .int v10), (11, .int v11), (12, .int v12), (13, .int v13), (14, .int v14), (15, .int v15), (16, .int v16), (17, .int v17), (18, .int v18), (19, .int v19), (20, .int v20), (22, .int v22), (23, .int v23), (24, .int v24), (25, .int s0)]) [1, 2, 3, 4, 5, 6, 7, 8, 9, 10, 11, 12, 13, 14, 15, 16, 17, 18, 19, 21, 22, 23, 0] rfl ?_
        exact g_L_days_273 C0 F p0 p1 k_92 k_206 TK_92 TK_206 hk_p0 hk_k_92 hk_k_206 v2 v3 v4 v5 v6 v7 v9 v10 v11 v12 v13 v14 v15 v16 v17 v18 v19 v20 v22 v23 v24 s0 (0 : Int32) v21 M _ hf _ (by omega)
      · refine r_aload_n C0 dL_days_262 rfl 1 rfl ?_
        refine r_iload C0 dL_days_263 22 rfl ?_
        refine r_iconst (v := 3) C0 dL_days_265 (by decide) ?_
        refine r_callWp C0 (st := [.int v21]) (kc1 := kc + 2) [.ref p0, .int v23, .int (3 : Int32)] hf vs_161 (fun hl r2 hr2 => c_L_tryShip hl F p0 v23 (3 : Int32) hk_p0 M r2 hr2) rfl rfl (Nat.le_of_ble_eq_true rfl) dL_days_266 (zrm_k 7635 rfl (by omega)) (by omega) (fun r2 hr2 hf => ?_)
        refine r_goto C0 273 dL_days_269 (by decide) ?_
        refine r_sub (L' := [(0, .ref p0), (2, .int v2), (3, .int v3), (4, .int v4), (5, .int v5), (6, .int v6), (7, .int v7), (9, .int v9), (10, .int v10), (11, .int v11), (12, .int v12), (13, .int v13), (14, .int v14), (15, .int v15), (16, .int v16), (17, .int v17), (18, .int v18), (19, .int v19), (20, .int v20), (22, .int v22), (23, .int v23), (24, .int v24), (25, .int s0)]) [1, 2, 3, 4, 5, 6, 7, 8, 9, 10, 11, 12, 13, 14, 15, 16, 17, 18, 19, 21, 22, 23, 0] rfl ?_
        exact g_L_days_273 C0 F p0 p1 k_92 k_206 TK_92 TK_206 hk_p0 hk_k_92 hk_k_206 v2 v3 v4 v5 v6 v7 v9 v10 v11 v12 v13 v14 v15 v16 v17 v18 v19 v20 v22 v23 v24 s0 r2 v21 M _ hf _ (by omega)
set_option maxHeartbeats 4000000 in
set_option maxRecDepth 100000 in
theorem g_L_days_206 {Γ : zCx} {E : zEn} {S : zSk} {X : zMl} (C0 : zCt Γ E RL cL_days 28 (Option.some Jvm.ClassFile.FieldType.boolean) [] { frames := 10, cells := 7635, slots := 45810, locals := 185 }) (F : Nat) (p0 : Nat) (p1 : Int32) (k_92 : Int32 → Int32 → Int32 → Int32 → Int32 → Int32 → Int32 → Int32 → zMi → Option (Int32 × zMi)) (TK_92 : Nat) (hk_p0 : K_X10 S p0) (hk_k_92 : ∀ (v2_ : Int32) (v3_ : Int32) (v4_ : Int32) (v5_ : Int32) (v6_ : Int32) (v7_ : Int32) (v8_ : Int32) (v9_ : Int32) (M : zMi) (r : Int32 × zMi) , k_92 v2_ v3_ v4_ v5_ v6_ v7_ v8_ v9_ M = some r → ∀ kc : Nat, kc + TK_92 ≤ 7635 → zG Γ (zQX Γ E 7635 45810 S (.inr (some (.int r.1)), r.2) X) E 28 kc (6 * kc) S ZT M X 92 [(0, .ref p0), (2, .int v2_), (3, .int v3_), (4, .int v4_), (5, .int v5_), (6, .int v6_), (7, .int v7_), (8, .int v8_), (9, .int v9_)] [])  : ∀ (n : Nat) (v2 : Int32) (v3 : Int32) (v4 : Int32) (v5 : Int32) (v6 : Int32) (v7 : Int32) (v9 : Int32) (v10 : Int32) (v11 : Int32) (v12 : Int32) (v13 : Int32) (v14 : Int32) (v15 : Int32) (v16 : Int32) (v17 : Int32) (v18 : Int32) (v19 : Int32) (v20 : Int32) (v21 : Int32) (v22 : Int32) (v23 : Int32) (M : zMi) (r : Int32 × zMi), f_L_days_206 F p0 p1 k_92 n v2 v3 v4 v5 v6 v7 v9 v10 v11 v12 v13 v14 v15 v16 v17 v18 v19 v20 v21 v22 v23 M = some r → ∀ kc : Nat, kc + (n * 7 + 229 + TK_92) ≤ 7635 → zG Γ (zQX Γ E 7635 45810 S (.inr (some (.int r.1)), r.2) X) E 28 kc (6 * kc) S ZT M X 206 [(0, .ref p0), (2, .int v2), (3, .int v3), (4, .int v4), (5, .int v5), (6, .int v6), (7, .int v7), (9, .int v9), (10, .int v10), (11, .int v11), (12, .int v12), (13, .int v13), (14, .int v14), (15, .int v15), (16, .int v16), (17, .int v17), (18, .int v18), (19, .int v19), (20, .int v20), (21, .int v21), (22, .int v22), (23, .int v23)] [] := by
  intro n
  induction n with
  | zero => intro v2 v3 v4 v5 v6 v7 v9 v10 v11 v12 v13 v14 v15 v16 v17 v18 v19 v20 v21 v22 v23 M r hf; cases hf
  | succ n ih =>
    intro v2 v3 v4 v5 v6 v7 v9 v10 v11 v12 v13 v14 v15 v16 v17 v18 v19 v20 v21 v22 v23 M r hf kc hkc
    refine r_iload C0 dL_days_206 21 rfl ?_
    refine r_aload_n C0 dL_days_208 rfl 0 rfl ?_
    refine r_iconst (v := 1) C0 dL_days_209 (by decide) ?_
    refine r_callWp C0 (st := [.int v23]) (kc1 := kc + 1) [.ref p0, .int (1 : Int32)] hf vs_159 (fun hl r1 hr1 => c_L_tryAbout hl F p0 (1 : Int32) hk_p0 M r1 hr1) rfl rfl (Nat.le_of_ble_eq_true rfl) dL_days_210 (zrm_k 7635 rfl (by omega)) (by omega) (fun r1 hr1 hf => ?_)
    refine r_icmp_ge C0 309 dL_days_213 (by decide) hf (fun hf => ?_) (fun hf => ?_)
    · refine r_aload_n C0 dL_days_309 rfl 0 rfl ?_
      refine r_iconst (v := 1) C0 dL_days_310 (by decide) ?_
      refine r_callWw C0 (st := []) (kc1 := kc + 2) [.ref p0, .int (1 : Int32)] hf vs_172 (fun hl r2 hr2 => c_L_tryPass hl F p0 (1 : Int32) hk_p0 M r2 hr2) rfl rfl (Nat.le_of_ble_eq_true rfl) dL_days_311 (zrm_k 7635 rfl (by omega)) (by omega) (fun r2 hr2 hf => ?_)
      refine r_istore (L' := [(23, .int r2.1), (0, .ref p0), (2, .int v2), (3, .int v3), (4, .int v4), (5, .int v5), (6, .int v6), (7, .int v7), (9, .int v9), (10, .int v10), (11, .int v11), (12, .int v12), (13, .int v13), (14, .int v14), (15, .int v15), (16, .int v16), (17, .int v17), (18, .int v18), (19, .int v19), (20, .int v20), (21, .int v21), (22, .int v22)]) C0 dL_days_314 (by decide) rfl ?_
      refine r_aload_n C0 dL_days_316 rfl 1 rfl ?_
      refine r_bipush (v := 9) C0 dL_days_317 (by decide) ?_
      refine r_callWp C0 (st := []) (kc1 := kc + 3) [.ref p0, .int (9 : Int32)] hf vs_159 (fun hl r3 hr3 => c_L_tryAbout hl F p0 (9 : Int32) hk_p0 r2.2 r3 hr3) rfl rfl (Nat.le_of_ble_eq_true rfl) dL_days_319 (zrm_k 7635 rfl (by omega)) (by omega) (fun r3 hr3 hf => ?_)
      refine r_istore (L' := [(24, .int r3), (23, .int r2.1), (0, .ref p0), (2, .int v2), (3, .int v3), (4, .int v4), (5, .int v5), (6, .int v6), (7, .int v7), (9, .int v9), (10, .int v10), (11, .int v11), (12, .int v12), (13, .int v13), (14, .int v14), (15, .int v15), (16, .int v16), (17, .int v17), (18, .int v18), (19, .int v19), (20, .int v20), (21, .int v21), (22, .int v22)]) C0 dL_days_322 (by decide) rfl ?_
      refine r_aload_n C0 dL_days_324 rfl 2 rfl ?_
      refine r_iconst (v := 5) C0 dL_days_325 (by decide) ?_
      refine r_callWp C0 (st := []) (kc1 := kc + 4) [.ref p0, .int (5 : Int32)] hf vs_159 (fun hl r4 hr4 => c_L_tryAbout hl F p0 (5 : Int32) hk_p0 r2.2 r4 hr4) rfl rfl (Nat.le_of_ble_eq_true rfl) dL_days_326 (zrm_k 7635 rfl (by omega)) (by omega) (fun r4 hr4 hf => ?_)
      refine r_iload C0 dL_days_329 10 rfl ?_
      refine r_iconst (v := 1) C0 dL_days_331 (by decide) ?_
      refine r_iadd C0 dL_days_332 ?_
      refine r_icmp_ne C0 373 dL_days_333 (by decide) hf (fun hf => ?_) (fun hf => ?_)
      · refine r_iconst (v := 0) C0 dL_days_373 (by decide) ?_
        refine r_sub (L' := [(0, .ref p0), (2, .int v2), (3, .int v3), (4, .int v4), (5, .int v5), (6, .int v6), (7, .int v7), (9, .int v9), (10, .int v10), (11, .int v11), (12, .int v12), (13, .int v13), (14, .int v14), (15, .int v15), (16, .int v16), (17, .int v17), (19, .int v19), (22, .int v22), (23, .int r2.1), (24, .int r3)]) [2, 3, 4, 5, 6, 7, 8, 9, 10, 11, 12, 13, 14, 15, 16, 17, 19, 22, 1, 0] rfl ?_
        exact g_L_days_374 C0 F p0 p1 k_92 TK_92 hk_p0 hk_k_92 v2 v3 v4 v5 v6 v7 v9 v10 v11 v12 v13 v14 v15 v16 v17 v19 v22 r2.1 r3 (0 : Int32) r2.2 _ hf _ (by omega)
      · refine r_aload_n C0 dL_days_336 rfl 2 rfl ?_
        refine r_iconst (v := 4) C0 dL_days_337 (by decide) ?_
        refine r_callWp C0 (st := []) (kc1 := kc + 5) [.ref p0, .int (4 : Int32)] hf vs_160 (fun hl r5 hr5 => c_L_tryAccount hl F p0 (4 : Int32) hk_p0 r2.2 r5 hr5) rfl rfl (Nat.le_of_ble_eq_true rfl) dL_days_338 (zrm_k 7635 rfl (by omega)) (by omega) (fun r5 hr5 hf => ?_)
        refine r_iload C0 dL_days_341 18 rfl ?_
        refine r_iload C0 dL_days_343 21 rfl ?_
        refine r_iadd C0 dL_days_345 ?_
        refine r_icmp_ne C0 373 dL_days_346 (by decide) hf (fun hf => ?_) (fun hf => ?_)
        · refine r_iconst (v := 0) C0 dL_days_373 (by decide) ?_
          refine r_sub (L' := [(0, .ref p0), (2, .int v2), (3, .int v3), (4, .int v4), (5, .int v5), (6, .int v6), (7, .int v7), (9, .int v9), (10, .int v10), (11, .int v11), (12, .int v12), (13, .int v13), (14, .int v14), (15, .int v15), (16, .int v16), (17, .int v17), (19, .int v19), (22, .int v22), (23, .int r2.1), (24, .int r3)]) [2, 3, 4, 5, 6, 7, 8, 9, 10, 11, 12, 13, 14, 15, 16, 17, 19, 22, 1, 0] rfl ?_
          exact g_L_days_374 C0 F p0 p1 k_92 TK_92 hk_p0 hk_k_92 v2 v3 v4 v5 v6 v7 v9 v10 v11 v12 v13 v14 v15 v16 v17 v19 v22 r2.1 r3 (0 : Int32) r2.2 _ hf _ (by omega)
        · refine r_iload C0 dL_days_349 1 rfl ?_
          refine r_aload_n C0 dL_days_351 rfl 2 rfl ?_
          refine r_iconst (v := 1) C0 dL_days_352 (by decide) ?_
          refine r_callWp C0 (st := [.int r2.1]) (kc1 := kc + 6) [.ref p0, .int (1 : Int32)] hf vs_160 (fun hl r6 hr6 => c_L_tryAccount hl F p0 (1 : Int32) hk_p0 r2.2 r6 hr6) rfl rfl (Nat.le_of_ble_eq_true rfl) dL_days_353 (zrm_k 7635 rfl (by omega)) (by omega) (fun r6 hr6 hf => ?_)
          refine r_iload C0 dL_days_356 20 rfl ?_
          refine r_isub C0 dL_days_358 ?_
          refine r_icmp_ne C0 373 dL_days_359 (by decide) hf (fun hf => ?_) (fun hf => ?_)
          · refine r_iconst (v := 0) C0 dL_days_373 (by decide) ?_
            refine r_sub (L' := [(0, .ref p0), (2, .int v2), (3, .int v3), (4, .int v4), (5, .int v5), (6, .int v6), (7, .int v7), (9, .int v9), (10, .int v10), (11, .int v11), (12, .int v12), (13, .int v13), (14, .int v14), (15, .int v15), (16, .int v16), (17, .int v17), (19, .int v19), (22, .int v22), (23, .int r2.1), (24, .int r3)]) [2, 3, 4, 5, 6, 7, 8, 9, 10, 11, 12, 13, 14, 15, 16, 17, 19, 22, 1, 0] rfl ?_
            exact g_L_days_374 C0 F p0 p1 k_92 TK_92 hk_p0 hk_k_92 v2 v3 v4 v5 v6 v7 v9 v10 v11 v12 v13 v14 v15 v16 v17 v19 v22 r2.1 r3 (0 : Int32) r2.2 _ hf _ (by omega)
          · refine r_aload_n C0 dL_days_362 rfl 2 rfl ?_
            refine r_callAp C0 (st := []) (kc1 := kc + 215) [.ref p0] hf vs_182 (fun hl r7 hr7 => c_L_sound hl F p0 hk_p0 r2.2 r7 hr7) rfl rfl (Nat.le_of_ble_eq_true rfl) dL_days_363 (zrm_k 7635 rfl (by omega)) (by omega) (fun r7 hr7 hf => ?_)
            refine r_if_eq C0 373 dL_days_366 (by decide) hf (fun hf => ?_) (fun hf => ?_)
            · refine r_iconst (v := 0) C0 dL_days_373 (by decide) ?_
              refine r_sub (L' := [(0, .ref p0), (2, .int v2), (3, .int v3), (4, .int v4), (5, .int v5), (6, .int v6), (7, .int v7), (9, .int v9), (10, .int v10), (11, .int v11), (12, .int v12), (13, .int v13), (14, .int v14), (15, .int v15), (16, .int v16), (17, .int v17), (19, .int v19), (22, .int v22), (23, .int r2.1), (24, .int r3)]) [2, 3, 4, 5, 6, 7, 8, 9, 10, 11, 12, 13, 14, 15, 16, 17, 19, 22, 1, 0] rfl ?_
              exact g_L_days_374 C0 F p0 p1 k_92 TK_92 hk_p0 hk_k_92 v2 v3 v4 v5 v6 v7 v9 v10 v11 v12 v13 v14 v15 v16 v17 v19 v22 r2.1 r3 (0 : Int32) r2.2 _ hf _ (by omega)
            · refine r_iconst (v := 1) C0 dL_days_369 (by decide) ?_
              refine r_goto C0 374 dL_days_370 (by decide) ?_
              refine r_sub (L' := [(0, .ref p0), (2, .int v2), (3, .int v3), (4, .int v4), (5, .int v5), (6, .int v6), (7, .int v7), (9, .int v9), (10, .int v10), (11, .int v11), (12, .int v12), (13, .int v13), (14, .int v14), (15, .int v15), (16, .int v16), (17, .int v17), (19, .int v19), (22, .int v22), (23, .int r2.1), (24, .int r3)]) [2, 3, 4, 5, 6, 7, 8, 9, 10, 11, 12, 13, 14, 15, 16, 17, 19, 22, 1, 0] rfl ?_
              exact g_L_days_374 C0 F p0 p1 k_92 TK_92 hk_p0 hk_k_92 v2 v3 v4 v5 v6 v7 v9 v10 v11 v12 v13 v14 v15 v16 v17 v19 v22 r2.1 r3 (1 : Int32) r2.2 _ hf _ (by omega)
    · refine r_aload_n C0 dL_days_216 rfl 0 rfl ?_
      refine r_iload C0 dL_days_217 21 rfl ?_
      refine r_iconst (v := 5) C0 dL_days_219 (by decide) ?_
      refine r_callWp C0 (st := []) (kc1 := kc + 3) [.ref p0, .int v23, .int (5 : Int32)] hf vs_161 (fun hl r8 hr8 => c_L_tryShip hl F p0 v23 (5 : Int32) hk_p0 M r8 hr8) rfl rfl (Nat.le_of_ble_eq_true rfl) dL_days_220 (zrm_k 7635 rfl (by omega)) (by omega) (fun r8 hr8 hf => ?_)
      refine r_istore (L' := [(24, .int r8), (0, .ref p0), (2, .int v2), (3, .int v3), (4, .int v4), (5, .int v5), (6, .int v6), (7, .int v7), (9, .int v9), (10, .int v10), (11, .int v11), (12, .int v12), (13, .int v13), (14, .int v14), (15, .int v15), (16, .int v16), (17, .int v17), (18, .int v18), (19, .int v19), (20, .int v20), (21, .int v21), (22, .int v22), (23, .int v23)]) C0 dL_days_223 (by decide) rfl ?_
      refine r_aload_n C0 dL_days_225 rfl 1 rfl ?_
      refine r_iload C0 dL_days_226 22 rfl ?_
      refine r_bipush (v := 6) C0 dL_days_228 (by decide) ?_
      refine r_callWp C0 (st := []) (kc1 := kc + 5) [.ref p0, .int v23, .int (6 : Int32)] hf vs_161 (fun hl r9 hr9 => c_L_tryShip hl F p0 v23 (6 : Int32) hk_p0 M r9 hr9) rfl rfl (Nat.le_of_ble_eq_true rfl) dL_days_230 (zrm_k 7635 rfl (by omega)) (by omega) (fun r9 hr9 hf => ?_)
      refine r_iconst (v := 1) C0 dL_days_233 (by decide) ?_
      refine r_icmp_ne C0 241 dL_days_234 (by decide) hf (fun hf => ?_) (fun hf => ?_)
      · refine r_iconst (v := 0) C0 dL_days_241 (by decide) ?_
        refine r_sub (L' := [(0, .ref p0), (2, .int v2), (3, .int v3), (4, .int v4), (5, .int v5), (6, .int v6), (7, .int v7), (9, .int v9), (10, .int v10), (11, .int v11), (12, .int v12), (13, .int v13), (14, .int v14), (15, .int v15), (16, .int v16), (17, .int v17), (18, .int v18), (19, .int v19), (20, .int v20), (21, .int v21), (22, .int v22), (23, .int v23), (24, .int r8)]) [1, 2, 3, 4, 5, 6, 7, 8, 9, 10, 11, 12, 13, 14, 15, 16, 17, 18, 19, 20, 21, 22, 0] rfl ?_
        exact g_L_days_242 C0 F p0 p1 k_92 (f_L_days_206 F p0 p1 k_92 n) TK_92 (n * 7 + 229 + TK_92) hk_p0 hk_k_92 ih v2 v3 v4 v5 v6 v7 v9 v10 v11 v12 v13 v14 v15 v16 v17 v18 v19 v20 v21 v22 v23 r8 (0 : Int32) M _ hf _ (by omega)
      · refine r_iconst (v := 1) C0 dL_days_237 (by decide) ?_
        refine r_goto C0 242 dL_days_238 (by decide) ?_
        refine r_sub (L' := [(0, .ref p0), (2, .int v2), (3, .int v3), (4, .int v4), (5, .int v5), (6, .int v6), (7, .int v7), (9, .int v9), (10, .int v10), (11, .int v11), (12, .int v12), (13, .int v13), (14, .int v14), (15, .int v15), (16, .int v16), (17, .int v17), (18, .int v18), (19, .int v19), (20, .int v20), (21, .int v21), (22, .int v22), (23, .int v23), (24, .int r8)]) [1, 2, 3, 4, 5, 6, 7, 8, 9, 10, 11, 12, 13, 14, 15, 16, 17, 18, 19, 20, 21, 22, 0] rfl ?_
        exact g_L_days_242 C0 F p0 p1 k_92 (f_L_days_206 F p0 p1 k_92 n) TK_92 (n * 7 + 229 + TK_92) hk_p0 hk_k_92 ih v2 v3 v4 v5 v6 v7 v9 v10 v11 v12 v13 v14 v15 v16 v17 v18 v19 v20 v21 v22 v23 r8 (1 : Int32) M _ hf _ (by omega)
set_option maxHeartbeats 4000000 in
set_option maxRecDepth 100000 in
theorem g_L_days_133 {Γ : zCx} {E : zEn} {S : zSk} {X : zMl} (C0 : zCt Γ E RL cL_days 28 (Option.some Jvm.ClassFile.FieldType.boolean) [] { frames := 10, cells := 7635, slots := 45810, locals := 185 }) (F : Nat) (p0 : Nat) (p1 : Int32) (k_92 : Int32 → Int32 → Int32 → Int32 → Int32 → Int32 → Int32 → Int32 → zMi → Option (Int32 × zMi)) (TK_92 : Nat) (hk_p0 : K_X10 S p0) (hk_k_92 : ∀ (v2_ : Int32) (v3_ : Int32) (v4_ : Int32) (v5_ : Int32) (v6_ : Int32) (v7_ : Int32) (v8_ : Int32) (v9_ : Int32) (M : zMi) (r : Int32 × zMi) , k_92 v2_ v3_ v4_ v5_ v6_ v7_ v8_ v9_ M = some r → ∀ kc : Nat, kc + TK_92 ≤ 7635 → zG Γ (zQX Γ E 7635 45810 S (.inr (some (.int r.1)), r.2) X) E 28 kc (6 * kc) S ZT M X 92 [(0, .ref p0), (2, .int v2_), (3, .int v3_), (4, .int v4_), (5, .int v5_), (6, .int v6_), (7, .int v7_), (8, .int v8_), (9, .int v9_)] [])  (v2 : Int32) (v3 : Int32) (v4 : Int32) (v5 : Int32) (v6 : Int32) (v7 : Int32) (v9 : Int32) (v10 : Int32) (v11 : Int32) (s0 : Int32) (M : zMi) (r : Int32 × zMi) (hf : f_L_days_133 F p0 p1 k_92 v2 v3 v4 v5 v6 v7 v9 v10 v11 s0 M = some r) (kc : Nat) (hkc : kc + (279 + TK_92) ≤ 7635) : zG Γ (zQX Γ E 7635 45810 S (.inr (some (.int r.1)), r.2) X) E 28 kc (6 * kc) S ZT M X 133 [(0, .ref p0), (2, .int v2), (3, .int v3), (4, .int v4), (5, .int v5), (6, .int v6), (7, .int v7), (9, .int v9), (10, .int v10), (11, .int v11)] [.int s0] := by
  unfold f_L_days_133 at hf
  refine r_istore (L' := [(12, .int s0), (0, .ref p0), (2, .int v2), (3, .int v3), (4, .int v4), (5, .int v5), (6, .int v6), (7, .int v7), (9, .int v9), (10, .int v10), (11, .int v11)]) C0 dL_days_133 (by decide) rfl ?_
  refine r_aload_n C0 dL_days_135 rfl 1 rfl ?_
  refine r_bipush (v := 7) C0 dL_days_136 (by decide) ?_
  refine r_callWp C0 (st := []) (kc1 := kc + 1) [.ref p0, .int (7 : Int32)] hf vs_159 (fun hl r1 hr1 => c_L_tryAbout hl F p0 (7 : Int32) hk_p0 M r1 hr1) rfl rfl (Nat.le_of_ble_eq_true rfl) dL_days_138 (zrm_k 7635 rfl (by omega)) (by omega) (fun r1 hr1 hf => ?_)
  refine r_istore (L' := [(13, .int r1), (12, .int s0), (0, .ref p0), (2, .int v2), (3, .int v3), (4, .int v4), (5, .int v5), (6, .int v6), (7, .int v7), (9, .int v9), (10, .int v10), (11, .int v11)]) C0 dL_days_141 (by decide) rfl ?_
  refine r_aload_n C0 dL_days_143 rfl 2 rfl ?_
  refine r_bipush (v := 8) C0 dL_days_144 (by decide) ?_
  refine r_callWp C0 (st := []) (kc1 := kc + 2) [.ref p0, .int (8 : Int32)] hf vs_159 (fun hl r2 hr2 => c_L_tryAbout hl F p0 (8 : Int32) hk_p0 M r2 hr2) rfl rfl (Nat.le_of_ble_eq_true rfl) dL_days_146 (zrm_k 7635 rfl (by omega)) (by omega) (fun r2 hr2 hf => ?_)
  refine r_istore (L' := [(14, .int r2), (13, .int r1), (12, .int s0), (0, .ref p0), (2, .int v2), (3, .int v3), (4, .int v4), (5, .int v5), (6, .int v6), (7, .int v7), (9, .int v9), (10, .int v10), (11, .int v11)]) C0 dL_days_149 (by decide) rfl ?_
  refine r_aload_n C0 dL_days_151 rfl 3 rfl ?_
  refine r_bipush (v := 10) C0 dL_days_152 (by decide) ?_
  refine r_callWp C0 (st := []) (kc1 := kc + 3) [.ref p0, .int (10 : Int32)] hf vs_159 (fun hl r3 hr3 => c_L_tryAbout hl F p0 (10 : Int32) hk_p0 M r3 hr3) rfl rfl (Nat.le_of_ble_eq_true rfl) dL_days_154 (zrm_k 7635 rfl (by omega)) (by omega) (fun r3 hr3 hf => ?_)
  refine r_istore (L' := [(15, .int r3), (14, .int r2), (13, .int r1), (12, .int s0), (0, .ref p0), (2, .int v2), (3, .int v3), (4, .int v4), (5, .int v5), (6, .int v6), (7, .int v7), (9, .int v9), (10, .int v10), (11, .int v11)]) C0 dL_days_157 (by decide) rfl ?_
  refine r_aload_n C0 dL_days_159 rfl 4 rfl ?_
  refine r_bipush (v := 11) C0 dL_days_160 (by decide) ?_
  refine r_callWp C0 (st := []) (kc1 := kc + 4) [.ref p0, .int (11 : Int32)] hf vs_159 (fun hl r4 hr4 => c_L_tryAbout hl F p0 (11 : Int32) hk_p0 M r4 hr4) rfl rfl (Nat.le_of_ble_eq_true rfl) dL_days_162 (zrm_k 7635 rfl (by omega)) (by omega) (fun r4 hr4 hf => ?_)
  refine r_istore (L' := [(16, .int r4), (15, .int r3), (14, .int r2), (13, .int r1), (12, .int s0), (0, .ref p0), (2, .int v2), (3, .int v3), (4, .int v4), (5, .int v5), (6, .int v6), (7, .int v7), (9, .int v9), (10, .int v10), (11, .int v11)]) C0 dL_days_165 (by decide) rfl ?_
  refine r_aload_n C0 dL_days_167 rfl 5 rfl ?_
  refine r_bipush (v := 12) C0 dL_days_168 (by decide) ?_
  refine r_callWp C0 (st := []) (kc1 := kc + 5) [.ref p0, .int (12 : Int32)] hf vs_159 (fun hl r5 hr5 => c_L_tryAbout hl F p0 (12 : Int32) hk_p0 M r5 hr5) rfl rfl (Nat.le_of_ble_eq_true rfl) dL_days_170 (zrm_k 7635 rfl (by omega)) (by omega) (fun r5 hr5 hf => ?_)
  refine r_istore (L' := [(17, .int r5), (16, .int r4), (15, .int r3), (14, .int r2), (13, .int r1), (12, .int s0), (0, .ref p0), (2, .int v2), (3, .int v3), (4, .int v4), (5, .int v5), (6, .int v6), (7, .int v7), (9, .int v9), (10, .int v10), (11, .int v11)]) C0 dL_days_173 (by decide) rfl ?_
  refine r_aload_n C0 dL_days_175 rfl 6 rfl ?_
  refine r_iconst (v := 4) C0 dL_days_176 (by decide) ?_
  refine r_callWp C0 (st := []) (kc1 := kc + 6) [.ref p0, .int (4 : Int32)] hf vs_160 (fun hl r6 hr6 => c_L_tryAccount hl F p0 (4 : Int32) hk_p0 M r6 hr6) rfl rfl (Nat.le_of_ble_eq_true rfl) dL_days_177 (zrm_k 7635 rfl (by omega)) (by omega) (fun r6 hr6 hf => ?_)
  refine r_istore (L' := [(18, .int r6), (17, .int r5), (16, .int r4), (15, .int r3), (14, .int r2), (13, .int r1), (12, .int s0), (0, .ref p0), (2, .int v2), (3, .int v3), (4, .int v4), (5, .int v5), (6, .int v6), (7, .int v7), (9, .int v9), (10, .int v10), (11, .int v11)]) C0 dL_days_180 (by decide) rfl ?_
  refine r_aload_n C0 dL_days_182 rfl 7 rfl ?_
  refine r_iload C0 dL_days_183 15 rfl ?_
  refine r_callWp C0 (st := []) (kc1 := kc + 7) [.ref p0, .int v10] hf vs_165 (fun hl r7 hr7 => c_L_tryWaves hl F p0 v10 hk_p0 M r7 hr7) rfl rfl (Nat.le_of_ble_eq_true rfl) dL_days_185 (zrm_k 7635 rfl (by omega)) (by omega) (fun r7 hr7 hf => ?_)
  refine r_istore (L' := [(19, .int r7), (18, .int r6), (17, .int r5), (16, .int r4), (15, .int r3), (14, .int r2), (13, .int r1), (12, .int s0), (0, .ref p0), (2, .int v2), (3, .int v3), (4, .int v4), (5, .int v5), (6, .int v6), (7, .int v7), (9, .int v9), (10, .int v10), (11, .int v11)]) C0 dL_days_188 (by decide) rfl ?_
  refine r_aload_n C0 dL_days_190 rfl 8 rfl ?_
  refine r_iconst (v := 1) C0 dL_days_191 (by decide) ?_
  refine r_callWp C0 (st := []) (kc1 := kc + 8) [.ref p0, .int (1 : Int32)] hf vs_160 (fun hl r8 hr8 => c_L_tryAccount hl F p0 (1 : Int32) hk_p0 M r8 hr8) rfl rfl (Nat.le_of_ble_eq_true rfl) dL_days_192 (zrm_k 7635 rfl (by omega)) (by omega) (fun r8 hr8 hf => ?_)
  refine r_istore (L' := [(20, .int r8), (19, .int r7), (18, .int r6), (17, .int r5), (16, .int r4), (15, .int r3), (14, .int r2), (13, .int r1), (12, .int s0), (0, .ref p0), (2, .int v2), (3, .int v3), (4, .int v4), (5, .int v5), (6, .int v6), (7, .int v7), (9, .int v9), (10, .int v10), (11, .int v11)]) C0 dL_days_195 (by decide) rfl ?_
  refine r_iconst (v := 0) C0 dL_days_197 (by decide) ?_
  refine r_istore (L' := [(21, .int (0 : Int32)), (20, .int r8), (19, .int r7), (18, .int r6), (17, .int r5), (16, .int r4), (15, .int r3), (14, .int r2), (13, .int r1), (12, .int s0), (0, .ref p0), (2, .int v2), (3, .int v3), (4, .int v4), (5, .int v5), (6, .int v6), (7, .int v7), (9, .int v9), (10, .int v10), (11, .int v11)]) C0 dL_days_198 (by decide) rfl ?_
  refine r_iconst (v := 0) C0 dL_days_200 (by decide) ?_
  refine r_istore (L' := [(22, .int (0 : Int32)), (21, .int (0 : Int32)), (20, .int r8), (19, .int r7), (18, .int r6), (17, .int r5), (16, .int r4), (15, .int r3), (14, .int r2), (13, .int r1), (12, .int s0), (0, .ref p0), (2, .int v2), (3, .int v3), (4, .int v4), (5, .int v5), (6, .int v6), (7, .int v7), (9, .int v9), (10, .int v10), (11, .int v11)]) C0 dL_days_201 (by decide) rfl ?_
  refine r_iconst (v := 0) C0 dL_days_203 (by decide) ?_
  refine r_istore (L' := [(23, .int (0 : Int32)), (22, .int (0 : Int32)), (21, .int (0 : Int32)), (20, .int r8), (19, .int r7), (18, .int r6), (17, .int r5), (16, .int r4), (15, .int r3), (14, .int r2), (13, .int r1), (12, .int s0), (0, .ref p0), (2, .int v2), (3, .int v3), (4, .int v4), (5, .int v5), (6, .int v6), (7, .int v7), (9, .int v9), (10, .int v10), (11, .int v11)]) C0 dL_days_204 (by decide) rfl ?_
  refine r_sub (L' := [(0, .ref p0), (2, .int v2), (3, .int v3), (4, .int v4), (5, .int v5), (6, .int v6), (7, .int v7), (9, .int v9), (10, .int v10), (11, .int v11), (12, .int s0), (13, .int r1), (14, .int r2), (15, .int r3), (16, .int r4), (17, .int r5), (18, .int r6), (19, .int r7), (20, .int r8), (21, .int (0 : Int32)), (22, .int (0 : Int32)), (23, .int (0 : Int32))]) [12, 13, 14, 15, 16, 17, 18, 19, 20, 21, 11, 10, 9, 8, 7, 6, 5, 4, 3, 2, 1, 0] rfl ?_
  exact g_L_days_206 C0 F p0 p1 k_92 TK_92 hk_p0 hk_k_92 6 v2 v3 v4 v5 v6 v7 v9 v10 v11 s0 r1 r2 r3 r4 r5 r6 r7 r8 (0 : Int32) (0 : Int32) (0 : Int32) M _ hf _ (by omega)
set_option maxHeartbeats 4000000 in
set_option maxRecDepth 100000 in
theorem g_L_days_92 {Γ : zCx} {E : zEn} {S : zSk} {X : zMl} (C0 : zCt Γ E RL cL_days 28 (Option.some Jvm.ClassFile.FieldType.boolean) [] { frames := 10, cells := 7635, slots := 45810, locals := 185 }) (F : Nat) (p0 : Nat) (p1 : Int32) (hk_p0 : K_X10 S p0)  : ∀ (n : Nat) (v2 : Int32) (v3 : Int32) (v4 : Int32) (v5 : Int32) (v6 : Int32) (v7 : Int32) (v8 : Int32) (v9 : Int32) (M : zMi) (r : Int32 × zMi), f_L_days_92 F p0 p1 n v2 v3 v4 v5 v6 v7 v8 v9 M = some r → ∀ kc : Nat, kc + (n * 282 + 4) ≤ 7635 → zG Γ (zQX Γ E 7635 45810 S (.inr (some (.int r.1)), r.2) X) E 28 kc (6 * kc) S ZT M X 92 [(0, .ref p0), (2, .int v2), (3, .int v3), (4, .int v4), (5, .int v5), (6, .int v6), (7, .int v7), (8, .int v8), (9, .int v9)] [] := by
  intro n
  induction n with
  | zero => intro v2 v3 v4 v5 v6 v7 v8 v9 M r hf; cases hf
  | succ n ih =>
    intro v2 v3 v4 v5 v6 v7 v8 v9 M r hf kc hkc
    refine r_iload C0 dL_days_92 8 rfl ?_
    refine r_iload_n C0 dL_days_94 rfl 1 rfl ?_
    refine r_icmp_ge C0 904 dL_days_95 (by decide) hf (fun hf => ?_) (fun hf => ?_)
    · refine r_sub (L' := [(0, .ref p0), (3, .int v3), (4, .int v4), (5, .int v5), (6, .int v6), (7, .int v7), (8, .int v8)]) [0, 2, 3, 4, 5, 6, 7] rfl ?_
      exact g_L_days_904 C0 F p0 p1 hk_p0 v3 v4 v5 v6 v7 v8 M _ hf _ (by omega)
    · refine r_iload C0 dL_days_98 7 rfl ?_
      refine r_if_eq C0 904 dL_days_100 (by decide) hf (fun hf => ?_) (fun hf => ?_)
      · refine r_sub (L' := [(0, .ref p0), (3, .int v3), (4, .int v4), (5, .int v5), (6, .int v6), (7, .int v7), (8, .int v8)]) [0, 2, 3, 4, 5, 6, 7] rfl ?_
        exact g_L_days_904 C0 F p0 p1 hk_p0 v3 v4 v5 v6 v7 v8 M _ hf _ (by omega)
      · refine r_aload_n C0 dL_days_103 rfl 0 rfl ?_
        refine r_iconst (v := 5) C0 dL_days_104 (by decide) ?_
        refine r_callWp C0 (st := []) (kc1 := kc + 1) [.ref p0, .int (5 : Int32)] hf vs_159 (fun hl r1 hr1 => c_L_tryAbout hl F p0 (5 : Int32) hk_p0 M r1 hr1) rfl rfl (Nat.le_of_ble_eq_true rfl) dL_days_105 (zrm_k 7635 rfl (by omega)) (by omega) (fun r1 hr1 hf => ?_)
        refine r_istore (L' := [(10, .int r1), (0, .ref p0), (2, .int v2), (3, .int v3), (4, .int v4), (5, .int v5), (6, .int v6), (7, .int v7), (8, .int v8), (9, .int v9)]) C0 dL_days_108 (by decide) rfl ?_
        refine r_aload_n C0 dL_days_110 rfl 1 rfl ?_
        refine r_bipush (v := 6) C0 dL_days_111 (by decide) ?_
        refine r_callWp C0 (st := []) (kc1 := kc + 2) [.ref p0, .int (6 : Int32)] hf vs_159 (fun hl r2 hr2 => c_L_tryAbout hl F p0 (6 : Int32) hk_p0 M r2 hr2) rfl rfl (Nat.le_of_ble_eq_true rfl) dL_days_113 (zrm_k 7635 rfl (by omega)) (by omega) (fun r2 hr2 hf => ?_)
        refine r_istore (L' := [(11, .int r2), (10, .int r1), (0, .ref p0), (2, .int v2), (3, .int v3), (4, .int v4), (5, .int v5), (6, .int v6), (7, .int v7), (8, .int v8), (9, .int v9)]) C0 dL_days_116 (by decide) rfl ?_
        refine r_iload C0 dL_days_118 0 rfl ?_
        refine r_aload_n C0 dL_days_120 rfl 2 rfl ?_
        refine r_iconst (v := 0) C0 dL_days_121 (by decide) ?_
        refine r_callWp C0 (st := [.int r2]) (kc1 := kc + 3) [.ref p0, .int (0 : Int32)] hf vs_159 (fun hl r3 hr3 => c_L_tryAbout hl F p0 (0 : Int32) hk_p0 M r3 hr3) rfl rfl (Nat.le_of_ble_eq_true rfl) dL_days_122 (zrm_k 7635 rfl (by omega)) (by omega) (fun r3 hr3 hf => ?_)
        refine r_icmp_ne C0 132 dL_days_125 (by decide) hf (fun hf => ?_) (fun hf => ?_)
        · refine r_iconst (v := 0) C0 dL_days_132 (by decide) ?_
          refine r_sub (L' := [(0, .ref p0), (2, .int v2), (3, .int v3), (4, .int v4), (5, .int v5), (6, .int v6), (7, .int v7), (9, .int v9), (10, .int r1), (11, .int r2)]) [2, 3, 4, 5, 6, 7, 8, 10, 1, 0] rfl ?_
          exact g_L_days_133 C0 F p0 p1 (f_L_days_92 F p0 p1 n) (n * 282 + 4) hk_p0 ih v2 v3 v4 v5 v6 v7 v9 r1 r2 (0 : Int32) M _ hf _ (by omega)
        · refine r_iconst (v := 1) C0 dL_days_128 (by decide) ?_
          refine r_goto C0 133 dL_days_129 (by decide) ?_
          refine r_sub (L' := [(0, .ref p0), (2, .int v2), (3, .int v3), (4, .int v4), (5, .int v5), (6, .int v6), (7, .int v7), (9, .int v9), (10, .int r1), (11, .int r2)]) [2, 3, 4, 5, 6, 7, 8, 10, 1, 0] rfl ?_
          exact g_L_days_133 C0 F p0 p1 (f_L_days_92 F p0 p1 n) (n * 282 + 4) hk_p0 ih v2 v3 v4 v5 v6 v7 v9 r1 r2 (1 : Int32) M _ hf _ (by omega)
set_option maxHeartbeats 4000000 in
set_option maxRecDepth 100000 in
theorem c_L_days {l : Launch} {E : zEn} {S : zSk} {X : zMl} (hl : l.stackTraces = false) (F : Nat) (p0 : Nat) (p1 : Int32) (hk_p0 : K_X10 S p0) (M : zMi) (r : Int32 × zMi) (hf : f_L_days F p0 p1 M = some r) : zMX l E yL_days cL_days 28 (Option.some Jvm.ClassFile.FieldType.boolean) { frames := 10, cells := 7635, slots := 45810, locals := 185 } 7635 45810 [.ref p0, .int p1] S M X (.inr (some (.int r.1)), r.2) := by
  refine zMX.intro (L0 := [(0, .ref p0), (1, .int p1)]) hl (by decide) (Nat.le_of_ble_eq_true rfl) rfl (fun Γ C0 => ?_)
  unfold f_L_days at hf
  refine r_iconst (v := 1) C0 dL_days_0 (by decide) ?_
  refine r_iload_n C0 dL_days_1 rfl 1 rfl ?_
  refine r_bipush (v := 25) C0 dL_days_2 (by decide) ?_
  refine r_irem' C0 dL_days_4 (by decide) ?_
  refine r_iadd C0 dL_days_5 ?_
  refine r_nm hf (fun x1 hf => ?_)
  refine r_istore_n (L' := [(2, .int x1), (0, .ref p0), (1, .int p1)]) C0 dL_days_6 rfl (by decide) rfl ?_
  refine r_aload_n C0 dL_days_7 rfl 1 rfl ?_
  refine r_iload_n C0 dL_days_8 rfl 0 rfl ?_
  refine r_iconst (v := 0) C0 dL_days_9 (by decide) ?_
  refine r_callWw C0 (st := []) (kc1 := 2) [.ref p0, .int x1, .int (0 : Int32)] hf vs_176 (fun hl r2 hr2 => c_L_tryAhead hl F p0 x1 (0 : Int32) hk_p0 M r2 hr2) rfl rfl (Nat.le_of_ble_eq_true rfl) dL_days_10 (zrm_k 7635 rfl (Nat.le_of_ble_eq_true rfl)) (Nat.le_of_ble_eq_true rfl) (fun r2 hr2 hf => ?_)
  refine r_istore_n (L' := [(3, .int r2.1), (2, .int x1), (0, .ref p0), (1, .int p1)]) C0 dL_days_13 rfl (by decide) rfl ?_
  refine r_aload_n C0 dL_days_14 rfl 2 rfl ?_
  refine r_iload_n C0 dL_days_15 rfl 1 rfl ?_
  refine r_iconst (v := 1) C0 dL_days_16 (by decide) ?_
  refine r_callWw C0 (st := []) (kc1 := 4) [.ref p0, .int x1, .int (1 : Int32)] hf vs_176 (fun hl r3 hr3 => c_L_tryAhead hl F p0 x1 (1 : Int32) hk_p0 r2.2 r3 hr3) rfl rfl (Nat.le_of_ble_eq_true rfl) dL_days_17 (zrm_k 7635 rfl (Nat.le_of_ble_eq_true rfl)) (Nat.le_of_ble_eq_true rfl) (fun r3 hr3 hf => ?_)
  refine r_istore (L' := [(4, .int r3.1), (3, .int r2.1), (2, .int x1), (0, .ref p0), (1, .int p1)]) C0 dL_days_20 (by decide) rfl ?_
  refine r_aload_n C0 dL_days_22 rfl 3 rfl ?_
  refine r_iload_n C0 dL_days_23 rfl 2 rfl ?_
  refine r_iconst (v := 2) C0 dL_days_24 (by decide) ?_
  refine r_callWw C0 (st := []) (kc1 := 6) [.ref p0, .int x1, .int (2 : Int32)] hf vs_176 (fun hl r4 hr4 => c_L_tryAhead hl F p0 x1 (2 : Int32) hk_p0 r3.2 r4 hr4) rfl rfl (Nat.le_of_ble_eq_true rfl) dL_days_25 (zrm_k 7635 rfl (Nat.le_of_ble_eq_true rfl)) (Nat.le_of_ble_eq_true rfl) (fun r4 hr4 hf => ?_)
  refine r_aload_n C0 dL_days_28 rfl 3 rfl ?_
  refine r_iconst (v := 4) C0 dL_days_29 (by decide) ?_
  refine r_callWp C0 (st := [.int r4.1]) (kc1 := 7) [.ref p0, .int (4 : Int32)] hf vs_160 (fun hl r5 hr5 => c_L_tryAccount hl F p0 (4 : Int32) hk_p0 r4.2 r5 hr5) rfl rfl (Nat.le_of_ble_eq_true rfl) dL_days_30 (zrm_k 7635 rfl (Nat.le_of_ble_eq_true rfl)) (Nat.le_of_ble_eq_true rfl) (fun r5 hr5 hf => ?_)
  refine r_iadd C0 dL_days_33 ?_
  refine r_nm hf (fun x6 hf => ?_)
  refine r_istore (L' := [(5, .int x6), (4, .int r3.1), (3, .int r2.1), (2, .int x1), (0, .ref p0), (1, .int p1)]) C0 dL_days_34 (by decide) rfl ?_
  refine r_aload_n C0 dL_days_36 rfl 4 rfl ?_
  refine r_iload_n C0 dL_days_37 rfl 3 rfl ?_
  refine r_iconst (v := 3) C0 dL_days_38 (by decide) ?_
  refine r_callWw C0 (st := []) (kc1 := 9) [.ref p0, .int x1, .int (3 : Int32)] hf vs_176 (fun hl r7 hr7 => c_L_tryAhead hl F p0 x1 (3 : Int32) hk_p0 r4.2 r7 hr7) rfl rfl (Nat.le_of_ble_eq_true rfl) dL_days_39 (zrm_k 7635 rfl (Nat.le_of_ble_eq_true rfl)) (Nat.le_of_ble_eq_true rfl) (fun r7 hr7 hf => ?_)
  refine r_aload_n C0 dL_days_42 rfl 4 rfl ?_
  refine r_iconst (v := 5) C0 dL_days_43 (by decide) ?_
  refine r_callWp C0 (st := [.int r7.1]) (kc1 := 10) [.ref p0, .int (5 : Int32)] hf vs_160 (fun hl r8 hr8 => c_L_tryAccount hl F p0 (5 : Int32) hk_p0 r7.2 r8 hr8) rfl rfl (Nat.le_of_ble_eq_true rfl) dL_days_44 (zrm_k 7635 rfl (Nat.le_of_ble_eq_true rfl)) (Nat.le_of_ble_eq_true rfl) (fun r8 hr8 hf => ?_)
  refine r_iadd C0 dL_days_47 ?_
  refine r_nm hf (fun x9 hf => ?_)
  refine r_istore (L' := [(6, .int x9), (5, .int x6), (4, .int r3.1), (3, .int r2.1), (2, .int x1), (0, .ref p0), (1, .int p1)]) C0 dL_days_48 (by decide) rfl ?_
  refine r_aload_n C0 dL_days_50 rfl 5 rfl ?_
  refine r_iload_n C0 dL_days_51 rfl 4 rfl ?_
  refine r_iconst (v := 4) C0 dL_days_52 (by decide) ?_
  refine r_callWw C0 (st := []) (kc1 := 12) [.ref p0, .int x1, .int (4 : Int32)] hf vs_176 (fun hl r10 hr10 => c_L_tryAhead hl F p0 x1 (4 : Int32) hk_p0 r7.2 r10 hr10) rfl rfl (Nat.le_of_ble_eq_true rfl) dL_days_53 (zrm_k 7635 rfl (Nat.le_of_ble_eq_true rfl)) (Nat.le_of_ble_eq_true rfl) (fun r10 hr10 hf => ?_)
  refine r_istore (L' := [(7, .int r10.1), (6, .int x9), (5, .int x6), (4, .int r3.1), (3, .int r2.1), (2, .int x1), (0, .ref p0), (1, .int p1)]) C0 dL_days_56 (by decide) rfl ?_
  refine r_aload_n C0 dL_days_58 rfl 6 rfl ?_
  refine r_iconst (v := 0) C0 dL_days_59 (by decide) ?_
  refine r_iconst (v := 0) C0 dL_days_60 (by decide) ?_
  refine r_callWw C0 (st := []) (kc1 := 14) [.ref p0, .int (0 : Int32), .int (0 : Int32)] hf vs_176 (fun hl r11 hr11 => c_L_tryAhead hl F p0 (0 : Int32) (0 : Int32) hk_p0 r10.2 r11 hr11) rfl rfl (Nat.le_of_ble_eq_true rfl) dL_days_61 (zrm_k 7635 rfl (Nat.le_of_ble_eq_true rfl)) (Nat.le_of_ble_eq_true rfl) (fun r11 hr11 hf => ?_)
  refine r_if_ne C0 86 dL_days_64 (by decide) hf (fun hf => ?_) (fun hf => ?_)
  · refine r_iconst (v := 0) C0 dL_days_86 (by decide) ?_
    refine r_istore (L' := [(8, .int (0 : Int32)), (7, .int r10.1), (6, .int x9), (5, .int x6), (4, .int r3.1), (3, .int r2.1), (2, .int x1), (0, .ref p0), (1, .int p1)]) C0 dL_days_87 (by decide) rfl ?_
    refine r_iconst (v := 0) C0 dL_days_89 (by decide) ?_
    refine r_istore (L' := [(9, .int (0 : Int32)), (8, .int (0 : Int32)), (7, .int r10.1), (6, .int x9), (5, .int x6), (4, .int r3.1), (3, .int r2.1), (2, .int x1), (0, .ref p0), (1, .int p1)]) C0 dL_days_90 (by decide) rfl ?_
    refine r_sub (L' := [(0, .ref p0), (2, .int x1), (3, .int r2.1), (4, .int r3.1), (5, .int x6), (6, .int x9), (7, .int r10.1), (8, .int (0 : Int32)), (9, .int (0 : Int32))]) [8, 7, 6, 5, 4, 3, 2, 1, 0] rfl ?_
    exact g_L_days_92 C0 F p0 p1 hk_p0 27 x1 r2.1 r3.1 x6 x9 r10.1 (0 : Int32) (0 : Int32) r11.2 _ hf _ (Nat.le_of_ble_eq_true rfl)
  · refine r_aload_n C0 dL_days_67 rfl 6 rfl ?_
    refine r_iconst (v := 0) C0 dL_days_68 (by decide) ?_
    refine r_iconst (v := 4) C0 dL_days_69 (by decide) ?_
    refine r_callWw C0 (st := []) (kc1 := 16) [.ref p0, .int (0 : Int32), .int (4 : Int32)] hf vs_176 (fun hl r12 hr12 => c_L_tryAhead hl F p0 (0 : Int32) (4 : Int32) hk_p0 r11.2 r12 hr12) rfl rfl (Nat.le_of_ble_eq_true rfl) dL_days_70 (zrm_k 7635 rfl (Nat.le_of_ble_eq_true rfl)) (Nat.le_of_ble_eq_true rfl) (fun r12 hr12 hf => ?_)
    refine r_aload_n C0 dL_days_73 rfl 6 rfl ?_
    refine r_bipush (v := 9) C0 dL_days_74 (by decide) ?_
    refine r_callWp C0 (st := [.int r12.1]) (kc1 := 17) [.ref p0, .int (9 : Int32)] hf vs_159 (fun hl r13 hr13 => c_L_tryAbout hl F p0 (9 : Int32) hk_p0 r12.2 r13 hr13) rfl rfl (Nat.le_of_ble_eq_true rfl) dL_days_76 (zrm_k 7635 rfl (Nat.le_of_ble_eq_true rfl)) (Nat.le_of_ble_eq_true rfl) (fun r13 hr13 hf => ?_)
    refine r_icmp_ne C0 86 dL_days_79 (by decide) hf (fun hf => ?_) (fun hf => ?_)
    · refine r_iconst (v := 0) C0 dL_days_86 (by decide) ?_
      refine r_istore (L' := [(8, .int (0 : Int32)), (7, .int r10.1), (6, .int x9), (5, .int x6), (4, .int r3.1), (3, .int r2.1), (2, .int x1), (0, .ref p0), (1, .int p1)]) C0 dL_days_87 (by decide) rfl ?_
      refine r_iconst (v := 0) C0 dL_days_89 (by decide) ?_
      refine r_istore (L' := [(9, .int (0 : Int32)), (8, .int (0 : Int32)), (7, .int r10.1), (6, .int x9), (5, .int x6), (4, .int r3.1), (3, .int r2.1), (2, .int x1), (0, .ref p0), (1, .int p1)]) C0 dL_days_90 (by decide) rfl ?_
      refine r_sub (L' := [(0, .ref p0), (2, .int x1), (3, .int r2.1), (4, .int r3.1), (5, .int x6), (6, .int x9), (7, .int r10.1), (8, .int (0 : Int32)), (9, .int (0 : Int32))]) [8, 7, 6, 5, 4, 3, 2, 1, 0] rfl ?_
      exact g_L_days_92 C0 F p0 p1 hk_p0 27 x1 r2.1 r3.1 x6 x9 r10.1 (0 : Int32) (0 : Int32) r12.2 _ hf _ (Nat.le_of_ble_eq_true rfl)
    · refine r_iconst (v := 1) C0 dL_days_82 (by decide) ?_
      refine r_goto C0 87 dL_days_83 (by decide) ?_
      refine r_istore (L' := [(8, .int (1 : Int32)), (7, .int r10.1), (6, .int x9), (5, .int x6), (4, .int r3.1), (3, .int r2.1), (2, .int x1), (0, .ref p0), (1, .int p1)]) C0 dL_days_87 (by decide) rfl ?_
      refine r_iconst (v := 0) C0 dL_days_89 (by decide) ?_
      refine r_istore (L' := [(9, .int (0 : Int32)), (8, .int (1 : Int32)), (7, .int r10.1), (6, .int x9), (5, .int x6), (4, .int r3.1), (3, .int r2.1), (2, .int x1), (0, .ref p0), (1, .int p1)]) C0 dL_days_90 (by decide) rfl ?_
      refine r_sub (L' := [(0, .ref p0), (2, .int x1), (3, .int r2.1), (4, .int r3.1), (5, .int x6), (6, .int x9), (7, .int r10.1), (8, .int (1 : Int32)), (9, .int (0 : Int32))]) [8, 7, 6, 5, 4, 3, 2, 1, 0] rfl ?_
      exact g_L_days_92 C0 F p0 p1 hk_p0 27 x1 r2.1 r3.1 x6 x9 r10.1 (1 : Int32) (0 : Int32) r12.2 _ hf _ (Nat.le_of_ble_eq_true rfl)
set_option maxHeartbeats 4000000 in
set_option maxRecDepth 100000 in
theorem g_L_after_53 {Γ : zCx} {E : zEn} {S : zSk} {X : zMl} (C0 : zCt Γ E RL cL_after 9 (Option.some Jvm.ClassFile.FieldType.int) [] { frames := 9, cells := 15, slots := 90, locals := 181 }) (F : Nat) (p0 : Nat) (p1 : Int32) (p2 : Int32) (p3 : Int32) (hk_p0 : K_X10 S p0)  (s0 : Int32) (M : zMi) (r : Int32 × zMi) (hf : f_L_after_53 F p0 p1 p2 p3 s0 M = some r) (kc : Nat) (hkc : kc + (6) ≤ 15) : zG Γ (zQX Γ E 15 90 S (.inr (some (.int r.1)), r.2) X) E 9 kc (6 * kc) S ZT M X 53 [(0, .ref p0), (1, .int p1), (2, .int p2), (3, .int p3)] [.int s0] := by
  unfold f_L_after_53 at hf
  refine r_istore (L' := [(6, .int s0), (0, .ref p0), (1, .int p1), (2, .int p2), (3, .int p3)]) C0 dL_after_53 (by decide) rfl ?_
  refine r_aload_n C0 dL_after_55 rfl 1 rfl ?_
  refine r_iload_n C0 dL_after_56 rfl 2 rfl ?_
  refine r_callWw C0 (st := []) (kc1 := kc + 2) [.ref p0, .int p1] hf vs_167 (fun hl r1 hr1 => c_L_trySend hl F p0 p1 hk_p0 M r1 hr1) rfl rfl (Nat.le_of_ble_eq_true rfl) dL_after_57 (zrm_k 15 rfl (by omega)) (by omega) (fun r1 hr1 hf => ?_)
  refine r_istore (L' := [(7, .int r1.1), (6, .int s0), (0, .ref p0), (1, .int p1), (2, .int p2), (3, .int p3)]) C0 dL_after_60 (by decide) rfl ?_
  refine r_aload_n C0 dL_after_62 rfl 2 rfl ?_
  refine r_bipush (v := 60) C0 dL_after_63 (by decide) ?_
  refine r_iload_n C0 dL_after_65 rfl 4 rfl ?_
  refine r_callWw C0 (st := []) (kc1 := kc + 4) [.ref p0, .int (60 : Int32), .int p2] hf vs_176 (fun hl r2 hr2 => c_L_tryAhead hl F p0 (60 : Int32) p2 hk_p0 r1.2 r2 hr2) rfl rfl (Nat.le_of_ble_eq_true rfl) dL_after_66 (zrm_k 15 rfl (by omega)) (by omega) (fun r2 hr2 hf => ?_)
  refine r_istore (L' := [(8, .int r2.1), (7, .int r1.1), (6, .int s0), (0, .ref p0), (1, .int p1), (2, .int p2), (3, .int p3)]) C0 dL_after_69 (by decide) rfl ?_
  refine r_iload C0 dL_after_71 2 rfl ?_
  refine r_if_lt C0 95 dL_after_73 (by decide) hf (fun hf => ?_) (fun hf => ?_)
  · refine r_iconst (v := -1) C0 dL_after_95 (by decide) ?_
    obtain rfl := Option.some.inj hf
    refine r_widen (k1 := 15) (s1 := 90) (by omega) (by omega) ?_
    exact rX_iret C0 rfl dL_after_96
  · refine r_iload C0 dL_after_76 1 rfl ?_
    refine r_if_le C0 95 dL_after_78 (by decide) hf (fun hf => ?_) (fun hf => ?_)
    · refine r_iconst (v := -1) C0 dL_after_95 (by decide) ?_
      obtain rfl := Option.some.inj hf
      refine r_widen (k1 := 15) (s1 := 90) (by omega) (by omega) ?_
      exact rX_iret C0 rfl dL_after_96
    · refine r_aload_n C0 dL_after_81 rfl 3 rfl ?_
      refine r_iconst (v := 0) C0 dL_after_82 (by decide) ?_
      refine r_callWw C0 (st := []) (kc1 := kc + 6) [.ref p0, .int (0 : Int32)] hf vs_163 (fun hl r3 hr3 => c_L_tryRestore hl F p0 (0 : Int32) hk_p0 r2.2 r3 hr3) rfl rfl (Nat.le_of_ble_eq_true rfl) dL_after_83 (zrm_k 15 rfl (by omega)) (by omega) (fun r3 hr3 hf => ?_)
      refine r_iload_n C0 dL_after_86 rfl 6 rfl ?_
      refine r_icmp_ne C0 95 dL_after_87 (by decide) hf (fun hf => ?_) (fun hf => ?_)
      · refine r_iconst (v := -1) C0 dL_after_95 (by decide) ?_
        obtain rfl := Option.some.inj hf
        refine r_widen (k1 := 15) (s1 := 90) (by omega) (by omega) ?_
        exact rX_iret C0 rfl dL_after_96
      · refine r_iload C0 dL_after_90 0 rfl ?_
        refine r_goto C0 96 dL_after_92 (by decide) ?_
        obtain rfl := Option.some.inj hf
        refine r_widen (k1 := 15) (s1 := 90) (by omega) (by omega) ?_
        exact rX_iret C0 rfl dL_after_96
set_option maxHeartbeats 4000000 in
set_option maxRecDepth 100000 in
theorem g_L_after_35 {Γ : zCx} {E : zEn} {S : zSk} {X : zMl} (C0 : zCt Γ E RL cL_after 9 (Option.some Jvm.ClassFile.FieldType.int) [] { frames := 9, cells := 15, slots := 90, locals := 181 }) (F : Nat) (p0 : Nat) (p1 : Int32) (p2 : Int32) (p3 : Int32) (hk_p0 : K_X10 S p0)  (s0 : Int32) (M : zMi) (r : Int32 × zMi) (hf : f_L_after_35 F p0 p1 p2 p3 s0 M = some r) (kc : Nat) (hkc : kc + (9) ≤ 15) : zG Γ (zQX Γ E 15 90 S (.inr (some (.int r.1)), r.2) X) E 9 kc (6 * kc) S ZT M X 35 [(0, .ref p0), (1, .int p1), (2, .int p2), (3, .int p3)] [.int s0] := by
  unfold f_L_after_35 at hf
  refine r_istore (L' := [(5, .int s0), (0, .ref p0), (1, .int p1), (2, .int p2), (3, .int p3)]) C0 dL_after_35 (by decide) rfl ?_
  refine r_iload C0 dL_after_37 0 rfl ?_
  refine r_if_ne C0 46 dL_after_39 (by decide) hf (fun hf => ?_) (fun hf => ?_)
  · refine r_aload_n C0 dL_after_46 rfl 1 rfl ?_
    refine r_iload_n C0 dL_after_47 rfl 2 rfl ?_
    refine r_iload C0 dL_after_48 0 rfl ?_
    refine r_callWw C0 (st := []) (kc1 := kc + 3) [.ref p0, .int p1, .int s0] hf vs_166 (fun hl r1 hr1 => c_L_tryTake hl F p0 p1 s0 hk_p0 M r1 hr1) rfl rfl (Nat.le_of_ble_eq_true rfl) dL_after_50 (zrm_k 15 rfl (by omega)) (by omega) (fun r1 hr1 hf => ?_)
    refine r_sub (L' := [(0, .ref p0), (1, .int p1), (2, .int p2), (3, .int p3)]) [1, 2, 3, 4] rfl ?_
    exact g_L_after_53 C0 F p0 p1 p2 p3 hk_p0 r1.1 r1.2 _ hf _ (by omega)
  · refine r_iconst (v := 0) C0 dL_after_42 (by decide) ?_
    refine r_goto C0 53 dL_after_43 (by decide) ?_
    refine r_sub (L' := [(0, .ref p0), (1, .int p1), (2, .int p2), (3, .int p3)]) [1, 2, 3, 4] rfl ?_
    exact g_L_after_53 C0 F p0 p1 p2 p3 hk_p0 (0 : Int32) M _ hf _ (by omega)
set_option maxHeartbeats 4000000 in
set_option maxRecDepth 100000 in
theorem c_L_after {l : Launch} {E : zEn} {S : zSk} {X : zMl} (hl : l.stackTraces = false) (F : Nat) (p0 : Nat) (p1 : Int32) (p2 : Int32) (p3 : Int32) (hk_p0 : K_X10 S p0) (M : zMi) (r : Int32 × zMi) (hf : f_L_after F p0 p1 p2 p3 M = some r) : zMX l E yL_after cL_after 9 (Option.some Jvm.ClassFile.FieldType.int) { frames := 9, cells := 15, slots := 90, locals := 181 } 15 90 [.ref p0, .int p1, .int p2, .int p3] S M X (.inr (some (.int r.1)), r.2) := by
  refine zMX.intro (L0 := [(0, .ref p0), (1, .int p1), (2, .int p2), (3, .int p3)]) hl (by decide) (Nat.le_of_ble_eq_true rfl) rfl (fun Γ C0 => ?_)
  unfold f_L_after at hf
  refine r_aload_n C0 dL_after_0 rfl 0 rfl ?_
  refine r_iload_n C0 dL_after_1 rfl 1 rfl ?_
  refine r_iconst (v := 0) C0 dL_after_2 (by decide) ?_
  refine r_callWp C0 (st := []) (kc1 := 2) [.ref p0, .int p1, .int (0 : Int32)] hf vs_161 (fun hl r1 hr1 => c_L_tryShip hl F p0 p1 (0 : Int32) hk_p0 M r1 hr1) rfl rfl (Nat.le_of_ble_eq_true rfl) dL_after_3 (zrm_k 15 rfl (Nat.le_of_ble_eq_true rfl)) (Nat.le_of_ble_eq_true rfl) (fun r1 hr1 hf => ?_)
  refine r_aload_n C0 dL_after_6 rfl 0 rfl ?_
  refine r_iload_n C0 dL_after_7 rfl 1 rfl ?_
  refine r_iconst (v := 4) C0 dL_after_8 (by decide) ?_
  refine r_callWp C0 (st := [.int r1]) (kc1 := 4) [.ref p0, .int p1, .int (4 : Int32)] hf vs_161 (fun hl r2 hr2 => c_L_tryShip hl F p0 p1 (4 : Int32) hk_p0 M r2 hr2) rfl rfl (Nat.le_of_ble_eq_true rfl) dL_after_9 (zrm_k 15 rfl (Nat.le_of_ble_eq_true rfl)) (Nat.le_of_ble_eq_true rfl) (fun r2 hr2 hf => ?_)
  refine r_isub C0 dL_after_12 ?_
  refine r_nm hf (fun x3 hf => ?_)
  refine r_istore (L' := [(4, .int x3), (0, .ref p0), (1, .int p1), (2, .int p2), (3, .int p3)]) C0 dL_after_13 (by decide) rfl ?_
  refine r_iload C0 dL_after_15 0 rfl ?_
  refine r_aload_n C0 dL_after_17 rfl 1 rfl ?_
  refine r_iconst (v := 4) C0 dL_after_18 (by decide) ?_
  refine r_callWp C0 (st := [.int x3]) (kc1 := 5) [.ref p0, .int (4 : Int32)] hf vs_159 (fun hl r4 hr4 => c_L_tryAbout hl F p0 (4 : Int32) hk_p0 M r4 hr4) rfl rfl (Nat.le_of_ble_eq_true rfl) dL_after_19 (zrm_k 15 rfl (Nat.le_of_ble_eq_true rfl)) (Nat.le_of_ble_eq_true rfl) (fun r4 hr4 hf => ?_)
  refine r_icmp_ge C0 30 dL_after_22 (by decide) hf (fun hf => ?_) (fun hf => ?_)
  · refine r_aload_n C0 dL_after_30 rfl 1 rfl ?_
    refine r_iconst (v := 4) C0 dL_after_31 (by decide) ?_
    refine r_callWp C0 (st := []) (kc1 := 6) [.ref p0, .int (4 : Int32)] hf vs_159 (fun hl r5 hr5 => c_L_tryAbout hl F p0 (4 : Int32) hk_p0 M r5 hr5) rfl rfl (Nat.le_of_ble_eq_true rfl) dL_after_32 (zrm_k 15 rfl (Nat.le_of_ble_eq_true rfl)) (Nat.le_of_ble_eq_true rfl) (fun r5 hr5 hf => ?_)
    refine r_sub (L' := [(0, .ref p0), (1, .int p1), (2, .int p2), (3, .int p3)]) [1, 2, 3, 4] rfl ?_
    exact g_L_after_35 C0 F p0 p1 p2 p3 hk_p0 r5 M _ hf _ (Nat.le_of_ble_eq_true rfl)
  · refine r_iload C0 dL_after_25 0 rfl ?_
    refine r_goto C0 35 dL_after_27 (by decide) ?_
    refine r_sub (L' := [(0, .ref p0), (1, .int p1), (2, .int p2), (3, .int p3)]) [1, 2, 3, 4] rfl ?_
    exact g_L_after_35 C0 F p0 p1 p2 p3 hk_p0 x3 M _ hf _ (Nat.le_of_ble_eq_true rfl)
