set_option maxHeartbeats 4000000 in
set_option maxRecDepth 100000 in
theorem c_X10_extension {l : Launch} {E : zEn} {S : zSk} {X : zMl} (hl : l.stackTraces = false) (F : Nat) (p0 : Nat) (p1 : Int32) (hk_p0 : K_X10 S p0) (M : zMi) (r : (Nat ⊕ Int32) × zMi) (hf : f_X10_extension F p0 p1 M = some r) : zMX l E yX10_extension cX10_extension 5 (Option.some Jvm.ClassFile.FieldType.int) { frames := 7, cells := 1, slots := 6, locals := 136 } 1 6 [.ref p0, .int p1] S M X (Sum.map id (fun v => some (Value.int v)) r.1, r.2) := by
  refine zMX.intro (L0 := [(0, .ref p0), (1, .int p1)]) hl (by decide) (Nat.le_of_ble_eq_true rfl) rfl (fun Γ C0 => ?_)
  unfold f_X10_extension at hf
  refine r_aload_n C0 dX10_extension_0 rfl 0 rfl ?_
  refine r_getR C0 (C := RX10) (T := TX10) cl_X10 (K_X10_o hk_p0) (k := 2) (by decide) qw_360 rfl (K_X10_trial_r hk_p0) dX10_extension_1 ?_
  refine r_aload_n C0 dX10_extension_4 rfl 0 rfl ?_
  refine r_getR C0 (C := RX10) (T := TX10) cl_X10 (K_X10_o hk_p0) (k := 1) (by decide) qw_365 rfl (K_X10_now_r hk_p0) dX10_extension_5 ?_
  refine r_callVm C0 (st := []) [.ref (p0 + 3)] (p0 + 24) hf vs_77 (fun hl r1 hr1 => c_X5_copyFrom hl F (p0 + 24) (p0 + 3) (K_X10_trial_k hk_p0) (K_X10_now_k hk_p0) M r1 hr1) (K_X5_o (K_X10_trial_k hk_p0)) rfl rfl rfl rfl (Nat.le_of_ble_eq_true rfl) dX10_extension_8 (zrm_ok rfl) (fun r1 hr1 hf => ?_)
  refine r_aload_n C0 dX10_extension_11 rfl 0 rfl ?_
  refine r_getR C0 (C := RX10) (T := TX10) cl_X10 (K_X10_o hk_p0) (k := 2) (by decide) qw_360 rfl (K_X10_trial_r hk_p0) dX10_extension_12 ?_
  refine r_iload_n C0 dX10_extension_15 rfl 1 rfl ?_
  refine rX_callSp C0 (st := []) (fun q => some (Value.ref q)) [.ref (p0 + 24), .int p1] hf vs_84 (fun hl r9 h9 => c_X10_existingZone hl F (p0 + 24) p1 (K_X10_trial_k hk_p0) r1 r9 h9) rfl rfl (Nat.le_of_ble_eq_true rfl) dX10_extension_16 (zrm_ok rfl) (fun e hf => ?_) (fun q3 hq3 hf => ?_)
  · obtain rfl := Option.some.inj hf
    exact rX_out C0 rfl (by decide) (by decide)
  refine r_eqst (st1 := [.ref q3]) rfl ?_
  have hk_q3 := n_X10_existingZone hq3 (K_X10_trial_k hk_p0)
  refine r_astore_n (L' := [(2, .ref q3), (0, .ref p0), (1, .int p1)]) C0 dX10_extension_19 rfl (by decide) rfl ?_
  refine r_aload_n C0 dX10_extension_20 rfl 0 rfl ?_
  refine r_getI C0 (C := RX9) (T := TX9) cl_X9 (K_X9_o hk_q3) (k := 2) (by decide) qw_403 rfl dX10_extension_21 ?_
  refine r_nm hf (fun x4 hf => ?_)
  refine r_istore_n (L' := [(3, .int x4), (2, .ref q3), (0, .ref p0), (1, .int p1)]) C0 dX10_extension_24 rfl (by decide) rfl ?_
  refine r_aload_n C0 dX10_extension_25 rfl 1 rfl ?_
  refine r_iload_n C0 dX10_extension_26 rfl 0 rfl ?_
  refine r_bipush (v := 99) C0 dX10_extension_27 (by decide) ?_
  refine r_iadd C0 dX10_extension_29 ?_
  refine r_sipush (v := 999) C0 dX10_extension_30 (by decide) ?_
  refine r_mmin C0 qw_468 qw_143 qw_144 qw_145 (Nat.le_of_ble_eq_true rfl) (Nat.le_of_ble_eq_true rfl) (Nat.le_of_ble_eq_true rfl) (Nat.le_of_ble_eq_true rfl) dX10_extension_33 ?_
  refine r_putI C0 (C := RX9) (T := TX9) cl_X9 (K_X9_o hk_q3) (k := 2) (by decide) qw_403 rfl rfl rfl rfl hf dX10_extension_36 (fun M5 hf => ?_)
  refine r_aload_n C0 dX10_extension_39 rfl 2 rfl ?_
  refine r_getR C0 (C := RX10) (T := TX10) cl_X10 (K_X10_o hk_p0) (k := 2) (by decide) qw_360 rfl (K_X10_trial_r hk_p0) dX10_extension_40 ?_
  refine r_iload_n C0 dX10_extension_43 rfl 3 rfl ?_
  refine r_callVim C0 (st := []) [.int p1] (p0 + 24) hf vs_106 (fun hl r6 hr6 => c_X5_daysUntilDone hl F (p0 + 24) p1 (K_X10_trial_k hk_p0) M5 r6 hr6) (K_X5_o (K_X10_trial_k hk_p0)) rfl rfl rfl rfl (Nat.le_of_ble_eq_true rfl) dX10_extension_44 (zrm_ok rfl) (fun r6 hr6 hf => ?_)
  refine r_istore (L' := [(4, .int r6.1), (3, .int x4), (2, .ref q3), (0, .ref p0), (1, .int p1)]) C0 dX10_extension_47 (by decide) rfl ?_
  refine r_iload C0 dX10_extension_49 0 rfl ?_
  refine r_bipush (v := -9) C0 dX10_extension_51 (by decide) ?_
  refine r_icmp_ne C0 59 dX10_extension_53 (by decide) hf (fun hf => ?_) (fun hf => ?_)
  · refine r_iload C0 dX10_extension_59 0 rfl ?_
    refine r_if_ne C0 68 dX10_extension_61 (by decide) hf (fun hf => ?_) (fun hf => ?_)
    · refine r_iconst (v := 0) C0 dX10_extension_68 (by decide) ?_
      refine r_aload_n C0 dX10_extension_69 rfl 3 rfl ?_
      refine r_getR C0 (C := RX10) (T := TX10) cl_X10 (K_X10_o hk_p0) (k := 2) (by decide) qw_360 rfl (K_X10_trial_r hk_p0) dX10_extension_70 ?_
      refine r_getI C0 (C := RX5) (T := TX5) cl_X5 (K_X5_o (K_X10_trial_k hk_p0)) (k := 8) (by decide) qw_380 rfl dX10_extension_73 ?_
      refine r_iconst (v := 1) C0 dX10_extension_76 (by decide) ?_
      refine r_isub C0 dX10_extension_77 ?_
      refine r_iload_n C0 dX10_extension_78 rfl 1 rfl ?_
      refine r_isub C0 dX10_extension_79 ?_
      refine r_mmax C0 qw_460 qw_461 qw_144 qw_462 (Nat.le_of_ble_eq_true rfl) (Nat.le_of_ble_eq_true rfl) (Nat.le_of_ble_eq_true rfl) (Nat.le_of_ble_eq_true rfl) dX10_extension_80 ?_
      obtain rfl := Option.some.inj hf
      exact rX_iret C0 rfl dX10_extension_83
    · refine r_iconst (v := 0) C0 dX10_extension_64 (by decide) ?_
      refine r_goto C0 83 dX10_extension_65 (by decide) ?_
      obtain rfl := Option.some.inj hf
      exact rX_iret C0 rfl dX10_extension_83
  · refine r_bipush (v := -9) C0 dX10_extension_56 (by decide) ?_
    obtain rfl := Option.some.inj hf
    exact rX_iret C0 rfl dX10_extension_58
set_option maxHeartbeats 4000000 in
set_option maxRecDepth 100000 in
theorem g_X10_runScript_47 {Γ : zCx} {E : zEn} {S : zSk} {X : zMl} (C0 : zCt Γ E RX10 cX10_runScript 6 (Option.some Jvm.ClassFile.FieldType.int) [] { frames := 7, cells := 2, slots := 12, locals := 159 }) (F : Nat) (p0 : Nat) (p1 : Int32) (p2 : Int64) (hk_p0 : K_X10 S p0) : ∀ (n : Nat) (v4 : Int32) (M : zMi) (r : (Nat ⊕ Int32) × zMi) , f_X10_runScript_47 F p0 p1 p2 n v4 M = some r → zG Γ (zQX Γ E 2 12 S (Sum.map id (fun v => some (Value.int v)) r.1, r.2) X) E 6 1 6 S ZT M X 47 [(0, .ref p0), (1, .int p1), (2, .long p2), (4, .int v4)] [] := by
  intro n
  induction n with
  | zero => intro v4 M r; intro hf; cases hf
  | succ n ih =>
    intro v4 M r hf
    refine r_iload C0 dX10_runScript_47 3 rfl ?_
    refine r_iload_n C0 dX10_runScript_49 rfl 1 rfl ?_
    refine r_icmp_ge C0 91 dX10_runScript_50 (by decide) hf (fun hf => ?_) (fun hf => ?_)
    · refine r_bipush (v := -9) C0 dX10_runScript_91 (by decide) ?_
      obtain rfl := Option.some.inj hf
      refine r_widen (k1 := 2) (s1 := 12) (by decide) (by decide) ?_
      exact rX_iret C0 rfl dX10_runScript_93
    · refine r_lload_n C0 dX10_runScript_53 rfl 2 rfl ?_
      refine r_iload_n C0 dX10_runScript_54 rfl 1 rfl ?_
      refine r_iconst (v := 1) C0 dX10_runScript_55 (by decide) ?_
      refine r_isub C0 dX10_runScript_56 ?_
      refine r_iload C0 dX10_runScript_57 3 rfl ?_
      refine r_isub C0 dX10_runScript_59 ?_
      refine r_callSl C0 (st := []) [.long p2, .int ((p1 - (1 : Int32)) - v4)] hf vs_108 (fun hl r1 hr1 => c_X2_withoutLast hl F p2 ((p1 - (1 : Int32)) - v4) M r1 hr1) rfl rfl (Nat.le_of_ble_eq_true rfl) dX10_runScript_60 (zrm_ok rfl) (fun r1 hr1 hf => ?_)
      refine r_ldc2 (v := 100000) C0 qw_472 dX10_runScript_63 ?_
      refine r_lrem' C0 dX10_runScript_66 (by decide) ?_
      refine r_l2i C0 dX10_runScript_67 ?_
      refine r_nm hf (fun x2 hf => ?_)
      refine r_istore (L' := [(5, .int x2), (0, .ref p0), (1, .int p1), (2, .long p2), (4, .int v4)]) C0 dX10_runScript_68 (by decide) rfl ?_
      refine r_aload_n C0 dX10_runScript_70 rfl 1 rfl ?_
      refine r_getR C0 (C := RX10) (T := TX10) cl_X10 (K_X10_o hk_p0) (k := 2) (by decide) qw_360 rfl (K_X10_trial_r hk_p0) dX10_runScript_71 ?_
      refine r_iload C0 dX10_runScript_74 0 rfl ?_
      refine r_callSim C0 (st := []) [.ref (p0 + 24), .int x2] hf vs_109 (fun hl r3 hr3 => c_X2_succeeds hl F (p0 + 24) x2 (K_X10_trial_k hk_p0) M r3 hr3) rfl rfl (Nat.le_of_ble_eq_true rfl) dX10_runScript_76 (zrm_ok rfl) (fun r3 hr3 hf => ?_)
      refine r_if_ne C0 85 dX10_runScript_79 (by decide) hf (fun hf => ?_) (fun hf => ?_)
      · refine r_iinc (j := 4) (v := (v4 + (1 : Int32))) (L' := [(4, .int (v4 + (1 : Int32))), (5, .int x2), (0, .ref p0), (1, .int p1), (2, .long p2)]) C0 dX10_runScript_85 rfl rfl (by decide) rfl ?_
        refine r_goto C0 47 dX10_runScript_88 (by decide) ?_
        refine r_sub (L' := [(0, .ref p0), (1, .int p1), (2, .long p2), (4, .int (v4 + (1 : Int32)))]) [2, 3, 4, 0] rfl ?_
        exact ih (v4 + (1 : Int32)) r3.2 _  hf
      · refine r_iload C0 dX10_runScript_82 4 rfl ?_
        obtain rfl := Option.some.inj hf
        refine r_widen (k1 := 2) (s1 := 12) (by decide) (by decide) ?_
        exact rX_iret C0 rfl dX10_runScript_84
set_option maxHeartbeats 4000000 in
set_option maxRecDepth 100000 in
theorem c_X10_runScript {l : Launch} {E : zEn} {S : zSk} {X : zMl} (hl : l.stackTraces = false) (F : Nat) (p0 : Nat) (p1 : Int32) (p2 : Int64) (hk_p0 : K_X10 S p0) (M : zMi) (r : (Nat ⊕ Int32) × zMi) (hf : f_X10_runScript F p0 p1 p2 M = some r) : zMX l E yX10_runScript cX10_runScript 6 (Option.some Jvm.ClassFile.FieldType.int) { frames := 7, cells := 2, slots := 12, locals := 159 } 2 12 [.ref p0, .int p1, .long p2] S M X (Sum.map id (fun v => some (Value.int v)) r.1, r.2) := by
  refine zMX.intro (L0 := [(0, .ref p0), (1, .int p1), (2, .long p2)]) hl (by decide) (Nat.le_of_ble_eq_true rfl) rfl (fun Γ C0 => ?_)
  unfold f_X10_runScript at hf
  refine r_iload_n C0 dX10_runScript_0 rfl 1 rfl ?_
  refine r_iconst (v := 1) C0 dX10_runScript_1 (by decide) ?_
  refine r_iconst (v := 3) C0 dX10_runScript_2 (by decide) ?_
  refine rX_callSp C0 (st := []) (fun _ => none) [.int p1, .int (1 : Int32), .int (3 : Int32)] hf vs_71 (fun hl r9 h9 => c_X10_requireRange hl F p1 (1 : Int32) (3 : Int32) M r9 h9) rfl rfl (Nat.le_of_ble_eq_true rfl) dX10_runScript_3 (zrm_ok rfl) (fun e hf => ?_) (fun x2 hx2 hf => ?_)
  · obtain rfl := Option.some.inj hf
    exact rX_out C0 rfl (by decide) (by decide)
  refine r_eqst (st1 := []) rfl ?_
  refine r_lload_n C0 dX10_runScript_6 rfl 2 rfl ?_
  refine r_lconst (v := 0) C0 dX10_runScript_7 (by decide) ?_
  refine r_lcmp C0 dX10_runScript_8 ?_
  refine r_if_lt C0 22 dX10_runScript_9 (by decide) hf (fun hf => ?_) (fun hf => ?_)
  · obtain rfl := Option.some.inj hf
    exact rX_throwSW C0 (e := 1) (text := "the script has other digits") (by decide +kernel) qw_339 qw_340 (by decide +kernel) ht_69_a ht_69_b dX10_runScript_22 dX10_runScript_25 dX10_runScript_26 dX10_runScript_29 dX10_runScript_32 rfl (Nat.le_of_ble_eq_true rfl) (Nat.le_of_ble_eq_true rfl) (Nat.le_of_ble_eq_true rfl) (Nat.le_of_ble_eq_true rfl) (Nat.le_of_ble_eq_true rfl) (Nat.le_of_ble_eq_true rfl)
  · refine r_lload_n C0 dX10_runScript_12 rfl 2 rfl ?_
    refine r_iload_n C0 dX10_runScript_13 rfl 1 rfl ?_
    refine r_callSl C0 (st := []) [.long p2, .int p1] hf vs_108 (fun hl r3 hr3 => c_X2_withoutLast hl F p2 p1 M r3 hr3) rfl rfl (Nat.le_of_ble_eq_true rfl) dX10_runScript_14 (zrm_ok rfl) (fun r3 hr3 hf => ?_)
    refine r_lconst (v := 0) C0 dX10_runScript_17 (by decide) ?_
    refine r_lcmp C0 dX10_runScript_18 ?_
    refine r_if_le C0 33 dX10_runScript_19 (by decide) hf (fun hf => ?_) (fun hf => ?_)
    · refine r_aload_n C0 dX10_runScript_33 rfl 0 rfl ?_
      refine r_getR C0 (C := RX10) (T := TX10) cl_X10 (K_X10_o hk_p0) (k := 2) (by decide) qw_360 rfl (K_X10_trial_r hk_p0) dX10_runScript_34 ?_
      refine r_aload_n C0 dX10_runScript_37 rfl 0 rfl ?_
      refine r_getR C0 (C := RX10) (T := TX10) cl_X10 (K_X10_o hk_p0) (k := 1) (by decide) qw_365 rfl (K_X10_now_r hk_p0) dX10_runScript_38 ?_
      refine r_callVm C0 (st := []) [.ref (p0 + 3)] (p0 + 24) hf vs_77 (fun hl r4 hr4 => c_X5_copyFrom hl F (p0 + 24) (p0 + 3) (K_X10_trial_k hk_p0) (K_X10_now_k hk_p0) M r4 hr4) (K_X5_o (K_X10_trial_k hk_p0)) rfl rfl rfl rfl (Nat.le_of_ble_eq_true rfl) dX10_runScript_41 (zrm_ok rfl) (fun r4 hr4 hf => ?_)
      refine r_iconst (v := 0) C0 dX10_runScript_44 (by decide) ?_
      refine r_istore (L' := [(4, .int (0 : Int32)), (0, .ref p0), (1, .int p1), (2, .long p2)]) C0 dX10_runScript_45 (by decide) rfl ?_
      refine r_sub (L' := [(0, .ref p0), (1, .int p1), (2, .long p2), (4, .int (0 : Int32))]) [1, 2, 3, 0] rfl ?_
      exact g_X10_runScript_47 C0 F p0 p1 p2 hk_p0 F (0 : Int32) r4 _  hf
    · obtain rfl := Option.some.inj hf
      exact rX_throwSW C0 (e := 1) (text := "the script has other digits") (by decide +kernel) qw_339 qw_340 (by decide +kernel) ht_69_a ht_69_b dX10_runScript_22 dX10_runScript_25 dX10_runScript_26 dX10_runScript_29 dX10_runScript_32 rfl (Nat.le_of_ble_eq_true rfl) (Nat.le_of_ble_eq_true rfl) (Nat.le_of_ble_eq_true rfl) (Nat.le_of_ble_eq_true rfl) (Nat.le_of_ble_eq_true rfl) (Nat.le_of_ble_eq_true rfl)
set_option maxHeartbeats 4000000 in
set_option maxRecDepth 100000 in
theorem g_X10_simulate_24 {Γ : zCx} {E : zEn} {S : zSk} {X : zMl} (C0 : zCt Γ E RX10 cX10_simulate 7 (Option.some Jvm.ClassFile.FieldType.int) [] { frames := 7, cells := 1, slots := 6, locals := 136 }) (F : Nat) (p0 : Nat) (p1 : Int64) (p2 : Int32) (hk_p0 : K_X10 S p0) : ∀ (n : Nat) (v4 : Int64) (v6 : Int32) (M : zMi) (r : (Nat ⊕ Int32) × zMi) , f_X10_simulate_24 F p0 p1 p2 n v4 v6 M = some r → zG Γ (zQX Γ E 1 6 S (Sum.map id (fun v => some (Value.int v)) r.1, r.2) X) E 7 1 6 S ZT M X 24 [(0, .ref p0), (3, .int p2), (4, .long v4), (6, .int v6)] [] := by
  intro n
  induction n with
  | zero => intro v4 v6 M r; intro hf; cases hf
  | succ n ih =>
    intro v4 v6 M r hf
    refine r_iload C0 dX10_simulate_24 3 rfl ?_
    refine r_iload_n C0 dX10_simulate_26 rfl 1 rfl ?_
    refine r_icmp_ge C0 61 dX10_simulate_27 (by decide) hf (fun hf => ?_) (fun hf => ?_)
    · refine r_sipush (v := 1000) C0 dX10_simulate_61 (by decide) ?_
      refine r_aload_n C0 dX10_simulate_64 rfl 0 rfl ?_
      refine r_getR C0 (C := RX10) (T := TX10) cl_X10 (K_X10_o hk_p0) (k := 2) (by decide) qw_360 rfl (K_X10_trial_r hk_p0) dX10_simulate_65 ?_
      refine r_getR C0 (C := RX5) (T := TX5) cl_X5 (K_X5_o (K_X10_trial_k hk_p0)) (k := 4) (by decide) qw_424 rfl (K_X5_ledger_r (K_X10_trial_k hk_p0)) dX10_simulate_68 ?_
      refine r_getI C0 (C := RX1) (T := TX1) cl_X1 (K_X1_o (K_X5_ledger_k (K_X10_trial_k hk_p0))) (k := 1) (by decide) qw_426 rfl dX10_simulate_71 ?_
      refine r_aload_n C0 dX10_simulate_74 rfl 0 rfl ?_
      refine r_getR C0 (C := RX10) (T := TX10) cl_X10 (K_X10_o hk_p0) (k := 1) (by decide) qw_365 rfl (K_X10_now_r hk_p0) dX10_simulate_75 ?_
      refine r_getR C0 (C := RX5) (T := TX5) cl_X5 (K_X5_o (K_X10_now_k hk_p0)) (k := 4) (by decide) qw_424 rfl (K_X5_ledger_r (K_X10_now_k hk_p0)) dX10_simulate_78 ?_
      refine r_getI C0 (C := RX1) (T := TX1) cl_X1 (K_X1_o (K_X5_ledger_k (K_X10_now_k hk_p0))) (k := 1) (by decide) qw_426 rfl dX10_simulate_81 ?_
      refine r_isub C0 dX10_simulate_84 ?_
      refine r_imul C0 dX10_simulate_85 ?_
      refine r_aload_n C0 dX10_simulate_86 rfl 0 rfl ?_
      refine r_getR C0 (C := RX10) (T := TX10) cl_X10 (K_X10_o hk_p0) (k := 2) (by decide) qw_360 rfl (K_X10_trial_r hk_p0) dX10_simulate_87 ?_
      refine r_getI C0 (C := RX5) (T := TX5) cl_X5 (K_X5_o (K_X10_trial_k hk_p0)) (k := 8) (by decide) qw_380 rfl dX10_simulate_90 ?_
      refine r_iadd C0 dX10_simulate_93 ?_
      obtain rfl := Option.some.inj hf
      exact rX_iret C0 rfl dX10_simulate_94
    · refine r_lload C0 dX10_simulate_30 2 rfl ?_
      refine r_ldc2 (v := 6364136223846793005) C0 qw_476 dX10_simulate_32 ?_
      refine r_lmul C0 dX10_simulate_35 ?_
      refine r_ldc2 (v := 1442695040888963407) C0 qw_477 dX10_simulate_36 ?_
      refine r_ladd C0 dX10_simulate_39 ?_
      refine r_nmL hf (fun x1 hf => ?_)
      refine r_lstore (L' := [(4, .long x1), (0, .ref p0), (3, .int p2), (6, .int v6)]) C0 dX10_simulate_40 (by decide) rfl ?_
      refine r_aload_n C0 dX10_simulate_42 rfl 1 rfl ?_
      refine r_getR C0 (C := RX10) (T := TX10) cl_X10 (K_X10_o hk_p0) (k := 2) (by decide) qw_360 rfl (K_X10_trial_r hk_p0) dX10_simulate_43 ?_
      refine r_lload C0 dX10_simulate_46 0 rfl ?_
      refine r_bipush (v := 33) C0 dX10_simulate_48 (by decide) ?_
      refine r_lushr C0 dX10_simulate_50 ?_
      refine r_l2i C0 dX10_simulate_51 ?_
      refine r_callVm C0 (st := []) [.int ((((x1).toUInt64 >>> (((33 : Int32)).toInt64.toUInt64 &&& Int64.toUInt64 63)).toInt64).toInt32)] (p0 + 24) hf vs_110 (fun hl r2 hr2 => c_X5_playRound hl F (p0 + 24) ((((x1).toUInt64 >>> (((33 : Int32)).toInt64.toUInt64 &&& Int64.toUInt64 63)).toInt64).toInt32) (K_X10_trial_k hk_p0) M r2 hr2) (K_X5_o (K_X10_trial_k hk_p0)) rfl rfl rfl rfl (Nat.le_of_ble_eq_true rfl) dX10_simulate_52 (zrm_ok rfl) (fun r2 hr2 hf => ?_)
      refine r_iinc (j := 3) (v := (v6 + (1 : Int32))) (L' := [(6, .int (v6 + (1 : Int32))), (4, .long x1), (0, .ref p0), (3, .int p2)]) C0 dX10_simulate_55 rfl rfl (by decide) rfl ?_
      refine r_goto C0 24 dX10_simulate_58 (by decide) ?_
      refine r_sub (L' := [(0, .ref p0), (3, .int p2), (4, .long x1), (6, .int (v6 + (1 : Int32)))]) [2, 3, 1, 0] rfl ?_
      exact ih x1 (v6 + (1 : Int32)) r2 _  hf
set_option maxHeartbeats 4000000 in
set_option maxRecDepth 100000 in
theorem c_X10_simulate {l : Launch} {E : zEn} {S : zSk} {X : zMl} (hl : l.stackTraces = false) (F : Nat) (p0 : Nat) (p1 : Int64) (p2 : Int32) (hk_p0 : K_X10 S p0) (M : zMi) (r : (Nat ⊕ Int32) × zMi) (hf : f_X10_simulate F p0 p1 p2 M = some r) : zMX l E yX10_simulate cX10_simulate 7 (Option.some Jvm.ClassFile.FieldType.int) { frames := 7, cells := 1, slots := 6, locals := 136 } 1 6 [.ref p0, .long p1, .int p2] S M X (Sum.map id (fun v => some (Value.int v)) r.1, r.2) := by
  refine zMX.intro (L0 := [(0, .ref p0), (1, .long p1), (3, .int p2)]) hl (by decide) (Nat.le_of_ble_eq_true rfl) rfl (fun Γ C0 => ?_)
  unfold f_X10_simulate at hf
  refine r_iload_n C0 dX10_simulate_0 rfl 2 rfl ?_
  refine r_iconst (v := 1) C0 dX10_simulate_1 (by decide) ?_
  refine r_bipush (v := 99) C0 dX10_simulate_2 (by decide) ?_
  refine rX_callSp C0 (st := []) (fun _ => none) [.int p2, .int (1 : Int32), .int (99 : Int32)] hf vs_71 (fun hl r9 h9 => c_X10_requireRange hl F p2 (1 : Int32) (99 : Int32) M r9 h9) rfl rfl (Nat.le_of_ble_eq_true rfl) dX10_simulate_4 (zrm_ok rfl) (fun e hf => ?_) (fun x2 hx2 hf => ?_)
  · obtain rfl := Option.some.inj hf
    exact rX_out C0 rfl (by decide) (by decide)
  refine r_eqst (st1 := []) rfl ?_
  refine r_aload_n C0 dX10_simulate_7 rfl 0 rfl ?_
  refine r_getR C0 (C := RX10) (T := TX10) cl_X10 (K_X10_o hk_p0) (k := 2) (by decide) qw_360 rfl (K_X10_trial_r hk_p0) dX10_simulate_8 ?_
  refine r_aload_n C0 dX10_simulate_11 rfl 0 rfl ?_
  refine r_getR C0 (C := RX10) (T := TX10) cl_X10 (K_X10_o hk_p0) (k := 1) (by decide) qw_365 rfl (K_X10_now_r hk_p0) dX10_simulate_12 ?_
  refine r_callVm C0 (st := []) [.ref (p0 + 3)] (p0 + 24) hf vs_77 (fun hl r3 hr3 => c_X5_copyFrom hl F (p0 + 24) (p0 + 3) (K_X10_trial_k hk_p0) (K_X10_now_k hk_p0) M r3 hr3) (K_X5_o (K_X10_trial_k hk_p0)) rfl rfl rfl rfl (Nat.le_of_ble_eq_true rfl) dX10_simulate_15 (zrm_ok rfl) (fun r3 hr3 hf => ?_)
  refine r_lload_n C0 dX10_simulate_18 rfl 1 rfl ?_
  refine r_lstore (L' := [(4, .long p1), (0, .ref p0), (1, .long p1), (3, .int p2)]) C0 dX10_simulate_19 (by decide) rfl ?_
  refine r_iconst (v := 0) C0 dX10_simulate_21 (by decide) ?_
  refine r_istore (L' := [(6, .int (0 : Int32)), (4, .long p1), (0, .ref p0), (1, .long p1), (3, .int p2)]) C0 dX10_simulate_22 (by decide) rfl ?_
  refine r_sub (L' := [(0, .ref p0), (3, .int p2), (4, .long p1), (6, .int (0 : Int32))]) [2, 4, 1, 0] rfl ?_
  exact g_X10_simulate_24 C0 F p0 p1 p2 hk_p0 F p1 (0 : Int32) r3 _  hf
set_option maxHeartbeats 4000000 in
set_option maxRecDepth 100000 in
theorem c_X10_existingSlot {l : Launch} {E : zEn} {S : zSk} {X : zMl} (hl : l.stackTraces = false) (F : Nat) (p0 : Nat) (p1 : Int32) (hk_p0 : K_X10 S p0) (M : zMi) (r : Nat ⊕ Nat) (hf : f_X10_existingSlot F p0 p1 M = some r) : zMX l E yX10_existingSlot cX10_existingSlot 2 (Option.some (Jvm.ClassFile.FieldType.object "CableLanding$Slot")) { frames := 6, cells := 1, slots := 6, locals := 90 } 1 6 [.ref p0, .int p1] S M X (Sum.map id (fun q => some (Value.ref q)) r, M) := by
  refine zMX.intro (L0 := [(0, .ref p0), (1, .int p1)]) hl (by decide) (Nat.le_of_ble_eq_true rfl) rfl (fun Γ C0 => ?_)
  unfold f_X10_existingSlot at hf
  refine r_iload_n C0 dX10_existingSlot_0 rfl 1 rfl ?_
  refine r_if_lt C0 13 dX10_existingSlot_1 (by decide) hf (fun hf => ?_) (fun hf => ?_)
  · obtain rfl := Option.some.inj hf
    exact rX_throwSW C0 (e := 3) (text := "no such save slot") (by decide +kernel) qw_396 qw_397 (by decide +kernel) ht_83_a ht_83_b dX10_existingSlot_13 dX10_existingSlot_16 dX10_existingSlot_17 dX10_existingSlot_20 dX10_existingSlot_23 rfl (Nat.le_of_ble_eq_true rfl) (Nat.le_of_ble_eq_true rfl) (Nat.le_of_ble_eq_true rfl) (Nat.le_of_ble_eq_true rfl) (Nat.le_of_ble_eq_true rfl) (Nat.le_of_ble_eq_true rfl)
  · refine r_iload_n C0 dX10_existingSlot_4 rfl 1 rfl ?_
    refine r_aload_n C0 dX10_existingSlot_5 rfl 0 rfl ?_
    refine r_getR C0 (C := RX10) (T := TX10) cl_X10 (K_X10_o hk_p0) (k := 4) (by decide) qw_374 rfl (K_X10_slots_r hk_p0) dX10_existingSlot_6 ?_
    refine r_alen (v := 2) C0 ((K_X10_slots_k hk_p0)).1 (by decide) rfl dX10_existingSlot_9 ?_
    refine r_icmp_lt C0 24 dX10_existingSlot_10 (by decide) hf (fun hf => ?_) (fun hf => ?_)
    · refine r_aload_n C0 dX10_existingSlot_24 rfl 0 rfl ?_
      refine r_getR C0 (C := RX10) (T := TX10) cl_X10 (K_X10_o hk_p0) (k := 4) (by decide) qw_374 rfl (K_X10_slots_r hk_p0) dX10_existingSlot_25 ?_
      refine r_iload_n C0 dX10_existingSlot_28 rfl 1 rfl ?_
      refine r_aald C0 (g := fun j => p0 + 341 + 1 + 22 * j) ((K_X10_slots_k hk_p0)).1 (by decide) (by decide) rfl ((K_X10_slots_k hk_p0)).2.1 hf dX10_existingSlot_29 (fun hi hf => ?_)
      refine r_nmA hf (fun q1 hq hf => ?_)
      have hk_q1 : K_X4 S q1 := by rw [hq]; exact ((K_X10_slots_k hk_p0)).2.2 _ hi
      obtain rfl := Option.some.inj hf
      refine r_widen (k1 := 1) (s1 := 6) (by decide) (by decide) ?_
      exact rX_aret C0 rfl dX10_existingSlot_30
    · obtain rfl := Option.some.inj hf
      exact rX_throwSW C0 (e := 3) (text := "no such save slot") (by decide +kernel) qw_396 qw_397 (by decide +kernel) ht_83_a ht_83_b dX10_existingSlot_13 dX10_existingSlot_16 dX10_existingSlot_17 dX10_existingSlot_20 dX10_existingSlot_23 rfl (Nat.le_of_ble_eq_true rfl) (Nat.le_of_ble_eq_true rfl) (Nat.le_of_ble_eq_true rfl) (Nat.le_of_ble_eq_true rfl) (Nat.le_of_ble_eq_true rfl) (Nat.le_of_ble_eq_true rfl)
theorem n_X10_existingSlot {F : Nat} {p0 : Nat} {p1 : Int32} {M : zMi} {S : zSk} {q : Nat} (h : f_X10_existingSlot F p0 p1 M = some (.inr q)) (hk_p0 : K_X10 S p0) : K_X4 S q := by
  unfold f_X10_existingSlot at h
  simp only [bnd, grd] at h
  repeat' split at h
  all_goals cases h
  all_goals exact (K_X10_slots_k hk_p0).2.2 _ (inb_lt (by assumption))
set_option maxHeartbeats 4000000 in
set_option maxRecDepth 100000 in
theorem c_X10_save {l : Launch} {E : zEn} {S : zSk} {X : zMl} (hl : l.stackTraces = false) (F : Nat) (p0 : Nat) (p1 : Int32) (hk_p0 : K_X10 S p0) (M : zMi) (r : (Nat ⊕ Int32) × zMi) (hf : f_X10_save F p0 p1 M = some r) : zMX l E yX10_save cX10_save 3 (Option.some Jvm.ClassFile.FieldType.int) { frames := 7, cells := 1, slots := 6, locals := 111 } 1 6 [.ref p0, .int p1] S M X (Sum.map id (fun v => some (Value.int v)) r.1, r.2) := by
  refine zMX.intro (L0 := [(0, .ref p0), (1, .int p1)]) hl (by decide) (Nat.le_of_ble_eq_true rfl) rfl (fun Γ C0 => ?_)
  unfold f_X10_save at hf
  refine r_aload_n C0 dX10_save_0 rfl 0 rfl ?_
  refine r_iload_n C0 dX10_save_1 rfl 1 rfl ?_
  refine rX_callVp C0 (st := []) (fun q => some (Value.ref q)) [.int p1] p0 hf vs_111 (fun hl r9 h9 => c_X10_existingSlot hl F p0 p1 hk_p0 M r9 h9) (K_X10_o hk_p0) rfl rfl rfl rfl (Nat.le_of_ble_eq_true rfl) dX10_save_2 (zrm_ok rfl) (fun e hf => ?_) (fun q2 hq2 hf => ?_)
  · obtain rfl := Option.some.inj hf
    exact rX_out C0 rfl (by decide) (by decide)
  refine r_eqst (st1 := [.ref q2]) rfl ?_
  have hk_q2 := n_X10_existingSlot hq2 hk_p0
  refine r_astore_n (L' := [(2, .ref q2), (0, .ref p0), (1, .int p1)]) C0 dX10_save_5 rfl (by decide) rfl ?_
  refine r_aload_n C0 dX10_save_6 rfl 0 rfl ?_
  refine r_getR C0 (C := RX4) (T := TX4) cl_X4 (K_X4_o hk_q2) (k := 0) (by decide) qw_486 rfl (K_X4_state_r hk_q2) dX10_save_7 ?_
  refine r_aload_n C0 dX10_save_10 rfl 1 rfl ?_
  refine r_getR C0 (C := RX10) (T := TX10) cl_X10 (K_X10_o hk_p0) (k := 1) (by decide) qw_365 rfl (K_X10_now_r hk_p0) dX10_save_11 ?_
  refine r_callVm C0 (st := []) [.ref (p0 + 3)] (q2 + 1) hf vs_77 (fun hl r3 hr3 => c_X5_copyFrom hl F (q2 + 1) (p0 + 3) (K_X4_state_k hk_q2) (K_X10_now_k hk_p0) M r3 hr3) (K_X5_o (K_X4_state_k hk_q2)) rfl rfl rfl rfl (Nat.le_of_ble_eq_true rfl) dX10_save_14 (zrm_ok rfl) (fun r3 hr3 hf => ?_)
  refine r_aload_n C0 dX10_save_17 rfl 0 rfl ?_
  refine r_iconst (v := 1) C0 dX10_save_18 (by decide) ?_
  refine r_putI C0 (C := RX4) (T := TX4) cl_X4 (K_X4_o hk_q2) (k := 1) (by decide) qw_367 rfl rfl rfl rfl hf dX10_save_19 (fun M4 hf => ?_)
  refine r_aload_n C0 dX10_save_22 rfl 1 rfl ?_
  refine r_getR C0 (C := RX10) (T := TX10) cl_X10 (K_X10_o hk_p0) (k := 1) (by decide) qw_365 rfl (K_X10_now_r hk_p0) dX10_save_23 ?_
  refine r_getI C0 (C := RX5) (T := TX5) cl_X5 (K_X5_o (K_X10_now_k hk_p0)) (k := 8) (by decide) qw_380 rfl dX10_save_26 ?_
  obtain rfl := Option.some.inj hf
  exact rX_iret C0 rfl dX10_save_29
set_option maxHeartbeats 4000000 in
set_option maxRecDepth 100000 in
theorem c_X10_restore {l : Launch} {E : zEn} {S : zSk} {X : zMl} (hl : l.stackTraces = false) (F : Nat) (p0 : Nat) (p1 : Int32) (hk_p0 : K_X10 S p0) (M : zMi) (r : (Nat ⊕ Int32) × zMi) (hf : f_X10_restore F p0 p1 M = some r) : zMX l E yX10_restore cX10_restore 3 (Option.some Jvm.ClassFile.FieldType.int) { frames := 7, cells := 2, slots := 12, locals := 111 } 2 12 [.ref p0, .int p1] S M X (Sum.map id (fun v => some (Value.int v)) r.1, r.2) := by
  refine zMX.intro (L0 := [(0, .ref p0), (1, .int p1)]) hl (by decide) (Nat.le_of_ble_eq_true rfl) rfl (fun Γ C0 => ?_)
  unfold f_X10_restore at hf
  refine r_aload_n C0 dX10_restore_0 rfl 0 rfl ?_
  refine r_iload_n C0 dX10_restore_1 rfl 1 rfl ?_
  refine rX_callVp C0 (st := []) (fun q => some (Value.ref q)) [.int p1] p0 hf vs_111 (fun hl r9 h9 => c_X10_existingSlot hl F p0 p1 hk_p0 M r9 h9) (K_X10_o hk_p0) rfl rfl rfl rfl (Nat.le_of_ble_eq_true rfl) dX10_restore_2 (zrm_ok rfl) (fun e hf => ?_) (fun q2 hq2 hf => ?_)
  · obtain rfl := Option.some.inj hf
    exact rX_out C0 rfl (by decide) (by decide)
  refine r_eqst (st1 := [.ref q2]) rfl ?_
  have hk_q2 := n_X10_existingSlot hq2 hk_p0
  refine r_astore_n (L' := [(2, .ref q2), (0, .ref p0), (1, .int p1)]) C0 dX10_restore_5 rfl (by decide) rfl ?_
  refine r_aload_n C0 dX10_restore_6 rfl 0 rfl ?_
  refine r_getI C0 (C := RX4) (T := TX4) cl_X4 (K_X4_o hk_q2) (k := 1) (by decide) qw_367 rfl dX10_restore_7 ?_
  refine rX_callSp C0 (st := []) (fun _ => none) [.int (M q2 1)] hf vs_73 (fun hl r9 h9 => c_X10_require hl F (M q2 1) M r9 h9) rfl rfl (Nat.le_of_ble_eq_true rfl) dX10_restore_10 (zrm_ok rfl) (fun e hf => ?_) (fun x4 hx4 hf => ?_)
  · obtain rfl := Option.some.inj hf
    exact rX_out C0 rfl (by decide) (by decide)
  refine r_eqst (st1 := []) rfl ?_
  refine r_aload_n C0 dX10_restore_13 rfl 1 rfl ?_
  refine r_getR C0 (C := RX10) (T := TX10) cl_X10 (K_X10_o hk_p0) (k := 1) (by decide) qw_365 rfl (K_X10_now_r hk_p0) dX10_restore_14 ?_
  refine r_aload_n C0 dX10_restore_17 rfl 0 rfl ?_
  refine r_getR C0 (C := RX4) (T := TX4) cl_X4 (K_X4_o hk_q2) (k := 0) (by decide) qw_486 rfl (K_X4_state_r hk_q2) dX10_restore_18 ?_
  refine r_callVm C0 (st := []) [.ref (q2 + 1)] (p0 + 3) hf vs_77 (fun hl r5 hr5 => c_X5_copyFrom hl F (p0 + 3) (q2 + 1) (K_X10_now_k hk_p0) (K_X4_state_k hk_q2) M r5 hr5) (K_X5_o (K_X10_now_k hk_p0)) rfl rfl rfl rfl (Nat.le_of_ble_eq_true rfl) dX10_restore_21 (zrm_ok rfl) (fun r5 hr5 hf => ?_)
  refine r_aload_n C0 dX10_restore_24 rfl 1 rfl ?_
  refine r_getR C0 (C := RX10) (T := TX10) cl_X10 (K_X10_o hk_p0) (k := 3) (by decide) qw_369 rfl (K_X10_history_r hk_p0) dX10_restore_25 ?_
  refine r_callVm C0 (st := []) [] (p0 + 45) hf vs_78 (fun hl r6 hr6 => c_X0_clear hl F (p0 + 45) (K_X10_history_k hk_p0) r5 r6 hr6) (K_X0_o (K_X10_history_k hk_p0)) rfl rfl rfl rfl (Nat.le_of_ble_eq_true rfl) dX10_restore_28 (zrm_ok rfl) (fun r6 hr6 hf => ?_)
  refine r_aload_n C0 dX10_restore_31 rfl 1 rfl ?_
  refine r_getR C0 (C := RX10) (T := TX10) cl_X10 (K_X10_o hk_p0) (k := 1) (by decide) qw_365 rfl (K_X10_now_r hk_p0) dX10_restore_32 ?_
  refine r_getI C0 (C := RX5) (T := TX5) cl_X5 (K_X5_o (K_X10_now_k hk_p0)) (k := 8) (by decide) qw_380 rfl dX10_restore_35 ?_
  obtain rfl := Option.some.inj hf
  exact rX_iret C0 rfl dX10_restore_38
