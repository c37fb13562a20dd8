set_option maxHeartbeats 4000000 in
set_option maxRecDepth 100000 in
theorem c_X10_extension {l : Launch} {E : zEn} {S : zSk} {X : zMl} (hl : l.stackTraces = false) (F : Nat) (p0 : Nat) (p1 : Int32) (hk_p0 : K_X10 S p0) (M : zMi) (r : (Nat ⊕ Int32) × zMi) (hf : f_X10_extension F p0 p1 M = some r) : zMX l E yX10_extension cX10_extension 5 (Option.some Jvm.ClassFile.FieldType.int) { frames := 7, cells := 1, slots := 6, locals := 136 } 1 6 [.ref p0, .int p1] S M X (Sum.map id (fun v => some (Value.int v)) r.1, r.2) := by
  refine zMX.intro (L0 := [(0, .ref p0), (1, .int p1)]) hl (by decide) (Nat.le_of_ble_eq_true rfl) rfl (fun Γ C0 => ?_)
  unfold f_X10_extension at hf
  refine r_aload_n C0 dX10_extension_0 rfl 0 rfl ?_
  refine r_getR C0 (C := RX10) (T := TX10) cl_X10 (K_X10_o hk_p0) (k := 2) (by decide) qw_360 rfl (K_X10_trial_r hk_p0) dX10_extension_1 ?_
  refine r_aload_n C0 dX10_extension_4 rfl 0 rfl ?_
  refine r_getR C0 (C := RX10) (T := TX10) cl_X10 (K_X10_o hk_p0) (k := 1) (by decide) qw_365 rfl (K_X10_now_r hk_p0) dX10_extension_5 ?_
  refine r_callVm C0 (st := []) [.ref (p0 + 3)] (p0 + 24) hf vs_77 (fun hl r1 hr1 => c_X5_copyFrom hl F (p0 + 24) (p0 + 3) (K_X10_trial_k hk_p0) (K_X10_now_k hk_p0) M r1 hr1) (K_X5_o (K_X10_trial_k hk_p0)) rfl rfl rfl rfl (Nat.le_of_ble_eq_true rfl) dX10_extension_8 (zrm_ok rfl) (fun r1 hr1 hf => ?_)
  refine r_aload_n C0 dX10_extension_11 rfl 0 rfl ?_
  refine r_getR C0 (C := RX10) (T := TX10) cl_X10 (K_X10_o hk_p0) (k := 2) (by decide) qw_360 rfl (K_X10_trial_r hk_p0) dX10_extension_12 ?_
  refine r_iload_n C0 dX10_extension_15 rfl 1 rfl ?_
  refine rX_callSp C0 (st := []) (fun q => some (Value.ref q)) [.ref (p0 + 24), .int p1] hf vs_84 (fun hl r9 h9 => c_X10_existingZone hl F (p0 + 24) p1 (K_X10_trial_k hk_p0) r1 r9 h9) rfl rfl (Nat.le_of_ble_eq_true rfl) dX10_extension_16 (zrm_ok rfl) (fun e hf => ?_) (fun q3 hq3 hf => ?_)
  · obtain rfl := Option.some.inj hf
    exact rX_out C0 rfl (by decide) (by decide)
  refine r_eqst (st1 := [.ref q3]) rfl ?_
  have hk_q3 := n_X10_existingZone hq3 (K_X10_trial_k hk_p0)
  refine r_astore_n (L' := [(2, .ref q3), (0, .ref p0), (1, .int p1)]) C0 dX10_extension_19 rfl (by decide) rfl ?_
  refine r_aload_n C0 dX10_extension_20 rfl 0 rfl ?_
  refine r_getI C0 (C := RX9) (T := TX9) cl_X9 (K_X9_o hk_q3) (k := 2) (by decide) qw_403 rfl dX10_extension_21 ?_
  refine r_nm hf (fun x4 hf => ?_)
  refine r_istore_n (L' := [(3, .int x4), (2, .ref q3), (0, .ref p0), (1, .int p1)]) C0 dX10_extension_24 rfl (by decide) rfl ?_
  refine r_aload_n C0 dX10_extension_25 rfl 1 rfl ?_
  refine r_iload_n C0 dX10_extension_26 rfl 0 rfl ?_
  refine r_bipush (v := 99) C0 dX10_extension_27 (by decide) ?_
  refine r_iadd C0 dX10_extension_29 ?_
  refine r_sipush (v := 999) C0 dX10_extension_30 (by decide) ?_
  refine r_mmin C0 qw_468 qw_143 qw_144 qw_145 (Nat.le_of_ble_eq_true rfl) (Nat.le_of_ble_eq_true rfl) (Nat.le_of_ble_eq_true rfl) (Nat.le_of_ble_eq_true rfl) dX10_extension_33 ?_
  refine r_putI C0 (C := RX9) (T := TX9) cl_X9 (K_X9_o hk_q3) (k := 2) (by decide) qw_403 rfl rfl rfl rfl hf dX10_extension_36 (fun M5 hf => ?_)
  refine r_aload_n C0 dX10_extension_39 rfl 2 rfl ?_
  refine r_getR C0 (C := RX10) (T := TX10) cl_X10 (K_X10_o hk_p0) (k := 2) (by decide) qw_360 rfl (K_X10_trial_r hk_p0) dX10_extension_40 ?_
  refine r_iload_n C0 dX10_extension_43 rfl 3 rfl ?_
  refine r_callVim C0 (st := []) [.int p1] (p0 + 24) hf vs_106 (fun hl r6 hr6 => c_X5_daysUntilDone hl F (p0 + 24) p1 (K_X10_trial_k hk_p0) M5 r6 hr6) (K_X5_o (K_X10_trial_k hk_p0)) rfl rfl rfl rfl (Nat.le_of_ble_eq_true rfl) dX10_extension_44 (zrm_ok rfl) (fun r6 hr6 hf => ?_)
  refine r_istore (L' := [(4, .int r6.1), (3, .int x4), (2, .ref q3), (0, .ref p0), (1, .int p1)]) C0 dX10_extension_47 (by decide) rfl ?_
  refine r_iload C0 dX10_extension_49 0 rfl ?_
  refine r_bipush (v := -9) C0 dX10_extension_51 (by decide) ?_
  refine r_icmp_ne C0 59 dX10_extension_53 (by decide) hf (fun hf => ?_) (fun hf => ?_)
  · refine r_iload C0 dX10_extension_59 0 rfl ?_
    refine r_if_ne C0 68 dX10_extension_61 (by decide) hf (fun hf => ?_) (fun hf => ?_)
    · refine r_iconst (v := 0) C0 dX10_extension_68 (by decide) ?_
      refine r_aload_n C0 dX10_extension_69 rfl 3 rfl ?_
      refine r_getR C0 (C := RX10) (T := TX10) cl_X10 (K_X10_o hk_p0) (k := 2) (by decide) qw_360 rfl (K_X10_trial_r hk_p0) dX10_extension_70 ?_
      refine r_getI C0 (C := RX5) (T := TX5) cl_X5 (K_X5_o (K_X10_trial_k hk_p0)) (k := 8) (by decide) qw_380 rfl dX10_extension_73 ?_
      refine r_iconst (v := 1) C0 dX10_extension_76 (by decide) ?_
      refine r_isub C0 dX10_extension_77 ?_
      refine r_iload_n C0 dX10_extension_78 rfl 1 rfl ?_
      refine r_isub C0 dX10_extension_79 ?_
      refine r_mmax C0 qw_460 qw_461 qw_144 qw_462 (Nat.le_of_ble_eq_true rfl) (Nat.le_of_ble_eq_true rfl) (Nat.le_of_ble_eq_true rfl) (Nat.le_of_ble_eq_true rfl) dX10_extension_80 ?_
      obtain rfl := Option.some.inj hf
      exact rX_iret C0 rfl dX10_extension_83
    · refine r_iconst (v := 0) C0 dX10_extension_64 (by decide) ?_
      refine r_goto C0 83 dX10_extension_65 (by decide) ?_
      obtain rfl := Option.some.inj hf
      exact rX_iret C0 rfl dX10_extension_83
  · refine r_bipush (v := -9) C0 dX10_extension_56 (by decide) ?_
    obtain rfl := Option.some.inj hf
    exact rX_iret C0 rfl dX10_extension_58
set_option maxHeartbeats 4000000 in
set_option maxRecDepth 100000 in
theorem g_X10_runScript_47 {Γ : zCx} {E : zEn} {S : zSk} {X : zMl} (C0 : zCt Γ E RX10 cX10_runScript 6 (Option.some Jvm.ClassFile.FieldType.int) [] { frames := 7, cells := 2, slots := 12, locals := 159 }) (F : Nat) (p0 : Nat) (p1 : Int32) (p2 : Int64) (hk_p0 : K_X10 S p0) : ∀ (n : Nat) (v4 : Int32) (M : zMi) (r : (Nat ⊕ Int32) × zMi) , f_X10_runScript_47 F p0 p1 p2 n v4 M = some r → zG Γ (zQX Γ E 2 12 S (Sum.map id (fun v => some (Value.int v)) r.1, r.2) X) E 6 1 6 S ZT M X 47 [(0, .ref p0), (1, .int p1), (2, .long p2), (4, .int v4)] [] := by
  intro n
  induction n with
  | zero => intro v4 M r; intro hf; cases hf
  | succ n ih =>
    intro v4 M r hf
    refine r_iload C0 dX10_runScript_47 3 rfl ?_
    refine r_iload_n C0 dX10_runScript_49 rfl 1 rfl ?_
    refine r_icmp_ge C0 91 dX10_runScript_50 (by decide) hf (fun hf => ?_) (fun hf => ?_)
    · refine r_bipush (v := -9) C0 dX10_runScript_91 (by decide) ?_
      obtain rfl := Option.some.inj hf
      refine r_widen (k1 := 2) (s1 := 12) (by decide) (by decide) ?_
      exact rX_iret C0 rfl dX10_runScript_93
    · refine r_lload_n C0 dX10_runScript_53 rfl 2 rfl ?_
      refine r_iload_n C0 dX10_runScript_54 rfl 1 rfl ?_
      refine r_iconst (v := 1) C0 dX10_runScript_55 (by decide) ?_
      refine r_isub C0 dX10_runScript_56 ?_
      refine r_iload C0 dX10_runScript_57 3 rfl ?_
      refine r_isub C0 dX10_runScript_59 ?_
      refine r_callSl C0 (st := []) [.long p2, .int ((p1 - (1 : Int32)) - v4)] hf vs_108 (fun hl r1 hr1 => c_X2_withoutLast hl F p2 ((p1 - (1 : Int32)) - v4) M r1 hr1) rfl rfl (Nat.le_of_ble_eq_true rfl) dX10_runScript_60 (zrm_ok rfl) (fun r1 hr1 hf => ?_)
      refine r_ldc2 (v := 100000) C0 qw_472 dX10_runScript_63 ?_
      refine r_lrem' C0 dX10_runScript_66 (by decide) ?_
      refine r_l2i C0 dX10_runScript_67 ?_
      refine r_nm hf (fun x2 hf => ?_)
      refine r_istore (L' := [(5, .int x2), (0, .ref p0), (1, .int p1), (2, .long p2), (4, .int v4)]) C0 dX10_runScript_68 (by decide) rfl ?_
      refine r_aload_n C0 dX10_runScript_70 rfl 1 rfl ?_
      refine r_getR C0 (C := RX10) (T := TX10) cl_X10 (K_X10_o hk_p0) (k := 2) (by decide) qw_360 rfl (K_X10_trial_r hk_p0) dX10_runScript_71 ?_
      refine r_iload C0 dX10_runScript_74 0 rfl ?_
      refine r_callSim C0 (st := []) [.ref (p0 + 24), .int x2] hf vs_109 (fun hl r3 hr3 => c_X2_succeeds hl F (p0 + 24) x2 (K_X10_trial_k hk_p0) M r3 hr3) rfl rfl (Nat.le_of_ble_eq_true rfl) dX10_runScript_76 (zrm_ok rfl) (fun r3 hr3 hf => ?_)
      refine r_if_ne C0 85 dX10_runScript_79 (by decide) hf (fun hf => ?_) (fun hf => ?_)
      · refine r_iinc (j := 4) (v := (v4 + (1 : Int32))) (L' := [(4, .int (v4 + (1 : Int32))), (5, .int x2), (0, .ref p0), (1, .int p1), (2, .long p2)]) C0 dX10_runScript_85 rfl rfl (by decide) rfl ?_
        refine r_goto C0 47 dX10_runScript_88 (by decide) ?_
        refine r_sub (L' := [(0, .ref p0), (1, .int p1), (2, .long p2), (4, .int (v4 + (1 : Int32)))]) [2, 3, 4, 0] rfl ?_
        exact ih (v4 + (1 : Int32)) r3.2 _  hf
      · refine r_iload C0 dX10_runScript_82 4 rfl ?_
        obtain rfl := Option.some.inj hf
        refine r_widen (k1 := 2) (s1 := 12) (by decide) (by decide) ?_
        exact rX_iret C0 rfl dX10_runScript_84
set_option maxHeartbeats 4000000 in
set_option maxRecDepth 100000 in
theorem c_X10_runScript {l : Launch} {E : zEn} {S : zSk} {X : zMl} (hl : l.stackTraces = false) (F : Nat) (p0 : Nat) (p1 : Int32) (p2 : Int64) (hk_p0 : K_X10 S p0) (M : zMi) (r : (Nat ⊕ Int32) × zMi) (hf : f_X10_runScript F p0 p1 p2 M = some r) : zMX l E yX10_runScript cX10_runScript 6 (Option.some Jvm.ClassFile.FieldType.int) { frames := 7, cells := 2, slots := 12, locals := 159 } 2 12 [.ref p0, .int p1, .long p2] S M X (Sum.map id (fun v => some (Value.int v)) r.1, r.2) := by
  refine zMX.intro (L0 := [(0, .ref p0), (1, .int p1), (2, .long p2)]) hl (by decide) (Nat.le_of_ble_eq_true rfl) rfl (fun Γ C0 => ?_)
  unfold f_X10_runScript at hf
  refine r_iload_n C0 dX10_runScript_0 rfl 1 rfl ?_
  refine r_iconst (v := 1) C0 dX10_runScript_1 (by decide) ?_
  refine r_iconst (v := 3) C0 dX10_runScript_2 (by decide) ?_
  refine rX_callSp C0 (st := []) (fun _ => none) [.int p1, .int (1 : Int32), .int (3 : Int32)] hf vs_71 (fun hl r9 h9 => c_X10_requireRange hl F p1 (1 : Int32) (3 : Int32) M r9 h9) rfl rfl (Nat.le_of_ble_eq_true rfl) dX10_runScript_3 (zrm_ok rfl) (fun e hf => ?_) (fun x2 hx2 hf => ?_)
  · obtain rfl := Option.some.inj hf
    exact rX_out C0 rfl (by decide) (by decide)
  refine r_eqst (st1 := []) rfl ?_
  refine r_lload_n C0 dX10_runScript_6 rfl 2 rfl ?_
  refine r_lconst (v := 0) C0 dX10_runScript_7 (by decide) ?_
  refine r_lcmp C0 dX10_runScript_8 ?_
  refine r_if_lt C0 22 dX10_runScript_9 (by decide) hf (fun hf => ?_) (fun hf => ?_)
  · obtain rfl := Option.some.inj hf
    exact rX_throwSW C0 (e := 1) (text := "the script has other digits") (by decide +kernel) qw_339 qw_340 (by decide +kernel) ht_69_a ht_69_b dX10_runScript_22 dX10_runScript_25 dX10_runScript_26 dX10_runScript_29 dX10_runScript_32 rfl (Nat.le_of_ble_eq_true rfl) (Nat.le_of_ble_eq_true rfl) (Nat.le_of_ble_eq_true rfl) (Nat.le_of_ble_eq_true rfl) (Nat.le_of_ble_eq_true rfl) (Nat.le_of_ble_eq_true rfl)
  · refine r_lload_n C0 dX10_runScript_12 rfl 2 rfl ?_
    refine r_iload_n C0 dX10_runScript_13 rfl 1 rfl ?_
    refine r_callSl C0 (st := []) [.long p2, .int p1] hf vs_108 (fun hl r3 hr3 => c_X2_withoutLast hl F p2 p1 M r3 hr3) rfl rfl (Nat.le_of_ble_eq_true rfl) dX10_runScript_14 (zrm_ok rfl) (fun r3 hr3 hf => ?_)
    refine r_lconst (v := 0) C0 dX10_runScript_17 (by decide) ?_
    refine r_lcmp C0 dX10_runScript_18 ?_
    refine r_if_le C0 33 dX10_runScript_19 (by decide) hf (fun hf => ?_) (fun hf => ?_)
    · refine r_aload_n C0 dX10_runScript_33 rfl 0 rfl ?_
      refine r_getR C0 (C := RX10) (T := TX10) cl_X10 (K_X10_o hk_p0) (k := 2) (by decide) qw_360 rfl (K_X10_trial_r hk_p0) dX10_runScript_34 ?_
      refine r_aload_n C0 dX10_runScript_37 rfl 0 rfl ?_
      refine r_getR C0 (C := RX10) (T := TX10) cl_X10 (K_X10_o hk_p0) (k := 1) (by decide) qw_365 rfl (K_X10_now_r hk_p0) dX10_runScript_38 ?_
      refine r_callVm C0 (st := []) [.ref (p0 + 3)] (p0 + 24) hf vs_77 (fun hl r4 hr4 => c_X5_copyFrom hl F (p0 + 24) (p0 + 3) (K_X10_trial_k hk_p0) (K_X10_now_k hk_p0) M r4 hr4) (K_X5_o (K_X10_trial_k hk_p0)) rfl rfl rfl rfl (Nat.le_of_ble_eq_true rfl) dX10_runScript_41 (zrm_ok rfl) (fun r4 hr4 hf => ?_)
      refine r_iconst (v := 0) C0 dX10_runScript_44 (by decide) ?_
      refine r_istore (L' := [(4, .int (0 : Int32)), (0, .ref p0), (1, .int p1), (2, .long p2)]) C0 dX10_runScript_45 (by decide) rfl ?_
      refine r_sub (L' := [(0, .ref p0), (1, .int p1), (2, .long p2), (4, .int (0 : Int32))]) [1, 2, 3, 0] rfl ?_
      exact g_X10_runScript_47 C0 F p0 p1 p2 hk_p0 F (0 : Int32) r4 _  hf
    · obtain rfl := Option.some.inj hf
      exact rX_throwSW C0 (e := 1) (text := "the script has other digits") (by decide +kernel) qw_339 qw_340 (by decide +kernel) ht_69_a ht_69_b dX10_runScript_22 dX10_runScript_25 dX10_runScript_26 dX10_runScript_29 dX10_runScript_32 rfl (Nat.le_of_ble_eq_true rfl) (Nat.le_of_ble_eq_true rfl) (Nat.le_of_ble_eq_true rfl) (Nat.le_of_ble_eq_true rfl) (Nat.le_of_ble_eq_true rfl) (Nat.le_of_ble_eq_true rfl)
set_option maxHeartbeats 4000000 in
set_option maxRecDepth 100000 in
theorem g_X10_simulate_24 {Γ : zCx} {E : zEn} {S : zSk} {X : zMl} (C0 : zCt Γ E RX10 cX10_simulate 7 (Option.some Jvm.ClassFile.FieldType.int) [] { frames := 7, cells := 1, slots := 6, locals := 136 }) (F : Nat) (p0 : Nat) (p1 : Int64) (p2 : Int32) (hk_p0 : K_X10 S p0) : ∀ (n : Nat) (v4 : Int64) (v6 : Int32) (M : zMi) (r : (Nat ⊕ Int32) × zMi) , f_X10_simulate_24 F p0 p1 p2 n v4 v6 M = some r → zG Γ (zQX Γ E 1 6 S (Sum.map id (fun v => some (Value.int v)) r.1, r.2) X) E 7 1 6 S ZT M X 24 [(0, .ref p0), (3, .int p2), (4, .long v4), (6, .int v6)] [] := by
  intro n
  induction n with
  | zero => intro v4 v6 M r; intro hf; cases hf
  | succ n ih =>
    intro v4 v6 M r hf
    refine r_iload C0 dX10_simulate_24 3 rfl ?_
    refine r_iload_n C0 dX10_simulate_26 rfl 1 rfl ?_
    refine r_icmp_ge C0 61 dX10_simulate_27 (by decide) hf (fun hf => ?_) (fun hf => ?_)
    · refine r_sipush (v := 1000) C0 dX10_simulate_61 (by decide) ?_
      refine r_aload_n C0 dX10_simulate_64 rfl 0 rfl ?_
      refine r_getR C0 (C := RX10) (T := TX10) cl_X10 (K_X10_o hk_p0) (k := 2) (by decide) qw_360 rfl (K_X10_trial_r hk_p0) dX10_simulate_65 ?_
      refine r_getR C0 (C := RX5) (T := TX5) cl_X5 (K_X5_o (K_X10_trial_k hk_p0)) (k := 4) (by decide) qw_424 rfl (K_X5_ledger_r (K_X10_trial_k hk_p0)) dX10_simulate_68 ?_
      refine r_getI C0 (C := RX1) (T := TX1) cl_X1 (K_X1_o (K_X5_ledger_k (K_X10_trial_k hk_p0))) (k := 1) (by decide) qw_426 rfl dX10_simulate_71 ?_
      refine r_aload_n C0 dX10_simulate_74 rfl 0 rfl ?_
      refine r_getR C0 (C := RX10) (T := TX10) cl_X10 (K_X10_o hk_p0) (k := 1) (by decide) qw_365 rfl (K_X10_now_r hk_p0) dX10_simulate_75 ?_
      refine r_getR C0 (C := RX5) (T := TX5) cl_X5 (K_X5_o (K_X10_now_k hk_p0)) (k := 4) (by decide) qw_424 rfl (K_X5_ledger_r (K_X10_now_k hk_p0)) dX10_simulate_78 ?_
      refine r_getI C0 (C := RX1) (T := TX1) cl_X1 (K_X1_o (K_X5_ledger_k (K_X10_now_k hk_p0))) (k := 1) (by decide) qw_426 rfl dX10_simulate_81 ?_
      refine r_isub C0 dX10_simulate_84 ?_
      refine r_imul C0 dX10_simulate_85 ?_
      refine r_aload_n C0 dX10_simulate_86 rfl 0 rfl ?_
      refine r_getR C0 (C := RX10) (T := TX10) cl_X10 (K_X10_o hk_p0) (k := 2) (by decide) qw_360 rfl (K_X10_trial_r hk_p0) dX10_simulate_87 ?_
      refine r_getI C0 (C := RX5) (T := TX5) cl_X5 (K_X5_o (K_X10_trial_k hk_p0)) (k := 8) (by decide) qw_380 rfl dX10_simulate_90 ?_
      refine r_iadd C0 dX10_simulate_93 ?_
      obtain rfl := Option.some.inj hf
      exact rX_iret C0 rfl dX10_simulate_94
    · refine r_lload C0 dX10_simulate_30 2 rfl ?_
      refine r_ldc2 (v := 6364136223846793005) C0 qw_476 dX10_simulate_32 ?_
      refine r_lmul C0 dX10_simulate_35 ?_
      refine r_ldc2 (v := 1442695040888963407) C0 qw_477 dX10_simulate_36 ?_
      refine r_ladd C0 dX10_simulate_39 ?_
      refine r_nmL hf (fun x1 hf => ?_)
      refine r_lstore (L' := [(4, .long x1), (0, .ref p0), (3, .int p2), (6, .int v6)]) C0 dX10_simulate_40 (by decide) rfl ?_
      refine r_aload_n C0 dX10_simulate_42 rfl 1 rfl ?_
      refine r_getR C0 (C := RX10) (T := TX10) cl_X10 (K_X10_o hk_p0) (k := 2) (by decide) qw_360 rfl (K_X10_trial_r hk_p0) dX10_simulate_43 ?_
      refine r_lload C0 dX10_simulate_46 0 rfl ?_
      refine r_bipush (v := 33) C0 dX10_simulate_48 (by decide) ?_
      refine r_lushr C0 dX10_simulate_50 ?_
      refine r_l2i C0 dX10_simulate_51 ?_
      refine r_callVm C0 (st := []) [.int ((((x1).toUInt64 >>> (((33 : Int32)).toInt64.toUInt64 &&& Int64.toUInt64 63)).toInt64).toInt32)] (p0 + 24) hf vs_110 (fun hl r2 hr2 => c_X5_playRound hl F (p0 + 24) ((((x1).toUInt64 >>> (((33 : Int32)).toInt64.toUInt64 &&& Int64.toUInt64 63)).toInt64).toInt32) (K_X10_trial_k hk_p0) M r2 hr2) (K_X5_o (K_X10_trial_k hk_p0)) rfl rfl rfl rfl (Nat.le_of_ble_eq_true rfl) dX10_simulate_52 (zrm_ok rfl) (fun r2 hr2 hf => ?_)
      refine r_iinc (j := 3) (v := (v6 + (1 : Int32))) (L' := [(6, .int (v6 + (1 : Int32))), (4, .long x1), (0, .ref p0), (3, .int p2)]) C0 dX10_simulate_55 rfl rfl (by decide) rfl ?_
      refine r_goto C0 24 dX10_simulate_58 (by decide) ?_
      refine r_sub (L' := [(0, .ref p0), (3, .int p2), (4, .long x1), (6, .int (v6 + (1 : Int32)))]) [2, 3, 1, 0] rfl ?_
      exact ih x1 (v6 + (1 : Int32)) r2 _  hf
set_option maxHeartbeats 4000000 in
set_option maxRecDepth 100000 in
theorem c_X10_simulate {l : Launch} {E : zEn} {S : zSk} {X : zMl} (hl : l.stackTraces = false) (F : Nat) (p0 : Nat) (p1 : Int64) (p2 : Int32) (hk_p0 : K_X10 S p0) (M : zMi) (r : (Nat ⊕ Int32) × zMi) (hf : f_X10_simulate F p0 p1 p2 M = some r) : zMX l E yX10_simulate cX10_simulate 7 (Option.some Jvm.ClassFile.FieldType.int) { frames := 7, cells := 1, slots := 6, locals := 136 } 1 6 [.ref p0, .long p1, .int p2] S M X (Sum.map id (fun v => some (Value.int v)) r.1, r.2) := by
  refine zMX.intro (L0 := [(0, .ref p0), (1, .long p1), (3, .int p2)]) hl (by decide) (Nat.le_of_ble_eq_true rfl) rfl (fun Γ C0 => ?_)
  unfold f_X10_simulate at hf
  refine r_iload_n C0 dX10_simulate_0 rfl 2 rfl ?_
  refine r_iconst (v := 1) C0 dX10_simulate_1 (by decide) ?_
  refine r_bipush (v := 99) C0 dX10_simulate_2 (by decide) ?_
  refine rX_callSp C0 (st := []) (fun _ => none) [.int p2, .int (1 : Int32), .int (99 : Int32)] hf vs_71 (fun hl r9 h9 => c_X10_requireRange hl F p2 (1 : Int32) (99 : Int32) M r9 h9) rfl rfl (Nat.le_of_ble_eq_true rfl) dX10_simulate_4 (zrm_ok rfl) (fun e hf => ?_) (fun x2 hx2 hf => ?_)
  · obtain rfl := Option.some.inj hf
    exact rX_out C0 rfl (by decide) (by decide)
  refine r_eqst (st1 := []) rfl ?_
  refine r_aload_n C0 dX10_simulate_7 rfl 0 rfl ?_
  refine r_getR C0 (C := RX10) (T := TX10) cl_X10 (K_X10_o hk_p0) (k := 2) (by decide) qw_360 rfl (K_X10_trial_r hk_p0) dX10_simulate_8 ?_
  refine r_aload_n C0 dX10_simulate_11 rfl 0 rfl ?_
  refine r_getR C0 (C := RX10) (T := TX10) cl_X10 (K_X10_o hk_p0) (k := 1) (by decide) qw_365 rfl (K_X10_now_r hk_p0) dX10_simulate_12 ?_
  refine r_callVm C0 (st := []) [.ref (p0 + 3)] (p0 + 24) hf vs_77 (fun hl r3 hr3 => c_X5_copyFrom hl F (p0 + 24) (p0 + 3) (K_X10_trial_k hk_p0) (K_X10_now_k hk_p0) M r3 hr3) (K_X5_o (K_X10_trial_k hk_p0)) rfl rfl rfl rfl (Nat.le_of_ble_eq_true rfl) dX10_simulate_15 (zrm_ok rfl) (fun r3 hr3 hf => ?_)
  refine r_lload_n C0 dX10_simulate_18 rfl 1 rfl ?_
  refine r_lstore (L' := [(4, .long p1), (0, .ref p0), (1, .long p1), (3, .int p2)]) C0 dX10_simulate_19 (by decide) rfl ?_
  refine r_iconst (v := 0) C0 dX10_simulate_21 (by decide) ?_
  refine r_istore (L' := [(6, .int (0 : Int32)), (4, .long p1), (0, .ref p0), (1, .long p1), (3, .int p2)]) C0 dX10_simulate_22 (by decide) rfl ?_
  refine r_sub (L' := [(0, .ref p0), (3, .int p2), (4, .long p1), (6, .int (0 : Int32))]) [2, 4, 1, 0] rfl ?_
  exact g_X10_simulate_24 C0 F p0 p1 p2 hk_p0 F p1 (0 : Int32) r3 _  hf
set_option maxHeartbeats 4000000 in
set_option maxRecDepth 100000 in
theorem c_X10_existingSlot {l : Launch} {E : zEn} {S : zSk} {X : zMl} (hl : l.stackTraces = false) (F : Nat) (p0 : Nat) (p1 : Int32) (hk_p0 : K_X10 S p0) (M : zMi) (r : Nat ⊕ Nat) (hf : f_X10_existingSlot F p0 p1 M = some r) : zMX l E yX10_existingSlot cX10_existingSlot 2 (Option.some (Jvm.ClassFile.FieldType.object "CableLanding$Slot")) { frames := 6, cells := 1, slots := 6, locals := 90 } 1 6 [.ref p0, .int p1] S M X (Sum.map id (fun q => some (Value.ref q)) r, M) := by
  refine zMX.intro (L0 := [(0, .ref p0), (1, .int p1)]) hl (by decide) (Nat.le_of_ble_eq_true rfl) rfl (fun Γ C0 => ?_)
  unfold f_X10_existingSlot at hf
  refine r_iload_n C0 dX10_existingSlot_0 rfl 1 rfl ?_
  refine r_if_lt C0 13 dX10_existingSlot_1 (by decide) hf (fun hf => ?_) (fun hf => ?_)
  · obtain rfl := Option.some.inj hf
    exact rX_throwSW C0 (e := 3) (text := "no such save slot") (by decide +kernel) qw_396 qw_397 (by decide +kernel) ht_83_a ht_83_b dX10_existingSlot_13 dX10_existingSlot_16 dX10_existingSlot_17 dX10_existingSlot_20 dX10_existingSlot_23 rfl (Nat.le_of_ble_eq_true rfl) (Nat.le_of_ble_eq_true rfl) (Nat.le_of_ble_eq_true rfl) (Nat.le_of_ble_eq_true rfl) (Nat.le_of_ble_eq_true rfl) (Nat.le_of_ble_eq_true rfl)
  · refine r_iload_n C0 dX10_existingSlot_4 rfl 1 rfl ?_
    refine r_aload_n C0 dX10_existingSlot_5 rfl 0 rfl ?_
    refine r_getR C0 (C := RX10) (T := TX10) cl_X10 (K_X10_o hk_p0) (k := 4) (by decide) qw_374 rfl (K_X10_slots_r hk_p0) dX10_existingSlot_6 ?_
    refine r_alen (v := 2) C0 ((K_X10_slots_k hk_p0)).1 (by decide) rfl dX10_existingSlot_9 ?_
    refine r_icmp_lt C0 24 dX10_existingSlot_10 (by decide) hf (fun hf => ?_) (fun hf => ?_)
    · refine r_aload_n C0 dX10_existingSlot_24 rfl 0 rfl ?_
      refine r_getR C0 (C := RX10) (T := TX10) cl_X10 (K_X10_o hk_p0) (k := 4) (by decide) qw_374 rfl (K_X10_slots_r hk_p0) dX10_existingSlot_25 ?_
      refine r_iload_n C0 dX10_existingSlot_28 rfl 1 rfl ?_
      refine r_aald C0 (g := fun j => p0 + 341 + 1 + 22 * j) ((K_X10_slots_k hk_p0)).1 (by decide) (by decide) rfl ((K_X10_slots_k hk_p0)).2.1 hf dX10_existingSlot_29 (fun hi hf => ?_)
      refine r_nmA hf (fun q1 hq hf => ?_)
      have hk_q1 : K_X4 S q1 := by rw [hq]; exact ((K_X10_slots_k hk_p0)).2.2 _ hi
      obtain rfl := Option.some.inj hf
      refine r_widen (k1 := 1) (s1 := 6) (by decide) (by decide) ?_
      exact rX_aret C0 rfl dX10_existingSlot_30
    · obtain rfl := Option.some.inj hf
      exact rX_throwSW C0 (e := 3) (text := "no such save slot") (by decide +kernel) qw_396 qw_397 (by decide +kernel) ht_83_a ht_83_b dX10_existingSlot_13 dX10_existingSlot_16 dX10_existingSlot_17 dX10_existingSlot_20 dX10_existingSlot_23 rfl (Nat.le_of_ble_eq_true rfl) (Nat.le_of_ble_eq_true rfl) (Nat.le_of_ble_eq_true rfl) (Nat.le_of_ble_eq_true rfl) (Nat.le_of_ble_eq_true rfl) (Nat.le_of_ble_eq_true rfl)
theorem n_X10_existingSlot {F : Nat} {p0 : Nat} {p1 : Int32} {M : zMi} {S : zSk} {q : Nat} (h : f_X10_existingSlot F p0 p1 M = some (.inr q)) (hk_p0 : K_X10 S p0) : K_X4 S q := by
  unfold f_X10_existingSlot at h
  simp only [bnd, grd] at h
  repeat' split at h
  all_goals cases h
  all_goals exact (K_X10_slots_k hk_p0).2.2 _ (inb_lt (by assumption))
set_option maxHeartbeats 4000000 in
set_option maxRecDepth 100000 in
theorem c_X10_save {l : Launch} {E : zEn} {S : zSk} {X : zMl} (hl : l.stackTraces = false) (F : Nat) (p0 : Nat) (p1 : Int32) (hk_p0 : K_X10 S p0) (M : zMi) (r : (Nat ⊕ Int32) × zMi) (hf : f_X10_save F p0 p1 M = some r) : zMX l E yX10_save cX10_save 3 (Option.some Jvm.ClassFile.FieldType.int) { frames := 7, cells := 1, slots := 6, locals := 111 } 1 6 [.ref p0, .int p1] S M X (Sum.map id (fun v => some (Value.int v)) r.1, r.2) := by
  refine zMX.intro (L0 := [(0, .ref p0), (1, .int p1)]) hl (by decide) (Nat.le_of_ble_eq_true rfl) rfl (fun Γ C0 => ?_)
  unfold f_X10_save at hf
  refine r_aload_n C0 dX10_save_0 rfl 0 rfl ?_
  refine r_iload_n C0 dX10_save_1 rfl 1 rfl ?_
  refine rX_callVp C0 (st := []) (fun q => some (Value.ref q)) [.int p1] p0 hf vs_111 (fun hl r9 h9 => c_X10_existingSlot hl F p0 p1 hk_p0 M r9 h9) (K_X10_o hk_p0) rfl rfl rfl rfl (Nat.le_of_ble_eq_true rfl) dX10_save_2 (zrm_ok rfl) (fun e hf => ?_) (fun q2 hq2 hf => ?_)
  · obtain rfl := Option.some.inj hf
    exact rX_out C0 rfl (by decide) (by decide)
  refine r_eqst (st1 := [.ref q2]) rfl ?_
  have hk_q2 := n_X10_existingSlot hq2 hk_p0
  refine r_astore_n (L' := [(2, .ref q2), (0, .ref p0), (1, .int p1)]) C0 dX10_save_5 rfl (by decide) rfl ?_
  refine r_aload_n C0 dX10_save_6 rfl 0 rfl ?_
  refine r_getR C0 (C := RX4) (T := TX4) cl_X4 (K_X4_o hk_q2) (k := 0) (by decide) qw_486 rfl (K_X4_state_r hk_q2) dX10_save_7 ?_
  refine r_aload_n C0 dX10_save_10 rfl 1 rfl ?_
  refine r_getR C0 (C := RX10) (T := TX10) cl_X10 (K_X10_o hk_p0) (k := 1) (by decide) qw_365 rfl (K_X10_now_r hk_p0) dX10_save_11 ?_
  refine r_callVm C0 (st := []) [.ref (p0 + 3)] (q2 + 1) hf vs_77 (fun hl r3 hr3 => c_X5_copyFrom hl F (q2 + 1) (p0 + 3) (K_X4_state_k hk_q2) (K_X10_now_k hk_p0) M r3 hr3) (K_X5_o (K_X4_state_k hk_q2)) rfl rfl rfl rfl (Nat.le_of_ble_eq_true rfl) dX10_save_14 (zrm_ok rfl) (fun r3 hr3 hf => ?_)
  refine r_aload_n C0 dX10_save_17 rfl 0 rfl ?_
  refine r_iconst (v := 1) C0 dX10_save_18 (by decide) ?_
  refine r_putI C0 (C := RX4) (T := TX4) cl_X4 (K_X4_o hk_q2) (k := 1) (by decide) qw_367 rfl rfl rfl rfl hf dX10_save_19 (fun M4 hf => ?_)
  refine r_aload_n C0 dX10_save_22 rfl 1 rfl ?_
  refine r_getR C0 (C := RX10) (T := TX10) cl_X10 (K_X10_o hk_p0) (k := 1) (by decide) qw_365 rfl (K_X10_now_r hk_p0) dX10_save_23 ?_
  refine r_getI C0 (C := RX5) (T := TX5) cl_X5 (K_X5_o (K_X10_now_k hk_p0)) (k := 8) (by decide) qw_380 rfl dX10_save_26 ?_
  obtain rfl := Option.some.inj hf
  exact rX_iret C0 rfl dX10_save_29
set_option maxHeartbeats 4000000 in
set_option maxRecDepth 100000 in
theorem c_X10_restore {l : Launch} {E : zEn} {S : zSk} {X : zMl} (hl : l.stackTraces = false) (F : Nat) (p0 : Nat) (p1 : Int32) (hk_p0 : K_X10 S p0) (M : zMi) (r : (Nat ⊕ Int32) × zMi) (hf : f_X10_restore F p0 p1 M = some r) : zMX l E yX10_restore cX10_restore 3 (Option.some Jvm.ClassFile.FieldType.int) { frames := 7, cells := 2, slots := 12, locals := 111 } 2 12 [.ref p0, .int p1] S M X (Sum.map id (fun v => some (Value.int v)) r.1, r.2) := by
  refine zMX.intro (L0 := [(0, .ref p0), (1, .int p1)]) hl (by decide) (Nat.le_of_ble_eq_true rfl) rfl (fun Γ C0 => ?_)
  unfold f_X10_restore at hf
  refine r_aload_n C0 dX10_restore_0 rfl 0 rfl ?_
  refine r_iload_n C0 dX10_restore_1 rfl 1 rfl ?_
  refine rX_callVp C0 (st := []) (fun q => some (Value.ref q)) [.int p1] p0 hf vs_111 (fun hl r9 h9 => c_X10_existingSlot hl F p0 p1 hk_p0 M r9 h9) (K_X10_o hk_p0) rfl rfl rfl rfl (Nat.le_of_ble_eq_true rfl) dX10_restore_2 (zrm_ok rfl) (fun e hf => ?_) (fun q2 hq2 hf => ?_)
  · obtain rfl := Option.some.inj hf
    exact rX_out C0 rfl (by decide) (by decide)
  refine r_eqst (st1 := [.ref q2]) rfl ?_
  have hk_q2 := n_X10_existingSlot hq2 hk_p0
  refine r_astore_n (L' := [(2, .ref q2), (0, .ref p0), (1, .int p1)]) C0 dX10_restore_5 rfl (by decide) rfl ?_
  refine r_aload_n C0 dX10_restore_6 rfl 0 rfl ?_
  refine r_getI C0 (C := RX4) (T := TX4) cl_X4 (K_X4_o hk_q2) (k := 1) (by decide) qw_367 rfl dX10_restore_7 ?_
  refine rX_callSp C0 (st := []) (fun _ => none) [.int (M q2 1)] hf vs_73 (fun hl r9 h9 => c_X10_require hl F (M q2 1) M r9 h9) rfl rfl (Nat.le_of_ble_eq_true rfl) dX10_restore_10 (zrm_ok rfl) (fun e hf => ?_) (fun x4 hx4 hf => ?_)
  · obtain rfl := Option.some.inj hf
    exact rX_out C0 rfl (by decide) (by decide)
  refine r_eqst (st1 := []) rfl ?_
  refine r_aload_n C0 dX10_restore_13 rfl 1 rfl ?_
  refine r_getR C0 (C := RX10) (T := TX10) cl_X10 (K_X10_o hk_p0) (k := 1) (by decide) qw_365 rfl (K_X10_now_r hk_p0) dX10_restore_14 ?_
  refine r_aload_n C0 dX10_restore_17 rfl 0 rfl ?_
  refine r_getR C0 (C := RX4) (T := TX4) cl_X4 (K_X4_o hk_q2) (k := 0) (by decide) qw_486 rfl (K_X4_state_r hk_q2) dX10_restore_18 ?_
  refine r_callVm C0 (st := []) [.ref (q2 + 1)] (p0 + 3) hf vs_77 (fun hl r5 hr5 => c_X5_copyFrom hl F (p0 + 3) (q2 + 1) (K_X10_now_k hk_p0) (K_X4_state_k hk_q2) M r5 hr5) (K_X5_o (K_X10_now_k hk_p0)) rfl rfl rfl rfl (Nat.le_of_ble_eq_true rfl) dX10_restore_21 (zrm_ok rfl) (fun r5 hr5 hf => ?_)
  refine r_aload_n C0 dX10_restore_24 rfl 1 rfl ?_
  refine r_getR C0 (C := RX10) (T := TX10) cl_X10 (K_X10_o hk_p0) (k := 3) (by decide) qw_369 rfl (K_X10_history_r hk_p0) dX10_restore_25 ?_
  refine r_callVm C0 (st := []) [] (p0 + 45) hf vs_78 (fun hl r6 hr6 => c_X0_clear hl F (p0 + 45) (K_X10_history_k hk_p0) r5 r6 hr6) (K_X0_o (K_X10_history_k hk_p0)) rfl rfl rfl rfl (Nat.le_of_ble_eq_true rfl) dX10_restore_28 (zrm_ok rfl) (fun r6 hr6 hf => ?_)
  refine r_aload_n C0 dX10_restore_31 rfl 1 rfl ?_
  refine r_getR C0 (C := RX10) (T := TX10) cl_X10 (K_X10_o hk_p0) (k := 1) (by decide) qw_365 rfl (K_X10_now_r hk_p0) dX10_restore_32 ?_
  refine r_getI C0 (C := RX5) (T := TX5) cl_X5 (K_X5_o (K_X10_now_k hk_p0)) (k := 8) (by decide) qw_380 rfl dX10_restore_35 ?_
  obtain rfl := Option.some.inj hf
  exact rX_iret C0 rfl dX10_restore_38
set_option maxHeartbeats 4000000 in
set_option maxRecDepth 100000 in
theorem c_X11_thrown {l : Launch} {E : zEn} {S : zSk} {X : zMl} {Z : Nat → Prop} (hl : l.stackTraces = false) (F : Nat) (p0 : Nat) (hk_p0 : K_X11 S p0) (M : zMi) (r : Int32) (hf : f_X11_thrown F p0 M = some r) : zM l E yX11_thrown cX11_thrown 1 (Option.some Jvm.ClassFile.FieldType.int) { frames := 0, cells := 0, slots := 0, locals := 0 } 0 0 [.ref p0] S Z M X S Z (some (.int r)) M X := by
  refine zM.intro (L0 := [(0, .ref p0)]) hl (by decide) (Nat.le_of_ble_eq_true rfl) rfl (fun Γ C0 _ => ?_)
  unfold f_X11_thrown at hf
  refine r_aload_n C0 dX11_thrown_0 rfl 0 rfl ?_
  refine r_getI C0 (C := RX11) (T := TX11) cl_X11 (K_X11_o hk_p0) (k := 0) (by decide) qw_487 rfl dX11_thrown_1 ?_
  obtain rfl := Option.some.inj hf
  exact r_iret C0 dX11_thrown_4
set_option maxHeartbeats 4000000 in
set_option maxRecDepth 100000 in
theorem c_X11_refused {l : Launch} {E : zEn} {S : zSk} {X : zMl} {Z : Nat → Prop} (hl : l.stackTraces = false) (F : Nat) (p0 : Nat) (p1 : Int32) (hk_p0 : K_X11 S p0) (M : zMi) (r : Int32 × zMi) (hf : f_X11_refused F p0 p1 M = some r) : zM l E yX11_refused cX11_refused 2 (Option.some Jvm.ClassFile.FieldType.boolean) { frames := 0, cells := 0, slots := 0, locals := 0 } 0 0 [.ref p0, .int p1] S Z M X S Z (some (.int r.1)) r.2 X := by
  refine zM.intro (L0 := [(0, .ref p0), (1, .int p1)]) hl (by decide) (Nat.le_of_ble_eq_true rfl) rfl (fun Γ C0 _ => ?_)
  unfold f_X11_refused at hf
  refine r_aload_n C0 dX11_refused_0 rfl 0 rfl ?_
  refine r_iload_n C0 dX11_refused_1 rfl 1 rfl ?_
  refine r_putI C0 (C := RX11) (T := TX11) cl_X11 (K_X11_o hk_p0) (k := 0) (by decide) qw_487 rfl rfl rfl rfl hf dX11_refused_2 (fun M1 hf => ?_)
  refine r_iload_n C0 dX11_refused_5 rfl 1 rfl ?_
  refine r_if_le C0 13 dX11_refused_6 (by decide) hf (fun hf => ?_) (fun hf => ?_)
  · refine r_iconst (v := 0) C0 dX11_refused_13 (by decide) ?_
    obtain rfl := Option.some.inj hf
    exact r_zret C0 rfl dX11_refused_14
  · refine r_iconst (v := 1) C0 dX11_refused_9 (by decide) ?_
    refine r_goto C0 14 dX11_refused_10 (by decide) ?_
    obtain rfl := Option.some.inj hf
    exact r_zret C0 rfl dX11_refused_14
set_option maxHeartbeats 4000000 in
set_option maxRecDepth 100000 in
theorem c_X11_in {l : Launch} {E : zEn} {S : zSk} {X : zMl} {Z : Nat → Prop} (hl : l.stackTraces = false) (F : Nat) (p0 : Int64) (p1 : Int64) (p2 : Int64) (M : zMi) (r : Int32) (hf : f_X11_in F p0 p1 p2 M = some r) : zM l E yX11_in cX11_in 6 (Option.some Jvm.ClassFile.FieldType.boolean) { frames := 0, cells := 0, slots := 0, locals := 0 } 0 0 [.long p0, .long p1, .long p2] S Z M X S Z (some (.int r)) M X := by
  refine zM.intro (L0 := [(0, .long p0), (2, .long p1), (4, .long p2)]) hl (by decide) (Nat.le_of_ble_eq_true rfl) rfl (fun Γ C0 _ => ?_)
  unfold f_X11_in at hf
  refine r_lload_n C0 dX11_in_0 rfl 0 rfl ?_
  refine r_lload_n C0 dX11_in_1 rfl 1 rfl ?_
  refine r_lcmp C0 dX11_in_2 ?_
  refine r_if_lt C0 17 dX11_in_3 (by decide) hf (fun hf => ?_) (fun hf => ?_)
  · refine r_iconst (v := 0) C0 dX11_in_17 (by decide) ?_
    obtain rfl := Option.some.inj hf
    exact r_zret C0 rfl dX11_in_18
  · refine r_lload_n C0 dX11_in_6 rfl 0 rfl ?_
    refine r_lload C0 dX11_in_7 2 rfl ?_
    refine r_lcmp C0 dX11_in_9 ?_
    refine r_if_gt C0 17 dX11_in_10 (by decide) hf (fun hf => ?_) (fun hf => ?_)
    · refine r_iconst (v := 0) C0 dX11_in_17 (by decide) ?_
      obtain rfl := Option.some.inj hf
      exact r_zret C0 rfl dX11_in_18
    · refine r_iconst (v := 1) C0 dX11_in_13 (by decide) ?_
      refine r_goto C0 18 dX11_in_14 (by decide) ?_
      obtain rfl := Option.some.inj hf
      exact r_zret C0 rfl dX11_in_18
set_option maxHeartbeats 4000000 in
set_option maxRecDepth 100000 in
theorem g_X11_copyPage_3 {Γ : zCx} {E : zEn} {S : zSk} {X : zMl} {Z : Nat → Prop} (C0 : zCt Γ E RX11 cX11_copyPage 5 (Option.none : Option Jvm.ClassFile.FieldType) [] { frames := 0, cells := 0, slots := 0, locals := 0 }) (F : Nat) (p0 : Nat) (np0 : Nat) (p1 : Int32) (p2 : Nat) (np2 : Nat) (p3 : Int32) (hk_p0 : S.1 p0 = some (.inr (0, np0))) (hk_p2 : S.1 p2 = some (.inr (0, np2))) : ∀ (n : Nat) (v4 : Int32) (M : zMi) (r : zMi) , f_X11_copyPage_3 F p0 np0 p1 p2 np2 p3 n v4 M = some r → zG Γ (zQ Γ E 0 0 S Z none r X) E 5 0 0 S Z M X 3 [(0, .ref p0), (1, .int p1), (2, .ref p2), (3, .int p3), (4, .int v4)] [] := by
  intro n
  induction n with
  | zero => intro v4 M r; intro hf; cases hf
  | succ n ih =>
    intro v4 M r hf
    refine r_iload C0 dX11_copyPage_3 4 rfl ?_
    refine r_bipush (v := 121) C0 dX11_copyPage_5 (by decide) ?_
    refine r_icmp_ge C0 28 dX11_copyPage_7 (by decide) hf (fun hf => ?_) (fun hf => ?_)
    · obtain rfl := Option.some.inj hf
      exact r_vret C0 dX11_copyPage_28
    · refine r_aload_n C0 dX11_copyPage_10 rfl 2 rfl ?_
      refine r_iload_n C0 dX11_copyPage_11 rfl 3 rfl ?_
      refine r_iload C0 dX11_copyPage_12 4 rfl ?_
      refine r_iadd C0 dX11_copyPage_14 ?_
      refine r_aload_n C0 dX11_copyPage_15 rfl 0 rfl ?_
      refine r_iload_n C0 dX11_copyPage_16 rfl 1 rfl ?_
      refine r_iload C0 dX11_copyPage_17 4 rfl ?_
      refine r_iadd C0 dX11_copyPage_19 ?_
      refine r_iald C0 hk_p0 hf dX11_copyPage_20 (fun hf => ?_)
      refine r_iast C0 hk_p2 hf dX11_copyPage_21 (fun M1 hf => ?_)
      refine r_iinc (j := 4) (v := (v4 + (1 : Int32))) (L' := [(4, .int (v4 + (1 : Int32))), (0, .ref p0), (1, .int p1), (2, .ref p2), (3, .int p3)]) C0 dX11_copyPage_22 rfl rfl (by decide) rfl ?_
      refine r_goto C0 3 dX11_copyPage_25 (by decide) ?_
      refine r_sub (L' := [(0, .ref p0), (1, .int p1), (2, .ref p2), (3, .int p3), (4, .int (v4 + (1 : Int32)))]) [1, 2, 3, 4, 0] rfl ?_
      exact ih (v4 + (1 : Int32)) M1 _  hf
set_option maxHeartbeats 4000000 in
set_option maxRecDepth 100000 in
theorem c_X11_copyPage {l : Launch} {E : zEn} {S : zSk} {X : zMl} {Z : Nat → Prop} (hl : l.stackTraces = false) (F : Nat) (p0 : Nat) (np0 : Nat) (p1 : Int32) (p2 : Nat) (np2 : Nat) (p3 : Int32) (hk_p0 : S.1 p0 = some (.inr (0, np0))) (hk_p2 : S.1 p2 = some (.inr (0, np2))) (M : zMi) (r : zMi) (hf : f_X11_copyPage F p0 np0 p1 p2 np2 p3 M = some r) : zM l E yX11_copyPage cX11_copyPage 5 (Option.none : Option Jvm.ClassFile.FieldType) { frames := 0, cells := 0, slots := 0, locals := 0 } 0 0 [.ref p0, .int p1, .ref p2, .int p3] S Z M X S Z none r X := by
  refine zM.intro (L0 := [(0, .ref p0), (1, .int p1), (2, .ref p2), (3, .int p3)]) hl (by decide) (Nat.le_of_ble_eq_true rfl) rfl (fun Γ C0 _ => ?_)
  unfold f_X11_copyPage at hf
  refine r_iconst (v := 0) C0 dX11_copyPage_0 (by decide) ?_
  refine r_istore (L' := [(4, .int (0 : Int32)), (0, .ref p0), (1, .int p1), (2, .ref p2), (3, .int p3)]) C0 dX11_copyPage_1 (by decide) rfl ?_
  refine r_sub (L' := [(0, .ref p0), (1, .int p1), (2, .ref p2), (3, .int p3), (4, .int (0 : Int32))]) [1, 2, 3, 4, 0] rfl ?_
  exact g_X11_copyPage_3 C0 F p0 np0 p1 p2 np2 p3 hk_p0 hk_p2 F (0 : Int32) M _  hf
set_option maxHeartbeats 4000000 in
set_option maxRecDepth 100000 in
theorem c_X11_isZone {l : Launch} {E : zEn} {S : zSk} {X : zMl} {Z : Nat → Prop} (hl : l.stackTraces = false) (F : Nat) (p0 : Nat) (p1 : Int32) (hk_p0 : S.1 p0 = some (.inr (0, 121))) (M : zMi) (r : Int32) (hf : f_X11_isZone F p0 p1 M = some r) : zM l E yX11_isZone cX11_isZone 2 (Option.some Jvm.ClassFile.FieldType.boolean) { frames := 1, cells := 0, slots := 0, locals := 25 } 0 0 [.ref p0, .int p1] S Z M X S Z (some (.int r)) M X := by
  refine zM.intro (L0 := [(0, .ref p0), (1, .int p1)]) hl (by decide) (Nat.le_of_ble_eq_true rfl) rfl (fun Γ C0 _ => ?_)
  unfold f_X11_isZone at hf
  refine r_iload_n C0 dX11_isZone_0 rfl 1 rfl ?_
  refine r_i2l C0 dX11_isZone_1 ?_
  refine r_lconst (v := 0) C0 dX11_isZone_2 (by decide) ?_
  refine r_aload_n C0 dX11_isZone_3 rfl 0 rfl ?_
  refine r_iconst (v := 4) C0 dX11_isZone_4 (by decide) ?_
  refine r_iald' (j := 4) C0 hk_p0 rfl rfl dX11_isZone_5 ?_
  refine r_iconst (v := 1) C0 dX11_isZone_6 (by decide) ?_
  refine r_isub C0 dX11_isZone_7 ?_
  refine r_i2l C0 dX11_isZone_8 ?_
  refine r_callSi C0 (st := []) [.long ((p1).toInt64), .long (0 : Int64), .long ((((M p0 4) - (1 : Int32))).toInt64)] hf vs_112 (fun hl r1 hr1 => c_X11_in hl F ((p1).toInt64) (0 : Int64) ((((M p0 4) - (1 : Int32))).toInt64) M r1 hr1) rfl rfl (Nat.le_of_ble_eq_true rfl) dX11_isZone_9 (zrm_ok rfl) (fun r1 hr1 hf => ?_)
  obtain ⟨hv, hf⟩ := grd_some hf
  obtain rfl := Option.some.inj hf
  exact r_zret C0 hv dX11_isZone_12
set_option maxHeartbeats 4000000 in
set_option maxRecDepth 100000 in
theorem c_X11_isShip {l : Launch} {E : zEn} {S : zSk} {X : zMl} {Z : Nat → Prop} (hl : l.stackTraces = false) (F : Nat) (p0 : Nat) (p1 : Int32) (hk_p0 : S.1 p0 = some (.inr (0, 121))) (M : zMi) (r : Int32) (hf : f_X11_isShip F p0 p1 M = some r) : zM l E yX11_isShip cX11_isShip 2 (Option.some Jvm.ClassFile.FieldType.boolean) { frames := 1, cells := 0, slots := 0, locals := 25 } 0 0 [.ref p0, .int p1] S Z M X S Z (some (.int r)) M X := by
  refine zM.intro (L0 := [(0, .ref p0), (1, .int p1)]) hl (by decide) (Nat.le_of_ble_eq_true rfl) rfl (fun Γ C0 _ => ?_)
  unfold f_X11_isShip at hf
  refine r_iload_n C0 dX11_isShip_0 rfl 1 rfl ?_
  refine r_i2l C0 dX11_isShip_1 ?_
  refine r_lconst (v := 0) C0 dX11_isShip_2 (by decide) ?_
  refine r_aload_n C0 dX11_isShip_3 rfl 0 rfl ?_
  refine r_iconst (v := 5) C0 dX11_isShip_4 (by decide) ?_
  refine r_iald' (j := 5) C0 hk_p0 rfl rfl dX11_isShip_5 ?_
  refine r_iconst (v := 1) C0 dX11_isShip_6 (by decide) ?_
  refine r_isub C0 dX11_isShip_7 ?_
  refine r_i2l C0 dX11_isShip_8 ?_
  refine r_callSi C0 (st := []) [.long ((p1).toInt64), .long (0 : Int64), .long ((((M p0 5) - (1 : Int32))).toInt64)] hf vs_112 (fun hl r1 hr1 => c_X11_in hl F ((p1).toInt64) (0 : Int64) ((((M p0 5) - (1 : Int32))).toInt64) M r1 hr1) rfl rfl (Nat.le_of_ble_eq_true rfl) dX11_isShip_9 (zrm_ok rfl) (fun r1 hr1 hf => ?_)
  obtain ⟨hv, hf⟩ := grd_some hf
  obtain rfl := Option.some.inj hf
  exact r_zret C0 hv dX11_isShip_12
set_option maxHeartbeats 4000000 in
set_option maxRecDepth 100000 in
theorem c_X11_zoneAt {l : Launch} {E : zEn} {S : zSk} {X : zMl} {Z : Nat → Prop} (hl : l.stackTraces = false) (F : Nat) (p0 : Int32) (M : zMi) (r : Int32) (hf : f_X11_zoneAt F p0 M = some r) : zM l E yX11_zoneAt cX11_zoneAt 1 (Option.some Jvm.ClassFile.FieldType.int) { frames := 0, cells := 0, slots := 0, locals := 0 } 0 0 [.int p0] S Z M X S Z (some (.int r)) M X := by
  refine zM.intro (L0 := [(0, .int p0)]) hl (by decide) (Nat.le_of_ble_eq_true rfl) rfl (fun Γ C0 _ => ?_)
  unfold f_X11_zoneAt at hf
  refine r_bipush (v := 23) C0 dX11_zoneAt_0 (by decide) ?_
  refine r_iconst (v := 4) C0 dX11_zoneAt_2 (by decide) ?_
  refine r_iload_n C0 dX11_zoneAt_3 rfl 0 rfl ?_
  refine r_imul C0 dX11_zoneAt_4 ?_
  refine r_iadd C0 dX11_zoneAt_5 ?_
  obtain rfl := Option.some.inj hf
  exact r_iret C0 dX11_zoneAt_6
set_option maxHeartbeats 4000000 in
set_option maxRecDepth 100000 in
theorem c_X11_shipAt {l : Launch} {E : zEn} {S : zSk} {X : zMl} {Z : Nat → Prop} (hl : l.stackTraces = false) (F : Nat) (p0 : Int32) (M : zMi) (r : Int32) (hf : f_X11_shipAt F p0 M = some r) : zM l E yX11_shipAt cX11_shipAt 1 (Option.some Jvm.ClassFile.FieldType.int) { frames := 0, cells := 0, slots := 0, locals := 0 } 0 0 [.int p0] S Z M X S Z (some (.int r)) M X := by
  refine zM.intro (L0 := [(0, .int p0)]) hl (by decide) (Nat.le_of_ble_eq_true rfl) rfl (fun Γ C0 _ => ?_)
  unfold f_X11_shipAt at hf
  refine r_bipush (v := 59) C0 dX11_shipAt_0 (by decide) ?_
  refine r_bipush (v := 8) C0 dX11_shipAt_2 (by decide) ?_
  refine r_iload_n C0 dX11_shipAt_4 rfl 0 rfl ?_
  refine r_imul C0 dX11_shipAt_5 ?_
  refine r_iadd C0 dX11_shipAt_6 ?_
  obtain rfl := Option.some.inj hf
  exact r_iret C0 dX11_shipAt_7
set_option maxHeartbeats 4000000 in
set_option maxRecDepth 100000 in
theorem c_X11_isFinished {l : Launch} {E : zEn} {S : zSk} {X : zMl} {Z : Nat → Prop} (hl : l.stackTraces = false) (F : Nat) (p0 : Nat) (hk_p0 : S.1 p0 = some (.inr (0, 121))) (M : zMi) (r : Int32) (hf : f_X11_isFinished F p0 M = some r) : zM l E yX11_isFinished cX11_isFinished 1 (Option.some Jvm.ClassFile.FieldType.boolean) { frames := 0, cells := 0, slots := 0, locals := 0 } 0 0 [.ref p0] S Z M X S Z (some (.int r)) M X := by
  refine zM.intro (L0 := [(0, .ref p0)]) hl (by decide) (Nat.le_of_ble_eq_true rfl) rfl (fun Γ C0 _ => ?_)
  unfold f_X11_isFinished at hf
  refine r_aload_n C0 dX11_isFinished_0 rfl 0 rfl ?_
  refine r_bipush (v := 7) C0 dX11_isFinished_1 (by decide) ?_
  refine r_iald' (j := 7) C0 hk_p0 rfl rfl dX11_isFinished_3 ?_
  refine r_aload_n C0 dX11_isFinished_4 rfl 0 rfl ?_
  refine r_iconst (v := 4) C0 dX11_isFinished_5 (by decide) ?_
  refine r_iald' (j := 4) C0 hk_p0 rfl rfl dX11_isFinished_6 ?_
  refine r_icmp_ne C0 14 dX11_isFinished_7 (by decide) hf (fun hf => ?_) (fun hf => ?_)
  · refine r_iconst (v := 0) C0 dX11_isFinished_14 (by decide) ?_
    obtain rfl := Option.some.inj hf
    exact r_zret C0 rfl dX11_isFinished_15
  · refine r_iconst (v := 1) C0 dX11_isFinished_10 (by decide) ?_
    refine r_goto C0 15 dX11_isFinished_11 (by decide) ?_
    obtain rfl := Option.some.inj hf
    exact r_zret C0 rfl dX11_isFinished_15
set_option maxHeartbeats 4000000 in
set_option maxRecDepth 100000 in
theorem c_X11_needOf {l : Launch} {E : zEn} {S : zSk} {X : zMl} {Z : Nat → Prop} (hl : l.stackTraces = false) (F : Nat) (p0 : Nat) (p1 : Int32) (p2 : Int32) (hk_p0 : S.1 p0 = some (.inr (0, 121))) (M : zMi) (r : Int32) (hf : f_X11_needOf F p0 p1 p2 M = some r) : zM l E yX11_needOf cX11_needOf 3 (Option.some Jvm.ClassFile.FieldType.int) { frames := 1, cells := 0, slots := 0, locals := 20 } 0 0 [.ref p0, .int p1, .int p2] S Z M X S Z (some (.int r)) M X := by
  refine zM.intro (L0 := [(0, .ref p0), (1, .int p1), (2, .int p2)]) hl (by decide) (Nat.le_of_ble_eq_true rfl) rfl (fun Γ C0 _ => ?_)
  unfold f_X11_needOf at hf
  refine r_iload_n C0 dX11_needOf_0 rfl 2 rfl ?_
  refine r_iload_n C0 dX11_needOf_1 rfl 2 rfl ?_
  refine r_aload_n C0 dX11_needOf_2 rfl 0 rfl ?_
  refine r_iload_n C0 dX11_needOf_3 rfl 1 rfl ?_
  refine r_callSi C0 (st := [.ref p0, .int p2, .int p2]) [.int p1] hf vs_113 (fun hl r1 hr1 => c_X11_zoneAt hl F p1 M r1 hr1) rfl rfl (Nat.le_of_ble_eq_true rfl) dX11_needOf_4 (zrm_ok rfl) (fun r1 hr1 hf => ?_)
  refine r_iconst (v := 3) C0 dX11_needOf_7 (by decide) ?_
  refine r_iadd C0 dX11_needOf_8 ?_
  refine r_iald C0 hk_p0 hf dX11_needOf_9 (fun hf => ?_)
  refine r_imul C0 dX11_needOf_10 ?_
  refine r_bipush (v := 99) C0 dX11_needOf_11 (by decide) ?_
  refine r_iadd C0 dX11_needOf_13 ?_
  refine r_bipush (v := 100) C0 dX11_needOf_14 (by decide) ?_
  refine r_idiv' C0 dX11_needOf_16 (by decide) ?_
  refine r_iadd C0 dX11_needOf_17 ?_
  obtain rfl := Option.some.inj hf
  exact r_iret C0 dX11_needOf_18
set_option maxHeartbeats 4000000 in
set_option maxRecDepth 100000 in
theorem g_X11_mostOf_3 {Γ : zCx} {E : zEn} {S : zSk} {X : zMl} {Z : Nat → Prop} {M : zMi} (C0 : zCt Γ E RX11 cX11_mostOf 5 (Option.some Jvm.ClassFile.FieldType.int) [] { frames := 2, cells := 0, slots := 0, locals := 42 }) (F : Nat) (p0 : Nat) (p1 : Int32) (p2 : Int32) (p3 : Int32) (hk_p0 : S.1 p0 = some (.inr (0, 121))) : ∀ (n : Nat) (v4 : Int32) (r : Int32) , f_X11_mostOf_3 F p0 p1 p2 p3 n v4 M = some r → zG Γ (zQ Γ E 0 0 S Z (some (.int r)) M X) E 5 0 0 S Z M X 3 [(0, .ref p0), (1, .int p1), (2, .int p2), (4, .int v4)] [] := by
  intro n
  induction n with
  | zero => intro v4 r; intro hf; cases hf
  | succ n ih =>
    intro v4 r hf
    refine r_aload_n C0 dX11_mostOf_3 rfl 0 rfl ?_
    refine r_iload_n C0 dX11_mostOf_4 rfl 2 rfl ?_
    refine r_iload C0 dX11_mostOf_5 3 rfl ?_
    refine r_callSi C0 (st := []) [.ref p0, .int p2, .int v4] hf vs_114 (fun hl r1 hr1 => c_X11_needOf hl F p0 p2 v4 hk_p0 M r1 hr1) rfl rfl (Nat.le_of_ble_eq_true rfl) dX11_mostOf_7 (zrm_ok rfl) (fun r1 hr1 hf => ?_)
    refine r_aload_n C0 dX11_mostOf_10 rfl 0 rfl ?_
    refine r_iload_n C0 dX11_mostOf_11 rfl 1 rfl ?_
    refine r_callSi C0 (st := [.ref p0, .int r1]) [.int p1] hf vs_115 (fun hl r2 hr2 => c_X11_shipAt hl F p1 M r2 hr2) rfl rfl (Nat.le_of_ble_eq_true rfl) dX11_mostOf_12 (zrm_ok rfl) (fun r2 hr2 hf => ?_)
    refine r_iconst (v := 4) C0 dX11_mostOf_15 (by decide) ?_
    refine r_iadd C0 dX11_mostOf_16 ?_
    refine r_iald C0 hk_p0 hf dX11_mostOf_17 (fun hf => ?_)
    refine r_icmp_le C0 27 dX11_mostOf_18 (by decide) hf (fun hf => ?_) (fun hf => ?_)
    · refine r_iload C0 dX11_mostOf_27 3 rfl ?_
      obtain rfl := Option.some.inj hf
      exact r_iret C0 dX11_mostOf_29
    · refine r_iinc (j := 3) (v := (v4 + (-1 : Int32))) (L' := [(4, .int (v4 + (-1 : Int32))), (0, .ref p0), (1, .int p1), (2, .int p2)]) C0 dX11_mostOf_21 rfl rfl (by decide) rfl ?_
      refine r_goto C0 3 dX11_mostOf_24 (by decide) ?_
      refine r_sub (L' := [(0, .ref p0), (1, .int p1), (2, .int p2), (4, .int (v4 + (-1 : Int32)))]) [1, 2, 3, 0] rfl ?_
      exact ih (v4 + (-1 : Int32)) _  hf
set_option maxHeartbeats 4000000 in
set_option maxRecDepth 100000 in
theorem c_X11_mostOf {l : Launch} {E : zEn} {S : zSk} {X : zMl} {Z : Nat → Prop} (hl : l.stackTraces = false) (F : Nat) (p0 : Nat) (p1 : Int32) (p2 : Int32) (p3 : Int32) (hk_p0 : S.1 p0 = some (.inr (0, 121))) (M : zMi) (r : Int32) (hf : f_X11_mostOf F p0 p1 p2 p3 M = some r) : zM l E yX11_mostOf cX11_mostOf 5 (Option.some Jvm.ClassFile.FieldType.int) { frames := 2, cells := 0, slots := 0, locals := 42 } 0 0 [.ref p0, .int p1, .int p2, .int p3] S Z M X S Z (some (.int r)) M X := by
  refine zM.intro (L0 := [(0, .ref p0), (1, .int p1), (2, .int p2), (3, .int p3)]) hl (by decide) (Nat.le_of_ble_eq_true rfl) rfl (fun Γ C0 _ => ?_)
  unfold f_X11_mostOf at hf
  refine r_iload_n C0 dX11_mostOf_0 rfl 3 rfl ?_
  refine r_istore (L' := [(4, .int p3), (0, .ref p0), (1, .int p1), (2, .int p2), (3, .int p3)]) C0 dX11_mostOf_1 (by decide) rfl ?_
  refine r_sub (L' := [(0, .ref p0), (1, .int p1), (2, .int p2), (4, .int p3)]) [1, 2, 3, 0] rfl ?_
  exact g_X11_mostOf_3 C0 F p0 p1 p2 p3 hk_p0 F p3 _  hf
set_option maxHeartbeats 4000000 in
set_option maxRecDepth 100000 in
theorem c_X11_wavesOf {l : Launch} {E : zEn} {S : zSk} {X : zMl} {Z : Nat → Prop} (hl : l.stackTraces = false) (F : Nat) (p0 : Nat) (p1 : Int32) (hk_p0 : S.1 p0 = some (.inr (0, 121))) (M : zMi) (r : Int32) (hf : f_X11_wavesOf F p0 p1 M = some r) : zM l E yX11_wavesOf cX11_wavesOf 2 (Option.some Jvm.ClassFile.FieldType.int) { frames := 0, cells := 0, slots := 0, locals := 0 } 0 0 [.ref p0, .int p1] S Z M X S Z (some (.int r)) M X := by
  refine zM.intro (L0 := [(0, .ref p0), (1, .int p1)]) hl (by decide) (Nat.le_of_ble_eq_true rfl) rfl (fun Γ C0 _ => ?_)
  unfold f_X11_wavesOf at hf
  refine r_aload_n C0 dX11_wavesOf_0 rfl 0 rfl ?_
  refine r_bipush (v := 91) C0 dX11_wavesOf_1 (by decide) ?_
  refine r_iload_n C0 dX11_wavesOf_3 rfl 1 rfl ?_
  refine r_aload_n C0 dX11_wavesOf_4 rfl 0 rfl ?_
  refine r_bipush (v := 6) C0 dX11_wavesOf_5 (by decide) ?_
  refine r_iald' (j := 6) C0 hk_p0 rfl rfl dX11_wavesOf_7 ?_
  refine r_irem C0 dX11_wavesOf_8 hf (fun hf => ?_)
  refine r_iadd C0 dX11_wavesOf_9 ?_
  refine r_iald C0 hk_p0 hf dX11_wavesOf_10 (fun hf => ?_)
  obtain rfl := Option.some.inj hf
  exact r_iret C0 dX11_wavesOf_11
set_option maxHeartbeats 4000000 in
set_option maxRecDepth 100000 in
theorem g_X11_frontShip_2 {Γ : zCx} {E : zEn} {S : zSk} {X : zMl} {Z : Nat → Prop} {M : zMi} (C0 : zCt Γ E RX11 cX11_frontShip 2 (Option.some Jvm.ClassFile.FieldType.int) [] { frames := 1, cells := 0, slots := 0, locals := 20 }) (F : Nat) (p0 : Nat) (hk_p0 : S.1 p0 = some (.inr (0, 121))) : ∀ (n : Nat) (v1 : Int32) (r : Int32) , f_X11_frontShip_2 F p0 n v1 M = some r → zG Γ (zQ Γ E 0 0 S Z (some (.int r)) M X) E 2 0 0 S Z M X 2 [(0, .ref p0), (1, .int v1)] [] := by
  intro n
  induction n with
  | zero => intro v1 r; intro hf; cases hf
  | succ n ih =>
    intro v1 r hf
    refine r_iload_n C0 dX11_frontShip_2 rfl 1 rfl ?_
    refine r_aload_n C0 dX11_frontShip_3 rfl 0 rfl ?_
    refine r_iconst (v := 5) C0 dX11_frontShip_4 (by decide) ?_
    refine r_iald' (j := 5) C0 hk_p0 rfl rfl dX11_frontShip_5 ?_
    refine r_icmp_ge C0 29 dX11_frontShip_6 (by decide) hf (fun hf => ?_) (fun hf => ?_)
    · refine r_bipush (v := -9) C0 dX11_frontShip_29 (by decide) ?_
      obtain rfl := Option.some.inj hf
      exact r_iret C0 dX11_frontShip_31
    · refine r_aload_n C0 dX11_frontShip_9 rfl 0 rfl ?_
      refine r_iload_n C0 dX11_frontShip_10 rfl 1 rfl ?_
      refine r_callSi C0 (st := [.ref p0]) [.int v1] hf vs_115 (fun hl r1 hr1 => c_X11_shipAt hl F v1 M r1 hr1) rfl rfl (Nat.le_of_ble_eq_true rfl) dX11_frontShip_11 (zrm_ok rfl) (fun r1 hr1 hf => ?_)
      refine r_iconst (v := 5) C0 dX11_frontShip_14 (by decide) ?_
      refine r_iadd C0 dX11_frontShip_15 ?_
      refine r_iald C0 hk_p0 hf dX11_frontShip_16 (fun hf => ?_)
      refine r_iconst (v := 3) C0 dX11_frontShip_17 (by decide) ?_
      refine r_icmp_ne C0 23 dX11_frontShip_18 (by decide) hf (fun hf => ?_) (fun hf => ?_)
      · refine r_iinc (j := 1) (v := (v1 + (1 : Int32))) (L' := [(1, .int (v1 + (1 : Int32))), (0, .ref p0)]) C0 dX11_frontShip_23 rfl rfl (by decide) rfl ?_
        refine r_goto C0 2 dX11_frontShip_26 (by decide) ?_
        refine r_sub (L' := [(0, .ref p0), (1, .int (v1 + (1 : Int32)))]) [1, 0] rfl ?_
        exact ih (v1 + (1 : Int32)) _  hf
      · refine r_iload_n C0 dX11_frontShip_21 rfl 1 rfl ?_
        obtain rfl := Option.some.inj hf
        exact r_iret C0 dX11_frontShip_22
set_option maxHeartbeats 4000000 in
set_option maxRecDepth 100000 in
theorem c_X11_frontShip {l : Launch} {E : zEn} {S : zSk} {X : zMl} {Z : Nat → Prop} (hl : l.stackTraces = false) (F : Nat) (p0 : Nat) (hk_p0 : S.1 p0 = some (.inr (0, 121))) (M : zMi) (r : Int32) (hf : f_X11_frontShip F p0 M = some r) : zM l E yX11_frontShip cX11_frontShip 2 (Option.some Jvm.ClassFile.FieldType.int) { frames := 1, cells := 0, slots := 0, locals := 20 } 0 0 [.ref p0] S Z M X S Z (some (.int r)) M X := by
  refine zM.intro (L0 := [(0, .ref p0)]) hl (by decide) (Nat.le_of_ble_eq_true rfl) rfl (fun Γ C0 _ => ?_)
  unfold f_X11_frontShip at hf
  refine r_iconst (v := 0) C0 dX11_frontShip_0 (by decide) ?_
  refine r_istore_n (L' := [(1, .int (0 : Int32)), (0, .ref p0)]) C0 dX11_frontShip_1 rfl (by decide) rfl ?_
  refine r_sub (L' := [(0, .ref p0), (1, .int (0 : Int32))]) [1, 0] rfl ?_
  exact g_X11_frontShip_2 C0 F p0 hk_p0 F (0 : Int32) _  hf
set_option maxHeartbeats 4000000 in
set_option maxRecDepth 100000 in
theorem c_X11_wayOf {l : Launch} {E : zEn} {S : zSk} {X : zMl} {Z : Nat → Prop} (hl : l.stackTraces = false) (F : Nat) (p0 : Nat) (hk_p0 : S.1 p0 = some (.inr (0, 121))) (M : zMi) (r : Int32) (hf : f_X11_wayOf F p0 M = some r) : zM l E yX11_wayOf cX11_wayOf 1 (Option.some Jvm.ClassFile.FieldType.int) { frames := 1, cells := 0, slots := 0, locals := 20 } 0 0 [.ref p0] S Z M X S Z (some (.int r)) M X := by
  refine zM.intro (L0 := [(0, .ref p0)]) hl (by decide) (Nat.le_of_ble_eq_true rfl) rfl (fun Γ C0 _ => ?_)
  unfold f_X11_wayOf at hf
  refine r_aload_n C0 dX11_wayOf_0 rfl 0 rfl ?_
  refine r_callSi C0 (st := []) [.ref p0] hf vs_116 (fun hl r1 hr1 => c_X11_isFinished hl F p0 hk_p0 M r1 hr1) rfl rfl (Nat.le_of_ble_eq_true rfl) dX11_wayOf_1 (zrm_ok rfl) (fun r1 hr1 hf => ?_)
  refine r_if_eq C0 13 dX11_wayOf_4 (by decide) hf (fun hf => ?_) (fun hf => ?_)
  · refine r_aload_n C0 dX11_wayOf_13 rfl 0 rfl ?_
    refine r_bipush (v := 7) C0 dX11_wayOf_14 (by decide) ?_
    refine r_iald' (j := 7) C0 hk_p0 rfl rfl dX11_wayOf_16 ?_
    refine r_iconst (v := 1) C0 dX11_wayOf_17 (by decide) ?_
    refine r_iadd C0 dX11_wayOf_18 ?_
    obtain rfl := Option.some.inj hf
    exact r_iret C0 dX11_wayOf_19
  · refine r_aload_n C0 dX11_wayOf_7 rfl 0 rfl ?_
    refine r_iconst (v := 4) C0 dX11_wayOf_8 (by decide) ?_
    refine r_iald' (j := 4) C0 hk_p0 rfl rfl dX11_wayOf_9 ?_
    refine r_goto C0 19 dX11_wayOf_10 (by decide) ?_
    obtain rfl := Option.some.inj hf
    exact r_iret C0 dX11_wayOf_19
set_option maxHeartbeats 4000000 in
set_option maxRecDepth 100000 in
theorem g_X11_goHome_43 {Γ : zCx} {E : zEn} {S : zSk} {X : zMl} {Z : Nat → Prop} (C0 : zCt Γ E RX11 cX11_goHome 3 (Option.none : Option Jvm.ClassFile.FieldType) [] { frames := 1, cells := 0, slots := 0, locals := 20 }) (F : Nat) (p0 : Nat) (p1 : Int32) (p2 : Int32) (hk_p0 : S.1 p0 = some (.inr (0, 121))) (s0 : Int32) (M : zMi) (r : zMi)  (hf : f_X11_goHome_43 F p0 p1 p2 s0 M = some r) : zG Γ (zQ Γ E 0 0 S Z none r X) E 3 0 0 S Z M X 43 [(0, .ref p0), (1, .int p1), (2, .int p2)] [.int s0, .int (11 : Int32), .ref p0] := by
  unfold f_X11_goHome_43 at hf
  refine r_iast' (j := 11) C0 hk_p0 rfl rfl hf dX11_goHome_43 (fun M1 hf => ?_)
  refine r_aload_n C0 dX11_goHome_44 rfl 0 rfl ?_
  refine r_iload_n C0 dX11_goHome_45 rfl 1 rfl ?_
  refine r_callSi C0 (st := [.ref p0]) [.int p1] hf vs_115 (fun hl r2 hr2 => c_X11_shipAt hl F p1 M1 r2 hr2) rfl rfl (Nat.le_of_ble_eq_true rfl) dX11_goHome_46 (zrm_ok rfl) (fun r2 hr2 hf => ?_)
  refine r_iconst (v := 5) C0 dX11_goHome_49 (by decide) ?_
  refine r_iadd C0 dX11_goHome_50 ?_
  refine r_iconst (v := 4) C0 dX11_goHome_51 (by decide) ?_
  refine r_iast C0 hk_p0 hf dX11_goHome_52 (fun M3 hf => ?_)
  refine r_aload_n C0 dX11_goHome_53 rfl 0 rfl ?_
  refine r_iload_n C0 dX11_goHome_54 rfl 1 rfl ?_
  refine r_callSi C0 (st := [.ref p0]) [.int p1] hf vs_115 (fun hl r4 hr4 => c_X11_shipAt hl F p1 M3 r4 hr4) rfl rfl (Nat.le_of_ble_eq_true rfl) dX11_goHome_55 (zrm_ok rfl) (fun r4 hr4 hf => ?_)
  refine r_bipush (v := 6) C0 dX11_goHome_58 (by decide) ?_
  refine r_iadd C0 dX11_goHome_60 ?_
  refine r_iload_n C0 dX11_goHome_61 rfl 2 rfl ?_
  refine r_iast C0 hk_p0 hf dX11_goHome_62 (fun M5 hf => ?_)
  obtain rfl := Option.some.inj hf
  exact r_vret C0 dX11_goHome_63
set_option maxHeartbeats 4000000 in
set_option maxRecDepth 100000 in
theorem g_X11_goHome_23 {Γ : zCx} {E : zEn} {S : zSk} {X : zMl} {Z : Nat → Prop} (C0 : zCt Γ E RX11 cX11_goHome 3 (Option.none : Option Jvm.ClassFile.FieldType) [] { frames := 1, cells := 0, slots := 0, locals := 20 }) (F : Nat) (p0 : Nat) (p1 : Int32) (p2 : Int32) (hk_p0 : S.1 p0 = some (.inr (0, 121))) (s0 : Int32) (M : zMi) (r : zMi)  (hf : f_X11_goHome_23 F p0 p1 p2 s0 M = some r) : zG Γ (zQ Γ E 0 0 S Z none r X) E 3 0 0 S Z M X 23 [(0, .ref p0), (1, .int p1), (2, .int p2)] [.int s0, .int (10 : Int32), .ref p0] := by
  unfold f_X11_goHome_23 at hf
  refine r_iast' (j := 10) C0 hk_p0 rfl rfl hf dX11_goHome_23 (fun M1 hf => ?_)
  refine r_aload_n C0 dX11_goHome_24 rfl 0 rfl ?_
  refine r_bipush (v := 11) C0 dX11_goHome_25 (by decide) ?_
  refine r_aload_n C0 dX11_goHome_27 rfl 0 rfl ?_
  refine r_bipush (v := 10) C0 dX11_goHome_28 (by decide) ?_
  refine r_iald' (j := 10) C0 hk_p0 rfl rfl dX11_goHome_30 ?_
  refine r_iconst (v := 2) C0 dX11_goHome_31 (by decide) ?_
  refine r_icmp_ne C0 42 dX11_goHome_32 (by decide) hf (fun hf => ?_) (fun hf => ?_)
  · refine r_iconst (v := 0) C0 dX11_goHome_42 (by decide) ?_
    refine r_sub (L' := [(0, .ref p0), (1, .int p1), (2, .int p2)]) [0, 1, 2] rfl ?_
    exact g_X11_goHome_43 C0 F p0 p1 p2 hk_p0 (0 : Int32) M1 _  hf
  · refine r_aload_n C0 dX11_goHome_35 rfl 0 rfl ?_
    refine r_bipush (v := 11) C0 dX11_goHome_36 (by decide) ?_
    refine r_iald' (j := 11) C0 hk_p0 rfl rfl dX11_goHome_38 ?_
    refine r_goto C0 43 dX11_goHome_39 (by decide) ?_
    refine r_sub (L' := [(0, .ref p0), (1, .int p1), (2, .int p2)]) [0, 1, 2] rfl ?_
    exact g_X11_goHome_43 C0 F p0 p1 p2 hk_p0 (M1 p0 11) M1 _  hf
set_option maxHeartbeats 4000000 in
set_option maxRecDepth 100000 in
theorem c_X11_goHome {l : Launch} {E : zEn} {S : zSk} {X : zMl} {Z : Nat → Prop} (hl : l.stackTraces = false) (F : Nat) (p0 : Nat) (p1 : Int32) (p2 : Int32) (hk_p0 : S.1 p0 = some (.inr (0, 121))) (M : zMi) (r : zMi) (hf : f_X11_goHome F p0 p1 p2 M = some r) : zM l E yX11_goHome cX11_goHome 3 (Option.none : Option Jvm.ClassFile.FieldType) { frames := 1, cells := 0, slots := 0, locals := 20 } 0 0 [.ref p0, .int p1, .int p2] S Z M X S Z none r X := by
  refine zM.intro (L0 := [(0, .ref p0), (1, .int p1), (2, .int p2)]) hl (by decide) (Nat.le_of_ble_eq_true rfl) rfl (fun Γ C0 _ => ?_)
  unfold f_X11_goHome at hf
  refine r_aload_n C0 dX11_goHome_0 rfl 0 rfl ?_
  refine r_bipush (v := 10) C0 dX11_goHome_1 (by decide) ?_
  refine r_aload_n C0 dX11_goHome_3 rfl 0 rfl ?_
  refine r_iload_n C0 dX11_goHome_4 rfl 1 rfl ?_
  refine r_callSi C0 (st := [.ref p0, .int (10 : Int32), .ref p0]) [.int p1] hf vs_115 (fun hl r1 hr1 => c_X11_shipAt hl F p1 M r1 hr1) rfl rfl (Nat.le_of_ble_eq_true rfl) dX11_goHome_5 (zrm_ok rfl) (fun r1 hr1 hf => ?_)
  refine r_iconst (v := 5) C0 dX11_goHome_8 (by decide) ?_
  refine r_iadd C0 dX11_goHome_9 ?_
  refine r_iald C0 hk_p0 hf dX11_goHome_10 (fun hf => ?_)
  refine r_iconst (v := 3) C0 dX11_goHome_11 (by decide) ?_
  refine r_icmp_ne C0 19 dX11_goHome_12 (by decide) hf (fun hf => ?_) (fun hf => ?_)
  · refine r_aload_n C0 dX11_goHome_19 rfl 0 rfl ?_
    refine r_bipush (v := 10) C0 dX11_goHome_20 (by decide) ?_
    refine r_iald' (j := 10) C0 hk_p0 rfl rfl dX11_goHome_22 ?_
    refine r_sub (L' := [(0, .ref p0), (1, .int p1), (2, .int p2)]) [0, 1, 2] rfl ?_
    exact g_X11_goHome_23 C0 F p0 p1 p2 hk_p0 (M p0 10) M _  hf
  · refine r_iconst (v := 0) C0 dX11_goHome_15 (by decide) ?_
    refine r_goto C0 23 dX11_goHome_16 (by decide) ?_
    refine r_sub (L' := [(0, .ref p0), (1, .int p1), (2, .int p2)]) [0, 1, 2] rfl ?_
    exact g_X11_goHome_23 C0 F p0 p1 p2 hk_p0 (0 : Int32) M _  hf
set_option maxHeartbeats 4000000 in
set_option maxRecDepth 100000 in
theorem g_X11_freeTeams_20 {Γ : zCx} {E : zEn} {S : zSk} {X : zMl} {Z : Nat → Prop} {M : zMi} (C0 : zCt Γ E RX11 cX11_freeTeams 3 (Option.some Jvm.ClassFile.FieldType.int) [] { frames := 0, cells := 0, slots := 0, locals := 0 }) (F : Nat) (p0 : Nat) (hk_p0 : S.1 p0 = some (.inr (0, 121))) : ∀ (n : Nat) (v1 : Int32) (v2 : Int32) (r : Int32) , f_X11_freeTeams_20 F p0 n v1 v2 M = some r → zG Γ (zQ Γ E 0 0 S Z (some (.int r)) M X) E 3 0 0 S Z M X 20 [(0, .ref p0), (1, .int v1), (2, .int v2)] [] := by
  intro n
  induction n with
  | zero => intro v1 v2 r; intro hf; cases hf
  | succ n ih =>
    intro v1 v2 r hf
    refine r_iload_n C0 dX11_freeTeams_20 rfl 2 rfl ?_
    refine r_aload_n C0 dX11_freeTeams_21 rfl 0 rfl ?_
    refine r_iconst (v := 0) C0 dX11_freeTeams_22 (by decide) ?_
    refine r_iald' (j := 0) C0 hk_p0 rfl rfl dX11_freeTeams_23 ?_
    refine r_icmp_ge C0 50 dX11_freeTeams_24 (by decide) hf (fun hf => ?_) (fun hf => ?_)
    · refine r_iload_n C0 dX11_freeTeams_50 rfl 1 rfl ?_
      obtain rfl := Option.some.inj hf
      exact r_iret C0 dX11_freeTeams_51
    · refine r_iload_n C0 dX11_freeTeams_27 rfl 1 rfl ?_
      refine r_aload_n C0 dX11_freeTeams_28 rfl 0 rfl ?_
      refine r_bipush (v := 13) C0 dX11_freeTeams_29 (by decide) ?_
      refine r_iload_n C0 dX11_freeTeams_31 rfl 2 rfl ?_
      refine r_iadd C0 dX11_freeTeams_32 ?_
      refine r_iald C0 hk_p0 hf dX11_freeTeams_33 (fun hf => ?_)
      refine r_if_le C0 41 dX11_freeTeams_34 (by decide) hf (fun hf => ?_) (fun hf => ?_)
      · refine r_iconst (v := 0) C0 dX11_freeTeams_41 (by decide) ?_
        refine r_isub C0 dX11_freeTeams_42 ?_
        refine r_nm hf (fun x1 hf => ?_)
        refine r_istore_n (L' := [(1, .int x1), (0, .ref p0), (2, .int v2)]) C0 dX11_freeTeams_43 rfl (by decide) rfl ?_
        refine r_iinc (j := 2) (v := (v2 + (1 : Int32))) (L' := [(2, .int (v2 + (1 : Int32))), (1, .int x1), (0, .ref p0)]) C0 dX11_freeTeams_44 rfl rfl (by decide) rfl ?_
        refine r_goto C0 20 dX11_freeTeams_47 (by decide) ?_
        refine r_sub (L' := [(0, .ref p0), (1, .int x1), (2, .int (v2 + (1 : Int32)))]) [2, 1, 0] rfl ?_
        exact ih x1 (v2 + (1 : Int32)) _  hf
      · refine r_iconst (v := 1) C0 dX11_freeTeams_37 (by decide) ?_
        refine r_goto C0 42 dX11_freeTeams_38 (by decide) ?_
        refine r_isub C0 dX11_freeTeams_42 ?_
        refine r_nm hf (fun x2 hf => ?_)
        refine r_istore_n (L' := [(1, .int x2), (0, .ref p0), (2, .int v2)]) C0 dX11_freeTeams_43 rfl (by decide) rfl ?_
        refine r_iinc (j := 2) (v := (v2 + (1 : Int32))) (L' := [(2, .int (v2 + (1 : Int32))), (1, .int x2), (0, .ref p0)]) C0 dX11_freeTeams_44 rfl rfl (by decide) rfl ?_
        refine r_goto C0 20 dX11_freeTeams_47 (by decide) ?_
        refine r_sub (L' := [(0, .ref p0), (1, .int x2), (2, .int (v2 + (1 : Int32)))]) [2, 1, 0] rfl ?_
        exact ih x2 (v2 + (1 : Int32)) _  hf
set_option maxHeartbeats 4000000 in
set_option maxRecDepth 100000 in
theorem c_X11_freeTeams {l : Launch} {E : zEn} {S : zSk} {X : zMl} {Z : Nat → Prop} (hl : l.stackTraces = false) (F : Nat) (p0 : Nat) (hk_p0 : S.1 p0 = some (.inr (0, 121))) (M : zMi) (r : Int32) (hf : f_X11_freeTeams F p0 M = some r) : zM l E yX11_freeTeams cX11_freeTeams 3 (Option.some Jvm.ClassFile.FieldType.int) { frames := 0, cells := 0, slots := 0, locals := 0 } 0 0 [.ref p0] S Z M X S Z (some (.int r)) M X := by
  refine zM.intro (L0 := [(0, .ref p0)]) hl (by decide) (Nat.le_of_ble_eq_true rfl) rfl (fun Γ C0 _ => ?_)
  unfold f_X11_freeTeams at hf
  refine r_aload_n C0 dX11_freeTeams_0 rfl 0 rfl ?_
  refine r_iconst (v := 0) C0 dX11_freeTeams_1 (by decide) ?_
  refine r_iald' (j := 0) C0 hk_p0 rfl rfl dX11_freeTeams_2 ?_
  refine r_aload_n C0 dX11_freeTeams_3 rfl 0 rfl ?_
  refine r_bipush (v := 10) C0 dX11_freeTeams_4 (by decide) ?_
  refine r_iald' (j := 10) C0 hk_p0 rfl rfl dX11_freeTeams_6 ?_
  refine r_iconst (v := 2) C0 dX11_freeTeams_7 (by decide) ?_
  refine r_icmp_ne C0 15 dX11_freeTeams_8 (by decide) hf (fun hf => ?_) (fun hf => ?_)
  · refine r_iconst (v := 0) C0 dX11_freeTeams_15 (by decide) ?_
    refine r_isub C0 dX11_freeTeams_16 ?_
    refine r_nm hf (fun x1 hf => ?_)
    refine r_istore_n (L' := [(1, .int x1), (0, .ref p0)]) C0 dX11_freeTeams_17 rfl (by decide) rfl ?_
    refine r_iconst (v := 0) C0 dX11_freeTeams_18 (by decide) ?_
    refine r_istore_n (L' := [(2, .int (0 : Int32)), (1, .int x1), (0, .ref p0)]) C0 dX11_freeTeams_19 rfl (by decide) rfl ?_
    refine r_sub (L' := [(0, .ref p0), (1, .int x1), (2, .int (0 : Int32))]) [2, 1, 0] rfl ?_
    exact g_X11_freeTeams_20 C0 F p0 hk_p0 F x1 (0 : Int32) _  hf
  · refine r_iconst (v := 1) C0 dX11_freeTeams_11 (by decide) ?_
    refine r_goto C0 16 dX11_freeTeams_12 (by decide) ?_
    refine r_isub C0 dX11_freeTeams_16 ?_
    refine r_nm hf (fun x2 hf => ?_)
    refine r_istore_n (L' := [(1, .int x2), (0, .ref p0)]) C0 dX11_freeTeams_17 rfl (by decide) rfl ?_
    refine r_iconst (v := 0) C0 dX11_freeTeams_18 (by decide) ?_
    refine r_istore_n (L' := [(2, .int (0 : Int32)), (1, .int x2), (0, .ref p0)]) C0 dX11_freeTeams_19 rfl (by decide) rfl ?_
    refine r_sub (L' := [(0, .ref p0), (1, .int x2), (2, .int (0 : Int32))]) [2, 1, 0] rfl ?_
    exact g_X11_freeTeams_20 C0 F p0 hk_p0 F x2 (0 : Int32) _  hf
set_option maxHeartbeats 4000000 in
set_option maxRecDepth 100000 in
theorem g_X11_restOn_2 {Γ : zCx} {E : zEn} {S : zSk} {X : zMl} {Z : Nat → Prop} (C0 : zCt Γ E RX11 cX11_restOn 2 (Option.none : Option Jvm.ClassFile.FieldType) [] { frames := 0, cells := 0, slots := 0, locals := 0 }) (F : Nat) (p0 : Nat) (hk_p0 : S.1 p0 = some (.inr (0, 121))) : ∀ (n : Nat) (v1 : Int32) (M : zMi) (r : zMi) , f_X11_restOn_2 F p0 n v1 M = some r → zG Γ (zQ Γ E 0 0 S Z none r X) E 2 0 0 S Z M X 2 [(0, .ref p0), (1, .int v1)] [] := by
  intro n
  induction n with
  | zero => intro v1 M r; intro hf; cases hf
  | succ n ih =>
    intro v1 M r hf
    refine r_iload_n C0 dX11_restOn_2 rfl 1 rfl ?_
    refine r_aload_n C0 dX11_restOn_3 rfl 0 rfl ?_
    refine r_iconst (v := 0) C0 dX11_restOn_4 (by decide) ?_
    refine r_iald' (j := 0) C0 hk_p0 rfl rfl dX11_restOn_5 ?_
    refine r_icmp_ge C0 32 dX11_restOn_6 (by decide) hf (fun hf => ?_) (fun hf => ?_)
    · obtain rfl := Option.some.inj hf
      exact r_vret C0 dX11_restOn_32
    · refine r_aload_n C0 dX11_restOn_9 rfl 0 rfl ?_
      refine r_bipush (v := 13) C0 dX11_restOn_10 (by decide) ?_
      refine r_iload_n C0 dX11_restOn_12 rfl 1 rfl ?_
      refine r_iadd C0 dX11_restOn_13 ?_
      refine r_iald C0 hk_p0 hf dX11_restOn_14 (fun hf => ?_)
      refine r_if_ne C0 26 dX11_restOn_15 (by decide) hf (fun hf => ?_) (fun hf => ?_)
      · refine r_iinc (j := 1) (v := (v1 + (1 : Int32))) (L' := [(1, .int (v1 + (1 : Int32))), (0, .ref p0)]) C0 dX11_restOn_26 rfl rfl (by decide) rfl ?_
        refine r_goto C0 2 dX11_restOn_29 (by decide) ?_
        refine r_sub (L' := [(0, .ref p0), (1, .int (v1 + (1 : Int32)))]) [1, 0] rfl ?_
        exact ih (v1 + (1 : Int32)) M _  hf
      · refine r_aload_n C0 dX11_restOn_18 rfl 0 rfl ?_
        refine r_bipush (v := 13) C0 dX11_restOn_19 (by decide) ?_
        refine r_iload_n C0 dX11_restOn_21 rfl 1 rfl ?_
        refine r_iadd C0 dX11_restOn_22 ?_
        refine r_iconst (v := 2) C0 dX11_restOn_23 (by decide) ?_
        refine r_iast C0 hk_p0 hf dX11_restOn_24 (fun M1 hf => ?_)
        obtain rfl := Option.some.inj hf
        exact r_vret C0 dX11_restOn_25
set_option maxHeartbeats 4000000 in
set_option maxRecDepth 100000 in
theorem c_X11_restOn {l : Launch} {E : zEn} {S : zSk} {X : zMl} {Z : Nat → Prop} (hl : l.stackTraces = false) (F : Nat) (p0 : Nat) (hk_p0 : S.1 p0 = some (.inr (0, 121))) (M : zMi) (r : zMi) (hf : f_X11_restOn F p0 M = some r) : zM l E yX11_restOn cX11_restOn 2 (Option.none : Option Jvm.ClassFile.FieldType) { frames := 0, cells := 0, slots := 0, locals := 0 } 0 0 [.ref p0] S Z M X S Z none r X := by
  refine zM.intro (L0 := [(0, .ref p0)]) hl (by decide) (Nat.le_of_ble_eq_true rfl) rfl (fun Γ C0 _ => ?_)
  unfold f_X11_restOn at hf
  refine r_iconst (v := 0) C0 dX11_restOn_0 (by decide) ?_
  refine r_istore_n (L' := [(1, .int (0 : Int32)), (0, .ref p0)]) C0 dX11_restOn_1 rfl (by decide) rfl ?_
  refine r_sub (L' := [(0, .ref p0), (1, .int (0 : Int32))]) [1, 0] rfl ?_
  exact g_X11_restOn_2 C0 F p0 hk_p0 F (0 : Int32) M _  hf
set_option maxHeartbeats 4000000 in
set_option maxRecDepth 100000 in
theorem g_X11_sailOn_32 {Γ : zCx} {E : zEn} {S : zSk} {X : zMl} {Z : Nat → Prop} (C0 : zCt Γ E RX11 cX11_sailOn 3 (Option.none : Option Jvm.ClassFile.FieldType) [] { frames := 1, cells := 0, slots := 0, locals := 20 }) (F : Nat) (p0 : Nat) (k_2 : Int32 → zMi → Option (zMi)) (hk_p0 : S.1 p0 = some (.inr (0, 121))) (hk_k_2 : ∀ (v1_ : Int32) (M : zMi) (r : zMi), k_2 v1_ M = some r → zG Γ (zQ Γ E 0 0 S Z none r X) E 3 0 0 S Z M X 2 [(0, .ref p0), (1, .int v1_)] []) (v1 : Int32) (v2 : Int32) (M : zMi) (r : zMi)  (hf : f_X11_sailOn_32 F p0 k_2 v1 v2 M = some r) : zG Γ (zQ Γ E 0 0 S Z none r X) E 3 0 0 S Z M X 32 [(0, .ref p0), (1, .int v1), (2, .int v2)] [] := by
  unfold f_X11_sailOn_32 at hf
  refine r_aload_n C0 dX11_sailOn_32 rfl 0 rfl ?_
  refine r_iload_n C0 dX11_sailOn_33 rfl 2 rfl ?_
  refine r_bipush (v := 6) C0 dX11_sailOn_34 (by decide) ?_
  refine r_iadd C0 dX11_sailOn_36 ?_
  refine r_nm hf (fun x1 hf => ?_)
  refine r_dup2 C0 dX11_sailOn_37 rfl rfl ?_
  refine r_iald C0 hk_p0 hf dX11_sailOn_38 (fun hf => ?_)
  refine r_iconst (v := 1) C0 dX11_sailOn_39 (by decide) ?_
  refine r_isub C0 dX11_sailOn_40 ?_
  refine r_iast C0 hk_p0 hf dX11_sailOn_41 (fun M2 hf => ?_)
  refine r_aload_n C0 dX11_sailOn_42 rfl 0 rfl ?_
  refine r_iload_n C0 dX11_sailOn_43 rfl 2 rfl ?_
  refine r_bipush (v := 6) C0 dX11_sailOn_44 (by decide) ?_
  refine r_iadd C0 dX11_sailOn_46 ?_
  refine r_iald C0 hk_p0 hf dX11_sailOn_47 (fun hf => ?_)
  refine r_if_ne C0 70 dX11_sailOn_48 (by decide) hf (fun hf => ?_) (fun hf => ?_)
  · refine r_iinc (j := 1) (v := (v1 + (1 : Int32))) (L' := [(1, .int (v1 + (1 : Int32))), (0, .ref p0), (2, .int v2)]) C0 dX11_sailOn_70 rfl rfl (by decide) rfl ?_
    refine r_goto C0 2 dX11_sailOn_73 (by decide) ?_
    refine r_sub (L' := [(0, .ref p0), (1, .int (v1 + (1 : Int32)))]) [1, 0] rfl ?_
    exact hk_k_2 (v1 + (1 : Int32)) M2 _  hf
  · refine r_aload_n C0 dX11_sailOn_51 rfl 0 rfl ?_
    refine r_iload_n C0 dX11_sailOn_52 rfl 2 rfl ?_
    refine r_iconst (v := 5) C0 dX11_sailOn_53 (by decide) ?_
    refine r_iadd C0 dX11_sailOn_54 ?_
    refine r_aload_n C0 dX11_sailOn_55 rfl 0 rfl ?_
    refine r_iload_n C0 dX11_sailOn_56 rfl 2 rfl ?_
    refine r_iconst (v := 5) C0 dX11_sailOn_57 (by decide) ?_
    refine r_iadd C0 dX11_sailOn_58 ?_
    refine r_iald C0 hk_p0 hf dX11_sailOn_59 (fun hf => ?_)
    refine r_iconst (v := 1) C0 dX11_sailOn_60 (by decide) ?_
    refine r_icmp_ne C0 68 dX11_sailOn_61 (by decide) hf (fun hf => ?_) (fun hf => ?_)
    · refine r_iconst (v := 0) C0 dX11_sailOn_68 (by decide) ?_
      refine r_iast C0 hk_p0 hf dX11_sailOn_69 (fun M3 hf => ?_)
      refine r_iinc (j := 1) (v := (v1 + (1 : Int32))) (L' := [(1, .int (v1 + (1 : Int32))), (0, .ref p0), (2, .int v2)]) C0 dX11_sailOn_70 rfl rfl (by decide) rfl ?_
      refine r_goto C0 2 dX11_sailOn_73 (by decide) ?_
      refine r_sub (L' := [(0, .ref p0), (1, .int (v1 + (1 : Int32)))]) [1, 0] rfl ?_
      exact hk_k_2 (v1 + (1 : Int32)) M3 _  hf
    · refine r_iconst (v := 2) C0 dX11_sailOn_64 (by decide) ?_
      refine r_goto C0 69 dX11_sailOn_65 (by decide) ?_
      refine r_iast C0 hk_p0 hf dX11_sailOn_69 (fun M4 hf => ?_)
      refine r_iinc (j := 1) (v := (v1 + (1 : Int32))) (L' := [(1, .int (v1 + (1 : Int32))), (0, .ref p0), (2, .int v2)]) C0 dX11_sailOn_70 rfl rfl (by decide) rfl ?_
      refine r_goto C0 2 dX11_sailOn_73 (by decide) ?_
      refine r_sub (L' := [(0, .ref p0), (1, .int (v1 + (1 : Int32)))]) [1, 0] rfl ?_
      exact hk_k_2 (v1 + (1 : Int32)) M4 _  hf
set_option maxHeartbeats 4000000 in
set_option maxRecDepth 100000 in
theorem g_X11_sailOn_2 {Γ : zCx} {E : zEn} {S : zSk} {X : zMl} {Z : Nat → Prop} (C0 : zCt Γ E RX11 cX11_sailOn 3 (Option.none : Option Jvm.ClassFile.FieldType) [] { frames := 1, cells := 0, slots := 0, locals := 20 }) (F : Nat) (p0 : Nat) (hk_p0 : S.1 p0 = some (.inr (0, 121))) : ∀ (n : Nat) (v1 : Int32) (M : zMi) (r : zMi) , f_X11_sailOn_2 F p0 n v1 M = some r → zG Γ (zQ Γ E 0 0 S Z none r X) E 3 0 0 S Z M X 2 [(0, .ref p0), (1, .int v1)] [] := by
  intro n
  induction n with
  | zero => intro v1 M r; intro hf; cases hf
  | succ n ih =>
    intro v1 M r hf
    refine r_iload_n C0 dX11_sailOn_2 rfl 1 rfl ?_
    refine r_aload_n C0 dX11_sailOn_3 rfl 0 rfl ?_
    refine r_iconst (v := 5) C0 dX11_sailOn_4 (by decide) ?_
    refine r_iald' (j := 5) C0 hk_p0 rfl rfl dX11_sailOn_5 ?_
    refine r_icmp_ge C0 76 dX11_sailOn_6 (by decide) hf (fun hf => ?_) (fun hf => ?_)
    · obtain rfl := Option.some.inj hf
      exact r_vret C0 dX11_sailOn_76
    · refine r_iload_n C0 dX11_sailOn_9 rfl 1 rfl ?_
      refine r_callSi C0 (st := []) [.int v1] hf vs_115 (fun hl r1 hr1 => c_X11_shipAt hl F v1 M r1 hr1) rfl rfl (Nat.le_of_ble_eq_true rfl) dX11_sailOn_10 (zrm_ok rfl) (fun r1 hr1 hf => ?_)
      refine r_istore_n (L' := [(2, .int r1), (0, .ref p0), (1, .int v1)]) C0 dX11_sailOn_13 rfl (by decide) rfl ?_
      refine r_aload_n C0 dX11_sailOn_14 rfl 1 rfl ?_
      refine r_iload_n C0 dX11_sailOn_15 rfl 0 rfl ?_
      refine r_iconst (v := 5) C0 dX11_sailOn_16 (by decide) ?_
      refine r_iadd C0 dX11_sailOn_17 ?_
      refine r_iald C0 hk_p0 hf dX11_sailOn_18 (fun hf => ?_)
      refine r_iconst (v := 1) C0 dX11_sailOn_19 (by decide) ?_
      refine r_icmp_eq C0 32 dX11_sailOn_20 (by decide) hf (fun hf => ?_) (fun hf => ?_)
      · refine r_sub (L' := [(0, .ref p0), (1, .int v1), (2, .int r1)]) [1, 2, 0] rfl ?_
        exact g_X11_sailOn_32 C0 F p0 (f_X11_sailOn_2 F p0 n) hk_p0 ih v1 r1 M _  hf
      · refine r_aload_n C0 dX11_sailOn_23 rfl 1 rfl ?_
        refine r_iload_n C0 dX11_sailOn_24 rfl 0 rfl ?_
        refine r_iconst (v := 5) C0 dX11_sailOn_25 (by decide) ?_
        refine r_iadd C0 dX11_sailOn_26 ?_
        refine r_iald C0 hk_p0 hf dX11_sailOn_27 (fun hf => ?_)
        refine r_iconst (v := 4) C0 dX11_sailOn_28 (by decide) ?_
        refine r_icmp_ne C0 70 dX11_sailOn_29 (by decide) hf (fun hf => ?_) (fun hf => ?_)
        · refine r_iinc (j := 2) (v := (v1 + (1 : Int32))) (L' := [(1, .int (v1 + (1 : Int32))), (2, .int r1), (0, .ref p0)]) C0 dX11_sailOn_70 rfl rfl (by decide) rfl ?_
          refine r_goto C0 2 dX11_sailOn_73 (by decide) ?_
          refine r_sub (L' := [(0, .ref p0), (1, .int (v1 + (1 : Int32)))]) [2, 0] rfl ?_
          exact ih (v1 + (1 : Int32)) M _  hf
        · refine r_sub (L' := [(0, .ref p0), (1, .int v1), (2, .int r1)]) [1, 2, 0] rfl ?_
          exact g_X11_sailOn_32 C0 F p0 (f_X11_sailOn_2 F p0 n) hk_p0 ih v1 r1 M _  hf
set_option maxHeartbeats 4000000 in
set_option maxRecDepth 100000 in
theorem c_X11_sailOn {l : Launch} {E : zEn} {S : zSk} {X : zMl} {Z : Nat → Prop} (hl : l.stackTraces = false) (F : Nat) (p0 : Nat) (hk_p0 : S.1 p0 = some (.inr (0, 121))) (M : zMi) (r : zMi) (hf : f_X11_sailOn F p0 M = some r) : zM l E yX11_sailOn cX11_sailOn 3 (Option.none : Option Jvm.ClassFile.FieldType) { frames := 1, cells := 0, slots := 0, locals := 20 } 0 0 [.ref p0] S Z M X S Z none r X := by
  refine zM.intro (L0 := [(0, .ref p0)]) hl (by decide) (Nat.le_of_ble_eq_true rfl) rfl (fun Γ C0 _ => ?_)
  unfold f_X11_sailOn at hf
  refine r_iconst (v := 0) C0 dX11_sailOn_0 (by decide) ?_
  refine r_istore_n (L' := [(1, .int (0 : Int32)), (0, .ref p0)]) C0 dX11_sailOn_1 rfl (by decide) rfl ?_
  refine r_sub (L' := [(0, .ref p0), (1, .int (0 : Int32))]) [1, 0] rfl ?_
  exact g_X11_sailOn_2 C0 F p0 hk_p0 F (0 : Int32) M _  hf
set_option maxHeartbeats 4000000 in
set_option maxRecDepth 100000 in
theorem g_X11_comeOn_2 {Γ : zCx} {E : zEn} {S : zSk} {X : zMl} {Z : Nat → Prop} (C0 : zCt Γ E RX11 cX11_comeOn 2 (Option.none : Option Jvm.ClassFile.FieldType) [] { frames := 2, cells := 0, slots := 0, locals := 41 }) (F : Nat) (p0 : Nat) (hk_p0 : S.1 p0 = some (.inr (0, 121))) : ∀ (n : Nat) (v1 : Int32) (M : zMi) (r : zMi) , f_X11_comeOn_2 F p0 n v1 M = some r → zG Γ (zQ Γ E 0 0 S Z none r X) E 2 0 0 S Z M X 2 [(0, .ref p0), (1, .int v1)] [] := by
  intro n
  induction n with
  | zero => intro v1 M r; intro hf; cases hf
  | succ n ih =>
    intro v1 M r hf
    refine r_iload_n C0 dX11_comeOn_2 rfl 1 rfl ?_
    refine r_aload_n C0 dX11_comeOn_3 rfl 0 rfl ?_
    refine r_iconst (v := 5) C0 dX11_comeOn_4 (by decide) ?_
    refine r_iald' (j := 5) C0 hk_p0 rfl rfl dX11_comeOn_5 ?_
    refine r_icmp_ge C0 68 dX11_comeOn_6 (by decide) hf (fun hf => ?_) (fun hf => ?_)
    · obtain rfl := Option.some.inj hf
      exact r_vret C0 dX11_comeOn_68
    · refine r_aload_n C0 dX11_comeOn_9 rfl 0 rfl ?_
      refine r_callSi C0 (st := []) [.ref p0] hf vs_117 (fun hl r1 hr1 => c_X11_frontShip hl F p0 hk_p0 M r1 hr1) rfl rfl (Nat.le_of_ble_eq_true rfl) dX11_comeOn_10 (zrm_ok rfl) (fun r1 hr1 hf => ?_)
      refine r_bipush (v := -9) C0 dX11_comeOn_13 (by decide) ?_
      refine r_icmp_ne C0 68 dX11_comeOn_15 (by decide) hf (fun hf => ?_) (fun hf => ?_)
      · obtain rfl := Option.some.inj hf
        exact r_vret C0 dX11_comeOn_68
      · refine r_aload_n C0 dX11_comeOn_18 rfl 0 rfl ?_
        refine r_callSi C0 (st := []) [.ref p0] hf vs_116 (fun hl r2 hr2 => c_X11_isFinished hl F p0 hk_p0 M r2 hr2) rfl rfl (Nat.le_of_ble_eq_true rfl) dX11_comeOn_19 (zrm_ok rfl) (fun r2 hr2 hf => ?_)
        refine r_if_ne C0 68 dX11_comeOn_22 (by decide) hf (fun hf => ?_) (fun hf => ?_)
        · obtain rfl := Option.some.inj hf
          exact r_vret C0 dX11_comeOn_68
        · refine r_aload_n C0 dX11_comeOn_25 rfl 0 rfl ?_
          refine r_iload_n C0 dX11_comeOn_26 rfl 1 rfl ?_
          refine r_callSi C0 (st := [.ref p0]) [.int v1] hf vs_115 (fun hl r3 hr3 => c_X11_shipAt hl F v1 M r3 hr3) rfl rfl (Nat.le_of_ble_eq_true rfl) dX11_comeOn_27 (zrm_ok rfl) (fun r3 hr3 hf => ?_)
          refine r_iconst (v := 5) C0 dX11_comeOn_30 (by decide) ?_
          refine r_iadd C0 dX11_comeOn_31 ?_
          refine r_iald C0 hk_p0 hf dX11_comeOn_32 (fun hf => ?_)
          refine r_iconst (v := 2) C0 dX11_comeOn_33 (by decide) ?_
          refine r_icmp_ne C0 62 dX11_comeOn_34 (by decide) hf (fun hf => ?_) (fun hf => ?_)
          · refine r_iinc (j := 1) (v := (v1 + (1 : Int32))) (L' := [(1, .int (v1 + (1 : Int32))), (0, .ref p0)]) C0 dX11_comeOn_62 rfl rfl (by decide) rfl ?_
            refine r_goto C0 2 dX11_comeOn_65 (by decide) ?_
            refine r_sub (L' := [(0, .ref p0), (1, .int (v1 + (1 : Int32)))]) [1, 0] rfl ?_
            exact ih (v1 + (1 : Int32)) M _  hf
          · refine r_aload_n C0 dX11_comeOn_37 rfl 0 rfl ?_
            refine r_iload_n C0 dX11_comeOn_38 rfl 1 rfl ?_
            refine r_callSi C0 (st := [.ref p0]) [.int v1] hf vs_115 (fun hl r4 hr4 => c_X11_shipAt hl F v1 M r4 hr4) rfl rfl (Nat.le_of_ble_eq_true rfl) dX11_comeOn_39 (zrm_ok rfl) (fun r4 hr4 hf => ?_)
            refine r_iconst (v := 5) C0 dX11_comeOn_42 (by decide) ?_
            refine r_iadd C0 dX11_comeOn_43 ?_
            refine r_iconst (v := 3) C0 dX11_comeOn_44 (by decide) ?_
            refine r_iast C0 hk_p0 hf dX11_comeOn_45 (fun M5 hf => ?_)
            refine r_aload_n C0 dX11_comeOn_46 rfl 0 rfl ?_
            refine r_bipush (v := 10) C0 dX11_comeOn_47 (by decide) ?_
            refine r_aload_n C0 dX11_comeOn_49 rfl 0 rfl ?_
            refine r_bipush (v := 17) C0 dX11_comeOn_50 (by decide) ?_
            refine r_iald' (j := 17) C0 hk_p0 rfl rfl dX11_comeOn_52 ?_
            refine r_if_le C0 60 dX11_comeOn_53 (by decide) hf (fun hf => ?_) (fun hf => ?_)
            · refine r_iconst (v := 0) C0 dX11_comeOn_60 (by decide) ?_
              refine r_iast' (j := 10) C0 hk_p0 rfl rfl hf dX11_comeOn_61 (fun M6 hf => ?_)
              refine r_iinc (j := 1) (v := (v1 + (1 : Int32))) (L' := [(1, .int (v1 + (1 : Int32))), (0, .ref p0)]) C0 dX11_comeOn_62 rfl rfl (by decide) rfl ?_
              refine r_goto C0 2 dX11_comeOn_65 (by decide) ?_
              refine r_sub (L' := [(0, .ref p0), (1, .int (v1 + (1 : Int32)))]) [1, 0] rfl ?_
              exact ih (v1 + (1 : Int32)) M6 _  hf
            · refine r_iconst (v := 1) C0 dX11_comeOn_56 (by decide) ?_
              refine r_goto C0 61 dX11_comeOn_57 (by decide) ?_
              refine r_iast' (j := 10) C0 hk_p0 rfl rfl hf dX11_comeOn_61 (fun M7 hf => ?_)
              refine r_iinc (j := 1) (v := (v1 + (1 : Int32))) (L' := [(1, .int (v1 + (1 : Int32))), (0, .ref p0)]) C0 dX11_comeOn_62 rfl rfl (by decide) rfl ?_
              refine r_goto C0 2 dX11_comeOn_65 (by decide) ?_
              refine r_sub (L' := [(0, .ref p0), (1, .int (v1 + (1 : Int32)))]) [1, 0] rfl ?_
              exact ih (v1 + (1 : Int32)) M7 _  hf
set_option maxHeartbeats 4000000 in
set_option maxRecDepth 100000 in
theorem c_X11_comeOn {l : Launch} {E : zEn} {S : zSk} {X : zMl} {Z : Nat → Prop} (hl : l.stackTraces = false) (F : Nat) (p0 : Nat) (hk_p0 : S.1 p0 = some (.inr (0, 121))) (M : zMi) (r : zMi) (hf : f_X11_comeOn F p0 M = some r) : zM l E yX11_comeOn cX11_comeOn 2 (Option.none : Option Jvm.ClassFile.FieldType) { frames := 2, cells := 0, slots := 0, locals := 41 } 0 0 [.ref p0] S Z M X S Z none r X := by
  refine zM.intro (L0 := [(0, .ref p0)]) hl (by decide) (Nat.le_of_ble_eq_true rfl) rfl (fun Γ C0 _ => ?_)
  unfold f_X11_comeOn at hf
  refine r_iconst (v := 0) C0 dX11_comeOn_0 (by decide) ?_
  refine r_istore_n (L' := [(1, .int (0 : Int32)), (0, .ref p0)]) C0 dX11_comeOn_1 rfl (by decide) rfl ?_
  refine r_sub (L' := [(0, .ref p0), (1, .int (0 : Int32))]) [1, 0] rfl ?_
  exact g_X11_comeOn_2 C0 F p0 hk_p0 F (0 : Int32) M _  hf
