set_option maxHeartbeats 4000000 in
set_option maxRecDepth 100000 in
theorem g_X11_runScript_84 {Γ : zCx} {E : zEn} {S : zSk} {X : zMl} (C0 : zCt Γ E RX11 cX11_runScript 10 (Option.some Jvm.ClassFile.FieldType.int) [] { frames := 8, cells := 0, slots := 0, locals := 192 }) (F : Nat) (p0 : Nat) (p1 : Int32) (p2 : Int64) (hk_p0 : K_X11 S p0) : ∀ (n : Nat) (v4 : Int64) (v6 : Int64) (v8 : Int32) (M : zMi) (r : Int32 × zMi) , f_X11_runScript_84 F p0 p1 p2 n v4 v6 v8 M = some r → zG Γ (zQ Γ E 0 0 S ZT (some (.int r.1)) r.2 X) E 10 0 0 S ZT M X 84 [(0, .ref p0), (1, .int p1), (4, .long v4), (6, .long v6), (8, .int v8)] [] := by
  intro n
  induction n with
  | zero => intro v4 v6 v8 M r; intro hf; cases hf
  | succ n ih =>
    intro v4 v6 v8 M r hf
    refine r_iload C0 dX11_runScript_84 4 rfl ?_
    refine r_iload_n C0 dX11_runScript_86 rfl 1 rfl ?_
    refine r_icmp_ge C0 157 dX11_runScript_87 (by decide) hf (fun hf => ?_) (fun hf => ?_)
    · refine r_bipush (v := -9) C0 dX11_runScript_157 (by decide) ?_
      obtain rfl := Option.some.inj hf
      exact r_iret C0 dX11_runScript_159
    · refine r_lload C0 dX11_runScript_90 2 rfl ?_
      refine r_ldc2 (v := 100000) C0 qw_503 dX11_runScript_92 ?_
      refine r_ldiv' C0 dX11_runScript_95 (by decide) ?_
      refine r_nmL hf (fun x1 hf => ?_)
      refine r_lstore (L' := [(4, .long x1), (0, .ref p0), (1, .int p1), (6, .long v6), (8, .int v8)]) C0 dX11_runScript_96 (by decide) rfl ?_
      refine r_lload C0 dX11_runScript_98 3 rfl ?_
      refine r_lload C0 dX11_runScript_100 0 rfl ?_
      refine r_ldiv C0 dX11_runScript_102 hf (fun hf => ?_)
      refine r_l2i C0 dX11_runScript_103 ?_
      refine r_nm hf (fun x2 hf => ?_)
      refine r_istore (L' := [(9, .int x2), (4, .long x1), (0, .ref p0), (1, .int p1), (6, .long v6), (8, .int v8)]) C0 dX11_runScript_104 (by decide) rfl ?_
      refine r_lload C0 dX11_runScript_106 4 rfl ?_
      refine r_lload C0 dX11_runScript_108 1 rfl ?_
      refine r_lrem C0 dX11_runScript_110 hf (fun hf => ?_)
      refine r_nmL hf (fun x3 hf => ?_)
      refine r_lstore (L' := [(6, .long x3), (9, .int x2), (4, .long x1), (0, .ref p0), (1, .int p1), (8, .int v8)]) C0 dX11_runScript_111 (by decide) rfl ?_
      refine r_aload_n C0 dX11_runScript_113 rfl 3 rfl ?_
      refine r_iload C0 dX11_runScript_114 1 rfl ?_
      refine r_sipush (v := 10000) C0 dX11_runScript_116 (by decide) ?_
      refine r_idiv' C0 dX11_runScript_119 (by decide) ?_
      refine r_iload C0 dX11_runScript_120 1 rfl ?_
      refine r_sipush (v := 1000) C0 dX11_runScript_122 (by decide) ?_
      refine r_idiv' C0 dX11_runScript_125 (by decide) ?_
      refine r_bipush (v := 10) C0 dX11_runScript_126 (by decide) ?_
      refine r_irem' C0 dX11_runScript_128 (by decide) ?_
      refine r_iload C0 dX11_runScript_129 1 rfl ?_
      refine r_bipush (v := 100) C0 dX11_runScript_131 (by decide) ?_
      refine r_idiv' C0 dX11_runScript_133 (by decide) ?_
      refine r_bipush (v := 10) C0 dX11_runScript_134 (by decide) ?_
      refine r_irem' C0 dX11_runScript_136 (by decide) ?_
      refine r_iload C0 dX11_runScript_137 1 rfl ?_
      refine r_bipush (v := 100) C0 dX11_runScript_139 (by decide) ?_
      refine r_irem' C0 dX11_runScript_141 (by decide) ?_
      refine r_callVim C0 (st := []) [.int (x2 / (10000 : Int32)), .int ((x2 / (1000 : Int32)) - (x2 / (1000 : Int32)) / (10 : Int32) * (10 : Int32)), .int ((x2 / (100 : Int32)) - (x2 / (100 : Int32)) / (10 : Int32) * (10 : Int32)), .int (x2 - x2 / (100 : Int32) * (100 : Int32))] p0 hf vs_113 (fun hl r4 hr4 => c_X11_does hl F p0 (x2 / (10000 : Int32)) ((x2 / (1000 : Int32)) - (x2 / (1000 : Int32)) / (10 : Int32) * (10 : Int32)) ((x2 / (100 : Int32)) - (x2 / (100 : Int32)) / (10 : Int32) * (10 : Int32)) (x2 - x2 / (100 : Int32) * (100 : Int32)) hk_p0 M r4 hr4) (K_X11_o hk_p0) rfl rfl rfl rfl (Nat.le_of_ble_eq_true rfl) dX11_runScript_142 (zrm_ok rfl) (fun r4 hr4 hf => ?_)
      refine r_if_ne C0 151 dX11_runScript_145 (by decide) hf (fun hf => ?_) (fun hf => ?_)
      · refine r_iinc (j := 5) (v := (v8 + (1 : Int32))) (L' := [(8, .int (v8 + (1 : Int32))), (6, .long x3), (9, .int x2), (4, .long x1), (0, .ref p0), (1, .int p1)]) C0 dX11_runScript_151 rfl rfl (by decide) rfl ?_
        refine r_goto C0 84 dX11_runScript_154 (by decide) ?_
        refine r_sub (L' := [(0, .ref p0), (1, .int p1), (4, .long x1), (6, .long x3), (8, .int (v8 + (1 : Int32)))]) [4, 5, 3, 1, 0] rfl ?_
        exact ih x1 x3 (v8 + (1 : Int32)) r4.2 _  hf
      · refine r_iload C0 dX11_runScript_148 5 rfl ?_
        obtain rfl := Option.some.inj hf
        exact r_iret C0 dX11_runScript_150
set_option maxHeartbeats 4000000 in
set_option maxRecDepth 100000 in
theorem g_X11_runScript_57 {Γ : zCx} {E : zEn} {S : zSk} {X : zMl} (C0 : zCt Γ E RX11 cX11_runScript 10 (Option.some Jvm.ClassFile.FieldType.int) [] { frames := 8, cells := 0, slots := 0, locals := 192 }) (F : Nat) (p0 : Nat) (p1 : Int32) (p2 : Int64) (hk_p0 : K_X11 S p0) (v4 : Int64) (s0 : Int32) (M : zMi) (r : Int32 × zMi)  (hf : f_X11_runScript_57 F p0 p1 p2 v4 s0 M = some r) : zG Γ (zQ Γ E 0 0 S ZT (some (.int r.1)) r.2 X) E 10 0 0 S ZT M X 57 [(0, .ref p0), (1, .int p1), (2, .long p2), (4, .long v4)] [.int s0, .ref p0] := by
  unfold f_X11_runScript_57 at hf
  refine r_callVim C0 (st := []) [.int s0] p0 hf vs_93 (fun hl r1 hr1 => c_X11_refused hl F p0 s0 hk_p0 M r1 hr1) (K_X11_o hk_p0) rfl rfl rfl rfl (Nat.le_of_ble_eq_true rfl) dX11_runScript_57 (zrm_ok rfl) (fun r1 hr1 hf => ?_)
  refine r_if_eq C0 65 dX11_runScript_60 (by decide) hf (fun hf => ?_) (fun hf => ?_)
  · refine r_aload_n C0 dX11_runScript_65 rfl 0 rfl ?_
    refine r_getR C0 (C := RX11) (T := TX11) cl_X11 (K_X11_o hk_p0) (k := 5) (by decide) qw_448 rfl (K_X11_now_r hk_p0) dX11_runScript_66 ?_
    refine r_iconst (v := 0) C0 dX11_runScript_69 (by decide) ?_
    refine r_aload_n C0 dX11_runScript_70 rfl 0 rfl ?_
    refine r_getR C0 (C := RX11) (T := TX11) cl_X11 (K_X11_o hk_p0) (k := 6) (by decide) qw_495 rfl (K_X11_trial_r hk_p0) dX11_runScript_71 ?_
    refine r_iconst (v := 0) C0 dX11_runScript_74 (by decide) ?_
    refine r_callSm C0 (st := []) [.ref (p0 + 3), .int (0 : Int32), .ref (p0 + 4), .int (0 : Int32)] hf vs_99 (fun hl r2 hr2 => c_X11_copyPage hl F (p0 + 3) 121 (0 : Int32) (p0 + 4) 121 (0 : Int32) (K_X11_now_k hk_p0) (K_X11_trial_k hk_p0) r1.2 r2 hr2) rfl rfl (Nat.le_of_ble_eq_true rfl) dX11_runScript_75 (zrm_ok rfl) (fun r2 hr2 hf => ?_)
    refine r_lload_n C0 dX11_runScript_78 rfl 2 rfl ?_
    refine r_lstore (L' := [(6, .long p2), (0, .ref p0), (1, .int p1), (2, .long p2), (4, .long v4)]) C0 dX11_runScript_79 (by decide) rfl ?_
    refine r_iconst (v := 0) C0 dX11_runScript_81 (by decide) ?_
    refine r_istore (L' := [(8, .int (0 : Int32)), (6, .long p2), (0, .ref p0), (1, .int p1), (2, .long p2), (4, .long v4)]) C0 dX11_runScript_82 (by decide) rfl ?_
    refine r_sub (L' := [(0, .ref p0), (1, .int p1), (4, .long v4), (6, .long p2), (8, .int (0 : Int32))]) [2, 3, 5, 1, 0] rfl ?_
    exact g_X11_runScript_84 C0 F p0 p1 p2 hk_p0 F v4 p2 (0 : Int32) r2 _  hf
  · refine r_iconst (v := 0) C0 dX11_runScript_63 (by decide) ?_
    obtain rfl := Option.some.inj hf
    exact r_iret C0 dX11_runScript_64
set_option maxHeartbeats 4000000 in
set_option maxRecDepth 100000 in
theorem g_X11_runScript_25 {Γ : zCx} {E : zEn} {S : zSk} {X : zMl} (C0 : zCt Γ E RX11 cX11_runScript 10 (Option.some Jvm.ClassFile.FieldType.int) [] { frames := 8, cells := 0, slots := 0, locals := 192 }) (F : Nat) (p0 : Nat) (p1 : Int32) (p2 : Int64) (hk_p0 : K_X11 S p0) (s0 : Int64) (M : zMi) (r : Int32 × zMi)  (hf : f_X11_runScript_25 F p0 p1 p2 s0 M = some r) : zG Γ (zQ Γ E 0 0 S ZT (some (.int r.1)) r.2 X) E 10 0 0 S ZT M X 25 [(0, .ref p0), (1, .int p1), (2, .long p2)] [.long s0] := by
  unfold f_X11_runScript_25 at hf
  refine r_lstore (L' := [(4, .long s0), (0, .ref p0), (1, .int p1), (2, .long p2)]) C0 dX11_runScript_25 (by decide) rfl ?_
  refine r_aload_n C0 dX11_runScript_27 rfl 1 rfl ?_
  refine r_iload_n C0 dX11_runScript_28 rfl 2 rfl ?_
  refine r_i2l C0 dX11_runScript_29 ?_
  refine r_lconst (v := 1) C0 dX11_runScript_30 (by decide) ?_
  refine r_ldc2 (v := 3) C0 qw_398 dX11_runScript_31 ?_
  refine r_callSi C0 (st := [.ref p0]) [.long ((p1).toInt64), .long (1 : Int64), .long (3 : Int64)] hf vs_74 (fun hl r1 hr1 => c_X11_in hl F ((p1).toInt64) (1 : Int64) (3 : Int64) M r1 hr1) rfl rfl (Nat.le_of_ble_eq_true rfl) dX11_runScript_34 (zrm_ok rfl) (fun r1 hr1 hf => ?_)
  refine r_if_eq C0 56 dX11_runScript_37 (by decide) hf (fun hf => ?_) (fun hf => ?_)
  · refine r_iconst (v := 1) C0 dX11_runScript_56 (by decide) ?_
    refine r_sub (L' := [(0, .ref p0), (1, .int p1), (2, .long p2), (4, .long s0)]) [1, 2, 3, 0] rfl ?_
    exact g_X11_runScript_57 C0 F p0 p1 p2 hk_p0 s0 (1 : Int32) M _  hf
  · refine r_lload_n C0 dX11_runScript_40 rfl 3 rfl ?_
    refine r_lconst (v := 0) C0 dX11_runScript_41 (by decide) ?_
    refine r_lload C0 dX11_runScript_42 0 rfl ?_
    refine r_lconst (v := 1) C0 dX11_runScript_44 (by decide) ?_
    refine r_lsub C0 dX11_runScript_45 ?_
    refine r_callSi C0 (st := [.ref p0]) [.long p2, .long (0 : Int64), .long (s0 - (1 : Int64))] hf vs_74 (fun hl r2 hr2 => c_X11_in hl F p2 (0 : Int64) (s0 - (1 : Int64)) M r2 hr2) rfl rfl (Nat.le_of_ble_eq_true rfl) dX11_runScript_46 (zrm_ok rfl) (fun r2 hr2 hf => ?_)
    refine r_if_eq C0 56 dX11_runScript_49 (by decide) hf (fun hf => ?_) (fun hf => ?_)
    · refine r_iconst (v := 1) C0 dX11_runScript_56 (by decide) ?_
      refine r_sub (L' := [(0, .ref p0), (1, .int p1), (2, .long p2), (4, .long s0)]) [1, 2, 3, 0] rfl ?_
      exact g_X11_runScript_57 C0 F p0 p1 p2 hk_p0 s0 (1 : Int32) M _  hf
    · refine r_iconst (v := 0) C0 dX11_runScript_52 (by decide) ?_
      refine r_goto C0 57 dX11_runScript_53 (by decide) ?_
      refine r_sub (L' := [(0, .ref p0), (1, .int p1), (2, .long p2), (4, .long s0)]) [1, 2, 3, 0] rfl ?_
      exact g_X11_runScript_57 C0 F p0 p1 p2 hk_p0 s0 (0 : Int32) M _  hf
set_option maxHeartbeats 4000000 in
set_option maxRecDepth 100000 in
theorem c_X11_runScript {l : Launch} {E : zEn} {S : zSk} {X : zMl} (hl : l.stackTraces = false) (F : Nat) (p0 : Nat) (p1 : Int32) (p2 : Int64) (hk_p0 : K_X11 S p0) (M : zMi) (r : Int32 × zMi) (hf : f_X11_runScript F p0 p1 p2 M = some r) : zM l E yX11_runScript cX11_runScript 10 (Option.some Jvm.ClassFile.FieldType.int) { frames := 8, cells := 0, slots := 0, locals := 192 } 0 0 [.ref p0, .int p1, .long p2] S ZT M X S ZT (some (.int r.1)) r.2 X := by
  refine zM.intro (L0 := [(0, .ref p0), (1, .int p1), (2, .long p2)]) hl (by decide) (Nat.le_of_ble_eq_true rfl) rfl (fun Γ C0 _ => ?_)
  unfold f_X11_runScript at hf
  refine r_iload_n C0 dX11_runScript_0 rfl 1 rfl ?_
  refine r_iconst (v := 1) C0 dX11_runScript_1 (by decide) ?_
  refine r_icmp_ne C0 11 dX11_runScript_2 (by decide) hf (fun hf => ?_) (fun hf => ?_)
  · refine r_iload_n C0 dX11_runScript_11 rfl 1 rfl ?_
    refine r_iconst (v := 2) C0 dX11_runScript_12 (by decide) ?_
    refine r_icmp_ne C0 22 dX11_runScript_13 (by decide) hf (fun hf => ?_) (fun hf => ?_)
    · refine r_ldc2 (v := 1000000000000000) C0 qw_508 dX11_runScript_22 ?_
      refine r_sub (L' := [(0, .ref p0), (1, .int p1), (2, .long p2)]) [0, 1, 2] rfl ?_
      exact g_X11_runScript_25 C0 F p0 p1 p2 hk_p0 (1000000000000000 : Int64) M _  hf
    · refine r_ldc2 (v := 10000000000) C0 qw_509 dX11_runScript_16 ?_
      refine r_goto C0 25 dX11_runScript_19 (by decide) ?_
      refine r_sub (L' := [(0, .ref p0), (1, .int p1), (2, .long p2)]) [0, 1, 2] rfl ?_
      exact g_X11_runScript_25 C0 F p0 p1 p2 hk_p0 (10000000000 : Int64) M _  hf
  · refine r_ldc2 (v := 100000) C0 qw_503 dX11_runScript_5 ?_
    refine r_goto C0 25 dX11_runScript_8 (by decide) ?_
    refine r_sub (L' := [(0, .ref p0), (1, .int p1), (2, .long p2)]) [0, 1, 2] rfl ?_
    exact g_X11_runScript_25 C0 F p0 p1 p2 hk_p0 (100000 : Int64) M _  hf
set_option maxHeartbeats 4000000 in
set_option maxRecDepth 100000 in
theorem g_X11_simulate_45 {Γ : zCx} {E : zEn} {S : zSk} {X : zMl} (C0 : zCt Γ E RX11 cX11_simulate 9 (Option.some Jvm.ClassFile.FieldType.int) [] { frames := 6, cells := 0, slots := 0, locals := 143 }) (F : Nat) (p0 : Nat) (p1 : Int64) (p2 : Int32) (hk_p0 : K_X11 S p0) : ∀ (n : Nat) (v4 : Int64) (v6 : Int32) (M : zMi) (r : Int32 × zMi) , f_X11_simulate_45 F p0 p1 p2 n v4 v6 M = some r → zG Γ (zQ Γ E 0 0 S ZT (some (.int r.1)) r.2 X) E 9 0 0 S ZT M X 45 [(0, .ref p0), (3, .int p2), (4, .long v4), (6, .int v6)] [] := by
  intro n
  induction n with
  | zero => intro v4 v6 M r; intro hf; cases hf
  | succ n ih =>
    intro v4 v6 M r hf
    refine r_iload C0 dX11_simulate_45 3 rfl ?_
    refine r_iload_n C0 dX11_simulate_47 rfl 1 rfl ?_
    refine r_icmp_ge C0 169 dX11_simulate_48 (by decide) hf (fun hf => ?_) (fun hf => ?_)
    · refine r_sipush (v := 1000) C0 dX11_simulate_169 (by decide) ?_
      refine r_aload_n C0 dX11_simulate_172 rfl 0 rfl ?_
      refine r_getR C0 (C := RX11) (T := TX11) cl_X11 (K_X11_o hk_p0) (k := 6) (by decide) qw_495 rfl (K_X11_trial_r hk_p0) dX11_simulate_173 ?_
      refine r_bipush (v := 17) C0 dX11_simulate_176 (by decide) ?_
      refine r_iald' (j := 17) C0 (K_X11_trial_k hk_p0) rfl rfl dX11_simulate_178 ?_
      refine r_aload_n C0 dX11_simulate_179 rfl 0 rfl ?_
      refine r_getR C0 (C := RX11) (T := TX11) cl_X11 (K_X11_o hk_p0) (k := 5) (by decide) qw_448 rfl (K_X11_now_r hk_p0) dX11_simulate_180 ?_
      refine r_bipush (v := 17) C0 dX11_simulate_183 (by decide) ?_
      refine r_iald' (j := 17) C0 (K_X11_now_k hk_p0) rfl rfl dX11_simulate_185 ?_
      refine r_isub C0 dX11_simulate_186 ?_
      refine r_imul C0 dX11_simulate_187 ?_
      refine r_aload_n C0 dX11_simulate_188 rfl 0 rfl ?_
      refine r_getR C0 (C := RX11) (T := TX11) cl_X11 (K_X11_o hk_p0) (k := 6) (by decide) qw_495 rfl (K_X11_trial_r hk_p0) dX11_simulate_189 ?_
      refine r_iconst (v := 3) C0 dX11_simulate_192 (by decide) ?_
      refine r_iald' (j := 3) C0 (K_X11_trial_k hk_p0) rfl rfl dX11_simulate_193 ?_
      refine r_iadd C0 dX11_simulate_194 ?_
      obtain rfl := Option.some.inj hf
      exact r_iret C0 dX11_simulate_195
    · refine r_lload C0 dX11_simulate_51 2 rfl ?_
      refine r_ldc2 (v := 6364136223846793005) C0 qw_510 dX11_simulate_53 ?_
      refine r_lmul C0 dX11_simulate_56 ?_
      refine r_ldc2 (v := 1442695040888963407) C0 qw_511 dX11_simulate_57 ?_
      refine r_ladd C0 dX11_simulate_60 ?_
      refine r_nmL hf (fun x1 hf => ?_)
      refine r_lstore (L' := [(4, .long x1), (0, .ref p0), (3, .int p2), (6, .int v6)]) C0 dX11_simulate_61 (by decide) rfl ?_
      refine r_lload C0 dX11_simulate_63 0 rfl ?_
      refine r_bipush (v := 33) C0 dX11_simulate_65 (by decide) ?_
      refine r_lushr C0 dX11_simulate_67 ?_
      refine r_l2i C0 dX11_simulate_68 ?_
      refine r_nm hf (fun x2 hf => ?_)
      refine r_istore (L' := [(7, .int x2), (4, .long x1), (0, .ref p0), (3, .int p2), (6, .int v6)]) C0 dX11_simulate_69 (by decide) rfl ?_
      refine r_iload C0 dX11_simulate_71 0 rfl ?_
      refine r_bipush (v := 8) C0 dX11_simulate_73 (by decide) ?_
      refine r_idiv' C0 dX11_simulate_75 (by decide) ?_
      refine r_aload_n C0 dX11_simulate_76 rfl 2 rfl ?_
      refine r_getR C0 (C := RX11) (T := TX11) cl_X11 (K_X11_o hk_p0) (k := 6) (by decide) qw_495 rfl (K_X11_trial_r hk_p0) dX11_simulate_77 ?_
      refine r_iconst (v := 5) C0 dX11_simulate_80 (by decide) ?_
      refine r_iald' (j := 5) C0 (K_X11_trial_k hk_p0) rfl rfl dX11_simulate_81 ?_
      refine r_irem C0 dX11_simulate_82 hf (fun hf => ?_)
      refine r_nm hf (fun x3 hf => ?_)
      refine r_istore (L' := [(8, .int x3), (7, .int x2), (4, .long x1), (0, .ref p0), (3, .int p2), (6, .int v6)]) C0 dX11_simulate_83 (by decide) rfl ?_
      refine r_iload C0 dX11_simulate_85 1 rfl ?_
      refine r_bipush (v := 8) C0 dX11_simulate_87 (by decide) ?_
      refine r_irem' C0 dX11_simulate_89 (by decide) ?_
      refine r_if_ne C0 126 dX11_simulate_90 (by decide) hf (fun hf => ?_) (fun hf => ?_)
      · refine r_iload C0 dX11_simulate_126 1 rfl ?_
        refine r_bipush (v := 8) C0 dX11_simulate_128 (by decide) ?_
        refine r_irem' C0 dX11_simulate_130 (by decide) ?_
        refine r_iconst (v := 3) C0 dX11_simulate_131 (by decide) ?_
        refine r_icmp_ge C0 156 dX11_simulate_132 (by decide) hf (fun hf => ?_) (fun hf => ?_)
        · refine r_aload_n C0 dX11_simulate_156 rfl 3 rfl ?_
          refine r_getR C0 (C := RX11) (T := TX11) cl_X11 (K_X11_o hk_p0) (k := 6) (by decide) qw_495 rfl (K_X11_trial_r hk_p0) dX11_simulate_157 ?_
          refine r_callSm C0 (st := []) [.ref (p0 + 4)] hf vs_90 (fun hl r4 hr4 => c_X11_dayOn hl F (p0 + 4) (K_X11_trial_k hk_p0) M r4 hr4) rfl rfl (Nat.le_of_ble_eq_true rfl) dX11_simulate_160 (zrm_ok rfl) (fun r4 hr4 hf => ?_)
          refine r_iinc (j := 5) (v := (v6 + (1 : Int32))) (L' := [(6, .int (v6 + (1 : Int32))), (8, .int x3), (7, .int x2), (4, .long x1), (0, .ref p0), (3, .int p2)]) C0 dX11_simulate_163 rfl rfl (by decide) rfl ?_
          refine r_goto C0 45 dX11_simulate_166 (by decide) ?_
          refine r_sub (L' := [(0, .ref p0), (3, .int p2), (4, .long x1), (6, .int (v6 + (1 : Int32)))]) [4, 5, 3, 0] rfl ?_
          exact ih x1 (v6 + (1 : Int32)) r4 _  hf
        · refine r_aload_n C0 dX11_simulate_135 rfl 3 rfl ?_
          refine r_getR C0 (C := RX11) (T := TX11) cl_X11 (K_X11_o hk_p0) (k := 6) (by decide) qw_495 rfl (K_X11_trial_r hk_p0) dX11_simulate_136 ?_
          refine r_iload C0 dX11_simulate_139 0 rfl ?_
          refine r_callSi C0 (st := []) [.ref (p0 + 4), .int x3] hf vs_104 (fun hl r5 hr5 => c_X11_canSend hl F (p0 + 4) x3 (K_X11_trial_k hk_p0) M r5 hr5) rfl rfl (Nat.le_of_ble_eq_true rfl) dX11_simulate_141 (zrm_ok rfl) (fun r5 hr5 hf => ?_)
          refine r_if_eq C0 156 dX11_simulate_144 (by decide) hf (fun hf => ?_) (fun hf => ?_)
          · refine r_aload_n C0 dX11_simulate_156 rfl 3 rfl ?_
            refine r_getR C0 (C := RX11) (T := TX11) cl_X11 (K_X11_o hk_p0) (k := 6) (by decide) qw_495 rfl (K_X11_trial_r hk_p0) dX11_simulate_157 ?_
            refine r_callSm C0 (st := []) [.ref (p0 + 4)] hf vs_90 (fun hl r6 hr6 => c_X11_dayOn hl F (p0 + 4) (K_X11_trial_k hk_p0) M r6 hr6) rfl rfl (Nat.le_of_ble_eq_true rfl) dX11_simulate_160 (zrm_ok rfl) (fun r6 hr6 hf => ?_)
            refine r_iinc (j := 5) (v := (v6 + (1 : Int32))) (L' := [(6, .int (v6 + (1 : Int32))), (8, .int x3), (7, .int x2), (4, .long x1), (0, .ref p0), (3, .int p2)]) C0 dX11_simulate_163 rfl rfl (by decide) rfl ?_
            refine r_goto C0 45 dX11_simulate_166 (by decide) ?_
            refine r_sub (L' := [(0, .ref p0), (3, .int p2), (4, .long x1), (6, .int (v6 + (1 : Int32)))]) [4, 5, 3, 0] rfl ?_
            exact ih x1 (v6 + (1 : Int32)) r6 _  hf
          · refine r_aload_n C0 dX11_simulate_147 rfl 3 rfl ?_
            refine r_getR C0 (C := RX11) (T := TX11) cl_X11 (K_X11_o hk_p0) (k := 6) (by decide) qw_495 rfl (K_X11_trial_r hk_p0) dX11_simulate_148 ?_
            refine r_iload C0 dX11_simulate_151 0 rfl ?_
            refine r_callSm C0 (st := []) [.ref (p0 + 4), .int x3] hf vs_112 (fun hl r7 hr7 => c_X11_fillAndSend hl F (p0 + 4) x3 (K_X11_trial_k hk_p0) M r7 hr7) rfl rfl (Nat.le_of_ble_eq_true rfl) dX11_simulate_153 (zrm_ok rfl) (fun r7 hr7 hf => ?_)
            refine r_aload_n C0 dX11_simulate_156 rfl 3 rfl ?_
            refine r_getR C0 (C := RX11) (T := TX11) cl_X11 (K_X11_o hk_p0) (k := 6) (by decide) qw_495 rfl (K_X11_trial_r hk_p0) dX11_simulate_157 ?_
            refine r_callSm C0 (st := []) [.ref (p0 + 4)] hf vs_90 (fun hl r8 hr8 => c_X11_dayOn hl F (p0 + 4) (K_X11_trial_k hk_p0) r7 r8 hr8) rfl rfl (Nat.le_of_ble_eq_true rfl) dX11_simulate_160 (zrm_ok rfl) (fun r8 hr8 hf => ?_)
            refine r_iinc (j := 5) (v := (v6 + (1 : Int32))) (L' := [(6, .int (v6 + (1 : Int32))), (8, .int x3), (7, .int x2), (4, .long x1), (0, .ref p0), (3, .int p2)]) C0 dX11_simulate_163 rfl rfl (by decide) rfl ?_
            refine r_goto C0 45 dX11_simulate_166 (by decide) ?_
            refine r_sub (L' := [(0, .ref p0), (3, .int p2), (4, .long x1), (6, .int (v6 + (1 : Int32)))]) [4, 5, 3, 0] rfl ?_
            exact ih x1 (v6 + (1 : Int32)) r8 _  hf
      · refine r_aload_n C0 dX11_simulate_93 rfl 3 rfl ?_
        refine r_getR C0 (C := RX11) (T := TX11) cl_X11 (K_X11_o hk_p0) (k := 6) (by decide) qw_495 rfl (K_X11_trial_r hk_p0) dX11_simulate_94 ?_
        refine r_bipush (v := 91) C0 dX11_simulate_97 (by decide) ?_
        refine r_iload C0 dX11_simulate_99 1 rfl ?_
        refine r_bipush (v := 64) C0 dX11_simulate_101 (by decide) ?_
        refine r_idiv' C0 dX11_simulate_103 (by decide) ?_
        refine r_aload_n C0 dX11_simulate_104 rfl 3 rfl ?_
        refine r_getR C0 (C := RX11) (T := TX11) cl_X11 (K_X11_o hk_p0) (k := 6) (by decide) qw_495 rfl (K_X11_trial_r hk_p0) dX11_simulate_105 ?_
        refine r_bipush (v := 6) C0 dX11_simulate_108 (by decide) ?_
        refine r_iald' (j := 6) C0 (K_X11_trial_k hk_p0) rfl rfl dX11_simulate_110 ?_
        refine r_irem C0 dX11_simulate_111 hf (fun hf => ?_)
        refine r_iadd C0 dX11_simulate_112 ?_
        refine r_iload C0 dX11_simulate_113 1 rfl ?_
        refine r_sipush (v := 2048) C0 dX11_simulate_115 (by decide) ?_
        refine r_idiv' C0 dX11_simulate_118 (by decide) ?_
        refine r_bipush (v := 10) C0 dX11_simulate_119 (by decide) ?_
        refine r_irem' C0 dX11_simulate_121 (by decide) ?_
        refine r_iast C0 (K_X11_trial_k hk_p0) hf dX11_simulate_122 (fun M9 hf => ?_)
        refine r_goto C0 156 dX11_simulate_123 (by decide) ?_
        refine r_aload_n C0 dX11_simulate_156 rfl 3 rfl ?_
        refine r_getR C0 (C := RX11) (T := TX11) cl_X11 (K_X11_o hk_p0) (k := 6) (by decide) qw_495 rfl (K_X11_trial_r hk_p0) dX11_simulate_157 ?_
        refine r_callSm C0 (st := []) [.ref (p0 + 4)] hf vs_90 (fun hl r10 hr10 => c_X11_dayOn hl F (p0 + 4) (K_X11_trial_k hk_p0) M9 r10 hr10) rfl rfl (Nat.le_of_ble_eq_true rfl) dX11_simulate_160 (zrm_ok rfl) (fun r10 hr10 hf => ?_)
        refine r_iinc (j := 5) (v := (v6 + (1 : Int32))) (L' := [(6, .int (v6 + (1 : Int32))), (8, .int x3), (7, .int x2), (4, .long x1), (0, .ref p0), (3, .int p2)]) C0 dX11_simulate_163 rfl rfl (by decide) rfl ?_
        refine r_goto C0 45 dX11_simulate_166 (by decide) ?_
        refine r_sub (L' := [(0, .ref p0), (3, .int p2), (4, .long x1), (6, .int (v6 + (1 : Int32)))]) [4, 5, 3, 0] rfl ?_
        exact ih x1 (v6 + (1 : Int32)) r10 _  hf
set_option maxHeartbeats 4000000 in
set_option maxRecDepth 100000 in
theorem g_X11_simulate_18 {Γ : zCx} {E : zEn} {S : zSk} {X : zMl} (C0 : zCt Γ E RX11 cX11_simulate 9 (Option.some Jvm.ClassFile.FieldType.int) [] { frames := 6, cells := 0, slots := 0, locals := 143 }) (F : Nat) (p0 : Nat) (p1 : Int64) (p2 : Int32) (hk_p0 : K_X11 S p0) (s0 : Int32) (M : zMi) (r : Int32 × zMi)  (hf : f_X11_simulate_18 F p0 p1 p2 s0 M = some r) : zG Γ (zQ Γ E 0 0 S ZT (some (.int r.1)) r.2 X) E 9 0 0 S ZT M X 18 [(0, .ref p0), (1, .long p1), (3, .int p2)] [.int s0, .ref p0] := by
  unfold f_X11_simulate_18 at hf
  refine r_callVim C0 (st := []) [.int s0] p0 hf vs_93 (fun hl r1 hr1 => c_X11_refused hl F p0 s0 hk_p0 M r1 hr1) (K_X11_o hk_p0) rfl rfl rfl rfl (Nat.le_of_ble_eq_true rfl) dX11_simulate_18 (zrm_ok rfl) (fun r1 hr1 hf => ?_)
  refine r_if_eq C0 26 dX11_simulate_21 (by decide) hf (fun hf => ?_) (fun hf => ?_)
  · refine r_aload_n C0 dX11_simulate_26 rfl 0 rfl ?_
    refine r_getR C0 (C := RX11) (T := TX11) cl_X11 (K_X11_o hk_p0) (k := 5) (by decide) qw_448 rfl (K_X11_now_r hk_p0) dX11_simulate_27 ?_
    refine r_iconst (v := 0) C0 dX11_simulate_30 (by decide) ?_
    refine r_aload_n C0 dX11_simulate_31 rfl 0 rfl ?_
    refine r_getR C0 (C := RX11) (T := TX11) cl_X11 (K_X11_o hk_p0) (k := 6) (by decide) qw_495 rfl (K_X11_trial_r hk_p0) dX11_simulate_32 ?_
    refine r_iconst (v := 0) C0 dX11_simulate_35 (by decide) ?_
    refine r_callSm C0 (st := []) [.ref (p0 + 3), .int (0 : Int32), .ref (p0 + 4), .int (0 : Int32)] hf vs_99 (fun hl r2 hr2 => c_X11_copyPage hl F (p0 + 3) 121 (0 : Int32) (p0 + 4) 121 (0 : Int32) (K_X11_now_k hk_p0) (K_X11_trial_k hk_p0) r1.2 r2 hr2) rfl rfl (Nat.le_of_ble_eq_true rfl) dX11_simulate_36 (zrm_ok rfl) (fun r2 hr2 hf => ?_)
    refine r_lload_n C0 dX11_simulate_39 rfl 1 rfl ?_
    refine r_lstore (L' := [(4, .long p1), (0, .ref p0), (1, .long p1), (3, .int p2)]) C0 dX11_simulate_40 (by decide) rfl ?_
    refine r_iconst (v := 0) C0 dX11_simulate_42 (by decide) ?_
    refine r_istore (L' := [(6, .int (0 : Int32)), (4, .long p1), (0, .ref p0), (1, .long p1), (3, .int p2)]) C0 dX11_simulate_43 (by decide) rfl ?_
    refine r_sub (L' := [(0, .ref p0), (3, .int p2), (4, .long p1), (6, .int (0 : Int32))]) [2, 4, 1, 0] rfl ?_
    exact g_X11_simulate_45 C0 F p0 p1 p2 hk_p0 F p1 (0 : Int32) r2 _  hf
  · refine r_iconst (v := 0) C0 dX11_simulate_24 (by decide) ?_
    obtain rfl := Option.some.inj hf
    exact r_iret C0 dX11_simulate_25
set_option maxHeartbeats 4000000 in
set_option maxRecDepth 100000 in
theorem c_X11_simulate {l : Launch} {E : zEn} {S : zSk} {X : zMl} (hl : l.stackTraces = false) (F : Nat) (p0 : Nat) (p1 : Int64) (p2 : Int32) (hk_p0 : K_X11 S p0) (M : zMi) (r : Int32 × zMi) (hf : f_X11_simulate F p0 p1 p2 M = some r) : zM l E yX11_simulate cX11_simulate 9 (Option.some Jvm.ClassFile.FieldType.int) { frames := 6, cells := 0, slots := 0, locals := 143 } 0 0 [.ref p0, .long p1, .int p2] S ZT M X S ZT (some (.int r.1)) r.2 X := by
  refine zM.intro (L0 := [(0, .ref p0), (1, .long p1), (3, .int p2)]) hl (by decide) (Nat.le_of_ble_eq_true rfl) rfl (fun Γ C0 _ => ?_)
  unfold f_X11_simulate at hf
  refine r_aload_n C0 dX11_simulate_0 rfl 0 rfl ?_
  refine r_iload_n C0 dX11_simulate_1 rfl 2 rfl ?_
  refine r_i2l C0 dX11_simulate_2 ?_
  refine r_lconst (v := 1) C0 dX11_simulate_3 (by decide) ?_
  refine r_ldc2 (v := 99) C0 qw_485 dX11_simulate_4 ?_
  refine r_callSi C0 (st := [.ref p0]) [.long ((p2).toInt64), .long (1 : Int64), .long (99 : Int64)] hf vs_74 (fun hl r1 hr1 => c_X11_in hl F ((p2).toInt64) (1 : Int64) (99 : Int64) M r1 hr1) rfl rfl (Nat.le_of_ble_eq_true rfl) dX11_simulate_7 (zrm_ok rfl) (fun r1 hr1 hf => ?_)
  refine r_if_eq C0 17 dX11_simulate_10 (by decide) hf (fun hf => ?_) (fun hf => ?_)
  · refine r_iconst (v := 1) C0 dX11_simulate_17 (by decide) ?_
    refine r_sub (L' := [(0, .ref p0), (1, .long p1), (3, .int p2)]) [0, 1, 2] rfl ?_
    exact g_X11_simulate_18 C0 F p0 p1 p2 hk_p0 (1 : Int32) M _  hf
  · refine r_iconst (v := 0) C0 dX11_simulate_13 (by decide) ?_
    refine r_goto C0 18 dX11_simulate_14 (by decide) ?_
    refine r_sub (L' := [(0, .ref p0), (1, .long p1), (3, .int p2)]) [0, 1, 2] rfl ?_
    exact g_X11_simulate_18 C0 F p0 p1 p2 hk_p0 (0 : Int32) M _  hf
set_option maxHeartbeats 4000000 in
set_option maxRecDepth 100000 in
theorem g_X11_save_16 {Γ : zCx} {E : zEn} {S : zSk} {X : zMl} (C0 : zCt Γ E RX11 cX11_save 2 (Option.some Jvm.ClassFile.FieldType.int) [] { frames := 1, cells := 0, slots := 0, locals := 25 }) (F : Nat) (p0 : Nat) (p1 : Int32) (hk_p0 : K_X11 S p0) (s0 : Int32) (M : zMi) (r : Int32 × zMi)  (hf : f_X11_save_16 F p0 p1 s0 M = some r) : zG Γ (zQ Γ E 0 0 S ZT (some (.int r.1)) r.2 X) E 2 0 0 S ZT M X 16 [(0, .ref p0), (1, .int p1)] [.int s0, .ref p0] := by
  unfold f_X11_save_16 at hf
  refine r_callVim C0 (st := []) [.int s0] p0 hf vs_93 (fun hl r1 hr1 => c_X11_refused hl F p0 s0 hk_p0 M r1 hr1) (K_X11_o hk_p0) rfl rfl rfl rfl (Nat.le_of_ble_eq_true rfl) dX11_save_16 (zrm_ok rfl) (fun r1 hr1 hf => ?_)
  refine r_if_eq C0 24 dX11_save_19 (by decide) hf (fun hf => ?_) (fun hf => ?_)
  · refine r_aload_n C0 dX11_save_24 rfl 0 rfl ?_
    refine r_getR C0 (C := RX11) (T := TX11) cl_X11 (K_X11_o hk_p0) (k := 10) (by decide) qw_453 rfl (K_X11_isKept_r hk_p0) dX11_save_25 ?_
    refine r_iload_n C0 dX11_save_28 rfl 1 rfl ?_
    refine r_iconst (v := 1) C0 dX11_save_29 (by decide) ?_
    refine r_zast C0 (K_X11_isKept_k hk_p0) hf dX11_save_30 (fun M2 hf => ?_)
    refine r_aload_n C0 dX11_save_31 rfl 0 rfl ?_
    refine r_getR C0 (C := RX11) (T := TX11) cl_X11 (K_X11_o hk_p0) (k := 5) (by decide) qw_448 rfl (K_X11_now_r hk_p0) dX11_save_32 ?_
    refine r_iconst (v := 0) C0 dX11_save_35 (by decide) ?_
    refine r_aload_n C0 dX11_save_36 rfl 0 rfl ?_
    refine r_getR C0 (C := RX11) (T := TX11) cl_X11 (K_X11_o hk_p0) (k := 9) (by decide) qw_512 rfl (K_X11_kept_r hk_p0) dX11_save_37 ?_
    refine r_bipush (v := 121) C0 dX11_save_40 (by decide) ?_
    refine r_iload_n C0 dX11_save_42 rfl 1 rfl ?_
    refine r_imul C0 dX11_save_43 ?_
    refine r_callSm C0 (st := []) [.ref (p0 + 3), .int (0 : Int32), .ref (p0 + 6), .int ((121 : Int32) * p1)] hf vs_99 (fun hl r3 hr3 => c_X11_copyPage hl F (p0 + 3) 121 (0 : Int32) (p0 + 6) 242 ((121 : Int32) * p1) (K_X11_now_k hk_p0) (K_X11_kept_k hk_p0) M2 r3 hr3) rfl rfl (Nat.le_of_ble_eq_true rfl) dX11_save_44 (zrm_ok rfl) (fun r3 hr3 hf => ?_)
    refine r_aload_n C0 dX11_save_47 rfl 0 rfl ?_
    refine r_getR C0 (C := RX11) (T := TX11) cl_X11 (K_X11_o hk_p0) (k := 5) (by decide) qw_448 rfl (K_X11_now_r hk_p0) dX11_save_48 ?_
    refine r_iconst (v := 3) C0 dX11_save_51 (by decide) ?_
    refine r_iald' (j := 3) C0 (K_X11_now_k hk_p0) rfl rfl dX11_save_52 ?_
    obtain rfl := Option.some.inj hf
    exact r_iret C0 dX11_save_53
  · refine r_iconst (v := 0) C0 dX11_save_22 (by decide) ?_
    obtain rfl := Option.some.inj hf
    exact r_iret C0 dX11_save_23
set_option maxHeartbeats 4000000 in
set_option maxRecDepth 100000 in
theorem c_X11_save {l : Launch} {E : zEn} {S : zSk} {X : zMl} (hl : l.stackTraces = false) (F : Nat) (p0 : Nat) (p1 : Int32) (hk_p0 : K_X11 S p0) (M : zMi) (r : Int32 × zMi) (hf : f_X11_save F p0 p1 M = some r) : zM l E yX11_save cX11_save 2 (Option.some Jvm.ClassFile.FieldType.int) { frames := 1, cells := 0, slots := 0, locals := 25 } 0 0 [.ref p0, .int p1] S ZT M X S ZT (some (.int r.1)) r.2 X := by
  refine zM.intro (L0 := [(0, .ref p0), (1, .int p1)]) hl (by decide) (Nat.le_of_ble_eq_true rfl) rfl (fun Γ C0 _ => ?_)
  unfold f_X11_save at hf
  refine r_aload_n C0 dX11_save_0 rfl 0 rfl ?_
  refine r_iload_n C0 dX11_save_1 rfl 1 rfl ?_
  refine r_i2l C0 dX11_save_2 ?_
  refine r_lconst (v := 0) C0 dX11_save_3 (by decide) ?_
  refine r_lconst (v := 1) C0 dX11_save_4 (by decide) ?_
  refine r_callSi C0 (st := [.ref p0]) [.long ((p1).toInt64), .long (0 : Int64), .long (1 : Int64)] hf vs_74 (fun hl r1 hr1 => c_X11_in hl F ((p1).toInt64) (0 : Int64) (1 : Int64) M r1 hr1) rfl rfl (Nat.le_of_ble_eq_true rfl) dX11_save_5 (zrm_ok rfl) (fun r1 hr1 hf => ?_)
  refine r_if_eq C0 15 dX11_save_8 (by decide) hf (fun hf => ?_) (fun hf => ?_)
  · refine r_iconst (v := 1) C0 dX11_save_15 (by decide) ?_
    refine r_sub (L' := [(0, .ref p0), (1, .int p1)]) [0, 1] rfl ?_
    exact g_X11_save_16 C0 F p0 p1 hk_p0 (1 : Int32) M _  hf
  · refine r_iconst (v := 0) C0 dX11_save_11 (by decide) ?_
    refine r_goto C0 16 dX11_save_12 (by decide) ?_
    refine r_sub (L' := [(0, .ref p0), (1, .int p1)]) [0, 1] rfl ?_
    exact g_X11_save_16 C0 F p0 p1 hk_p0 (0 : Int32) M _  hf
set_option maxHeartbeats 4000000 in
set_option maxRecDepth 100000 in
theorem g_X11_restore_29 {Γ : zCx} {E : zEn} {S : zSk} {X : zMl} (C0 : zCt Γ E RX11 cX11_restore 2 (Option.some Jvm.ClassFile.FieldType.int) [] { frames := 1, cells := 0, slots := 0, locals := 25 }) (F : Nat) (p0 : Nat) (p1 : Int32) (hk_p0 : K_X11 S p0) (s0 : Int32) (M : zMi) (r : Int32 × zMi)  (hf : f_X11_restore_29 F p0 p1 s0 M = some r) : zG Γ (zQ Γ E 0 0 S ZT (some (.int r.1)) r.2 X) E 2 0 0 S ZT M X 29 [(0, .ref p0), (1, .int p1)] [.int s0, .ref p0] := by
  unfold f_X11_restore_29 at hf
  refine r_callVim C0 (st := []) [.int s0] p0 hf vs_93 (fun hl r1 hr1 => c_X11_refused hl F p0 s0 hk_p0 M r1 hr1) (K_X11_o hk_p0) rfl rfl rfl rfl (Nat.le_of_ble_eq_true rfl) dX11_restore_29 (zrm_ok rfl) (fun r1 hr1 hf => ?_)
  refine r_if_eq C0 37 dX11_restore_32 (by decide) hf (fun hf => ?_) (fun hf => ?_)
  · refine r_aload_n C0 dX11_restore_37 rfl 0 rfl ?_
    refine r_getR C0 (C := RX11) (T := TX11) cl_X11 (K_X11_o hk_p0) (k := 9) (by decide) qw_512 rfl (K_X11_kept_r hk_p0) dX11_restore_38 ?_
    refine r_bipush (v := 121) C0 dX11_restore_41 (by decide) ?_
    refine r_iload_n C0 dX11_restore_43 rfl 1 rfl ?_
    refine r_imul C0 dX11_restore_44 ?_
    refine r_aload_n C0 dX11_restore_45 rfl 0 rfl ?_
    refine r_getR C0 (C := RX11) (T := TX11) cl_X11 (K_X11_o hk_p0) (k := 5) (by decide) qw_448 rfl (K_X11_now_r hk_p0) dX11_restore_46 ?_
    refine r_iconst (v := 0) C0 dX11_restore_49 (by decide) ?_
    refine r_callSm C0 (st := []) [.ref (p0 + 6), .int ((121 : Int32) * p1), .ref (p0 + 3), .int (0 : Int32)] hf vs_99 (fun hl r2 hr2 => c_X11_copyPage hl F (p0 + 6) 242 ((121 : Int32) * p1) (p0 + 3) 121 (0 : Int32) (K_X11_kept_k hk_p0) (K_X11_now_k hk_p0) r1.2 r2 hr2) rfl rfl (Nat.le_of_ble_eq_true rfl) dX11_restore_50 (zrm_ok rfl) (fun r2 hr2 hf => ?_)
    refine r_aload_n C0 dX11_restore_53 rfl 0 rfl ?_
    refine r_iconst (v := 0) C0 dX11_restore_54 (by decide) ?_
    refine r_putI C0 (C := RX11) (T := TX11) cl_X11 (K_X11_o hk_p0) (k := 8) (by decide) qw_452 rfl rfl rfl rfl hf dX11_restore_55 (fun M3 hf => ?_)
    refine r_aload_n C0 dX11_restore_58 rfl 0 rfl ?_
    refine r_getR C0 (C := RX11) (T := TX11) cl_X11 (K_X11_o hk_p0) (k := 5) (by decide) qw_448 rfl (K_X11_now_r hk_p0) dX11_restore_59 ?_
    refine r_iconst (v := 3) C0 dX11_restore_62 (by decide) ?_
    refine r_iald' (j := 3) C0 (K_X11_now_k hk_p0) rfl rfl dX11_restore_63 ?_
    obtain rfl := Option.some.inj hf
    exact r_iret C0 dX11_restore_64
  · refine r_iconst (v := 0) C0 dX11_restore_35 (by decide) ?_
    obtain rfl := Option.some.inj hf
    exact r_iret C0 dX11_restore_36
set_option maxHeartbeats 4000000 in
set_option maxRecDepth 100000 in
theorem c_X11_restore {l : Launch} {E : zEn} {S : zSk} {X : zMl} (hl : l.stackTraces = false) (F : Nat) (p0 : Nat) (p1 : Int32) (hk_p0 : K_X11 S p0) (M : zMi) (r : Int32 × zMi) (hf : f_X11_restore F p0 p1 M = some r) : zM l E yX11_restore cX11_restore 2 (Option.some Jvm.ClassFile.FieldType.int) { frames := 1, cells := 0, slots := 0, locals := 25 } 0 0 [.ref p0, .int p1] S ZT M X S ZT (some (.int r.1)) r.2 X := by
  refine zM.intro (L0 := [(0, .ref p0), (1, .int p1)]) hl (by decide) (Nat.le_of_ble_eq_true rfl) rfl (fun Γ C0 _ => ?_)
  unfold f_X11_restore at hf
  refine r_aload_n C0 dX11_restore_0 rfl 0 rfl ?_
  refine r_iload_n C0 dX11_restore_1 rfl 1 rfl ?_
  refine r_i2l C0 dX11_restore_2 ?_
  refine r_lconst (v := 0) C0 dX11_restore_3 (by decide) ?_
  refine r_lconst (v := 1) C0 dX11_restore_4 (by decide) ?_
  refine r_callSi C0 (st := [.ref p0]) [.long ((p1).toInt64), .long (0 : Int64), .long (1 : Int64)] hf vs_74 (fun hl r1 hr1 => c_X11_in hl F ((p1).toInt64) (0 : Int64) (1 : Int64) M r1 hr1) rfl rfl (Nat.le_of_ble_eq_true rfl) dX11_restore_5 (zrm_ok rfl) (fun r1 hr1 hf => ?_)
  refine r_if_ne C0 15 dX11_restore_8 (by decide) hf (fun hf => ?_) (fun hf => ?_)
  · refine r_aload_n C0 dX11_restore_15 rfl 0 rfl ?_
    refine r_getR C0 (C := RX11) (T := TX11) cl_X11 (K_X11_o hk_p0) (k := 10) (by decide) qw_453 rfl (K_X11_isKept_r hk_p0) dX11_restore_16 ?_
    refine r_iload_n C0 dX11_restore_19 rfl 1 rfl ?_
    refine r_zald C0 (K_X11_isKept_k hk_p0) hf dX11_restore_20 (fun hf => ?_)
    refine r_if_ne C0 28 dX11_restore_21 (by decide) hf (fun hf => ?_) (fun hf => ?_)
    · refine r_iconst (v := 0) C0 dX11_restore_28 (by decide) ?_
      refine r_sub (L' := [(0, .ref p0), (1, .int p1)]) [0, 1] rfl ?_
      exact g_X11_restore_29 C0 F p0 p1 hk_p0 (0 : Int32) M _  hf
    · refine r_iconst (v := 2) C0 dX11_restore_24 (by decide) ?_
      refine r_goto C0 29 dX11_restore_25 (by decide) ?_
      refine r_sub (L' := [(0, .ref p0), (1, .int p1)]) [0, 1] rfl ?_
      exact g_X11_restore_29 C0 F p0 p1 hk_p0 (2 : Int32) M _  hf
  · refine r_iconst (v := 1) C0 dX11_restore_11 (by decide) ?_
    refine r_goto C0 29 dX11_restore_12 (by decide) ?_
    refine r_sub (L' := [(0, .ref p0), (1, .int p1)]) [0, 1] rfl ?_
    exact g_X11_restore_29 C0 F p0 p1 hk_p0 (1 : Int32) M _  hf
