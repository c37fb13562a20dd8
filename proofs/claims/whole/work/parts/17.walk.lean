set_option maxHeartbeats 4000000 in
set_option maxRecDepth 100000 in
theorem g_X11_put_61 {Γ : zCx} {E : zEn} {S : zSk} {X : zMl} {Z : Nat → Prop} (C0 : zCt Γ E RX11 cX11_put 9 (Option.some Jvm.ClassFile.FieldType.boolean) [] { frames := 1, cells := 0, slots := 0, locals := 25 }) (F : Nat) (p0 : Nat) (p1 : Int32) (p2 : Int32) (p3 : Int32) (p4 : Int32) (k_28 : Int32 → Int32 → zMi → Option (Int32 × zMi)) (hk_p0 : K_X11 S p0) (hk_k_28 : ∀ (v5_ : Int32) (v6_ : Int32) (M : zMi) (r : Int32 × zMi), k_28 v5_ v6_ M = some r → zG Γ (zQ Γ E 0 0 S Z (some (.int r.1)) r.2 X) E 9 0 0 S Z M X 28 [(0, .ref p0), (1, .int p1), (3, .int p3), (4, .int p4), (5, .int v5_), (6, .int v6_)] []) (v5 : Int32) (v6 : Int32) (s0 : Int32) (M : zMi) (r : Int32 × zMi)  (hf : f_X11_put_61 F p0 p1 p2 p3 p4 k_28 v5 v6 s0 M = some r) : zG Γ (zQ Γ E 0 0 S Z (some (.int r.1)) r.2 X) E 9 0 0 S Z M X 61 [(0, .ref p0), (1, .int p1), (3, .int p3), (4, .int p4), (5, .int v5), (6, .int v6)] [.int s0] := by
  unfold f_X11_put_61 at hf
  refine r_istore (L' := [(7, .int s0), (0, .ref p0), (1, .int p1), (3, .int p3), (4, .int p4), (5, .int v5), (6, .int v6)]) C0 dX11_put_61 (by decide) rfl ?_
  refine r_iload C0 dX11_put_63 6 rfl ?_
  refine r_iload C0 dX11_put_65 0 rfl ?_
  refine r_iload C0 dX11_put_67 5 rfl ?_
  refine r_imul C0 dX11_put_69 ?_
  refine r_iadd C0 dX11_put_70 ?_
  refine r_nm hf (fun x1 hf => ?_)
  refine r_istore (L' := [(8, .int x1), (7, .int s0), (0, .ref p0), (1, .int p1), (3, .int p3), (4, .int p4), (5, .int v5), (6, .int v6)]) C0 dX11_put_71 (by decide) rfl ?_
  refine r_iload C0 dX11_put_73 1 rfl ?_
  refine r_i2l C0 dX11_put_75 ?_
  refine r_lconst (v := 0) C0 dX11_put_76 (by decide) ?_
  refine r_ldc2 (v := 9) C0 qw_556 dX11_put_77 ?_
  refine r_callSi C0 (st := []) [.long ((s0).toInt64), .long (0 : Int64), .long (9 : Int64)] hf vs_112 (fun hl r2 hr2 => c_X11_in hl F ((s0).toInt64) (0 : Int64) (9 : Int64) M r2 hr2) rfl rfl (Nat.le_of_ble_eq_true rfl) dX11_put_80 (zrm_ok rfl) (fun r2 hr2 hf => ?_)
  refine r_if_eq C0 104 dX11_put_83 (by decide) hf (fun hf => ?_) (fun hf => ?_)
  · refine r_iconst (v := 0) C0 dX11_put_104 (by decide) ?_
    obtain rfl := Option.some.inj hf
    exact r_zret C0 rfl dX11_put_105
  · refine r_iload C0 dX11_put_86 0 rfl ?_
    refine r_iload C0 dX11_put_88 5 rfl ?_
    refine r_icmp_gt C0 104 dX11_put_90 (by decide) hf (fun hf => ?_) (fun hf => ?_)
    · refine r_iconst (v := 0) C0 dX11_put_104 (by decide) ?_
      obtain rfl := Option.some.inj hf
      exact r_zret C0 rfl dX11_put_105
    · refine r_iload C0 dX11_put_93 0 rfl ?_
      refine r_iload C0 dX11_put_95 6 rfl ?_
      refine r_iadd C0 dX11_put_97 ?_
      refine r_iconst (v := 1) C0 dX11_put_98 (by decide) ?_
      refine r_isub C0 dX11_put_99 ?_
      refine r_iload_n C0 dX11_put_100 rfl 4 rfl ?_
      refine r_icmp_ge C0 106 dX11_put_101 (by decide) hf (fun hf => ?_) (fun hf => ?_)
      · refine r_iload C0 dX11_put_106 0 rfl ?_
        refine r_istore (L' := [(6, .int x1), (8, .int x1), (7, .int s0), (0, .ref p0), (1, .int p1), (3, .int p3), (4, .int p4), (5, .int v5)]) C0 dX11_put_108 (by decide) rfl ?_
        refine r_iload C0 dX11_put_110 7 rfl ?_
        refine r_bipush (v := 10) C0 dX11_put_112 (by decide) ?_
        refine r_idiv' C0 dX11_put_114 (by decide) ?_
        refine r_nm hf (fun x3 hf => ?_)
        refine r_istore (L' := [(5, .int x3), (6, .int x1), (8, .int x1), (7, .int s0), (0, .ref p0), (1, .int p1), (3, .int p3), (4, .int p4)]) C0 dX11_put_115 (by decide) rfl ?_
        refine r_aload_n C0 dX11_put_117 rfl 4 rfl ?_
        refine r_dup C0 dX11_put_118 rfl ?_
        refine r_getI C0 (C := RX11) (T := TX11) cl_X11 (K_X11_o hk_p0) (k := 3) (by decide) qw_555 rfl dX11_put_119 ?_
        refine r_iconst (v := 1) C0 dX11_put_122 (by decide) ?_
        refine r_iadd C0 dX11_put_123 ?_
        refine r_putI C0 (C := RX11) (T := TX11) cl_X11 (K_X11_o hk_p0) (k := 3) (by decide) qw_555 rfl rfl rfl rfl hf dX11_put_124 (fun M4 hf => ?_)
        refine r_goto C0 28 dX11_put_127 (by decide) ?_
        refine r_sub (L' := [(0, .ref p0), (1, .int p1), (3, .int p3), (4, .int p4), (5, .int x3), (6, .int x1)]) [4, 5, 6, 7, 0, 1] rfl ?_
        exact hk_k_28 x3 x1 M4 _  hf
      · refine r_iconst (v := 0) C0 dX11_put_104 (by decide) ?_
        obtain rfl := Option.some.inj hf
        exact r_zret C0 rfl dX11_put_105
set_option maxHeartbeats 4000000 in
set_option maxRecDepth 100000 in
theorem g_X11_put_28 {Γ : zCx} {E : zEn} {S : zSk} {X : zMl} {Z : Nat → Prop} (C0 : zCt Γ E RX11 cX11_put 9 (Option.some Jvm.ClassFile.FieldType.boolean) [] { frames := 1, cells := 0, slots := 0, locals := 25 }) (F : Nat) (p0 : Nat) (p1 : Int32) (p2 : Int32) (p3 : Int32) (p4 : Int32) (hk_p0 : K_X11 S p0) : ∀ (n : Nat) (v5 : Int32) (v6 : Int32) (M : zMi) (r : Int32 × zMi) , f_X11_put_28 F p0 p1 p2 p3 p4 n v5 v6 M = some r → zG Γ (zQ Γ E 0 0 S Z (some (.int r.1)) r.2 X) E 9 0 0 S Z M X 28 [(0, .ref p0), (1, .int p1), (3, .int p3), (4, .int p4), (5, .int v5), (6, .int v6)] [] := by
  intro n
  induction n with
  | zero => intro v5 v6 M r; intro hf; cases hf
  | succ n ih =>
    intro v5 v6 M r hf
    refine r_iload C0 dX11_put_28 4 rfl ?_
    refine r_if_le C0 130 dX11_put_30 (by decide) hf (fun hf => ?_) (fun hf => ?_)
    · refine r_aload_n C0 dX11_put_130 rfl 0 rfl ?_
      refine r_getR C0 (C := RX11) (T := TX11) cl_X11 (K_X11_o hk_p0) (k := 4) (by decide) qw_557 rfl (K_X11_read_r hk_p0) dX11_put_131 ?_
      refine r_iload_n C0 dX11_put_134 rfl 1 rfl ?_
      refine r_iload C0 dX11_put_135 5 rfl ?_
      refine r_iast C0 (K_X11_read_k hk_p0) hf dX11_put_137 (fun M1 hf => ?_)
      refine r_iconst (v := 1) C0 dX11_put_138 (by decide) ?_
      obtain rfl := Option.some.inj hf
      exact r_zret C0 rfl dX11_put_139
    · refine r_aload_n C0 dX11_put_33 rfl 0 rfl ?_
      refine r_getI C0 (C := RX11) (T := TX11) cl_X11 (K_X11_o hk_p0) (k := 3) (by decide) qw_555 rfl dX11_put_34 ?_
      refine r_aload_n C0 dX11_put_37 rfl 0 rfl ?_
      refine r_getI C0 (C := RX11) (T := TX11) cl_X11 (K_X11_o hk_p0) (k := 2) (by decide) qw_553 rfl dX11_put_38 ?_
      refine r_icmp_ge C0 59 dX11_put_41 (by decide) hf (fun hf => ?_) (fun hf => ?_)
      · refine r_bipush (v := -9) C0 dX11_put_59 (by decide) ?_
        refine r_sub (L' := [(0, .ref p0), (1, .int p1), (3, .int p3), (4, .int p4), (5, .int v5), (6, .int v6)]) [0, 1, 2, 3, 4, 5] rfl ?_
        exact g_X11_put_61 C0 F p0 p1 p2 p3 p4 (f_X11_put_28 F p0 p1 p2 p3 p4 n) hk_p0 ih v5 v6 (-9 : Int32) M _  hf
      · refine r_aload_n C0 dX11_put_44 rfl 0 rfl ?_
        refine r_getR C0 (C := RX11) (T := TX11) cl_X11 (K_X11_o hk_p0) (k := 1) (by decide) qw_552 rfl (K_X11_text_r hk_p0) dX11_put_45 ?_
        refine r_aload_n C0 dX11_put_48 rfl 0 rfl ?_
        refine r_getI C0 (C := RX11) (T := TX11) cl_X11 (K_X11_o hk_p0) (k := 3) (by decide) qw_555 rfl dX11_put_49 ?_
        refine r_iald C0 (K_X11_text_k hk_p0) hf dX11_put_52 (fun hf => ?_)
        refine r_bipush (v := 48) C0 dX11_put_53 (by decide) ?_
        refine r_isub C0 dX11_put_55 ?_
        refine r_goto C0 61 dX11_put_56 (by decide) ?_
        refine r_sub (L' := [(0, .ref p0), (1, .int p1), (3, .int p3), (4, .int p4), (5, .int v5), (6, .int v6)]) [0, 1, 2, 3, 4, 5] rfl ?_
        exact g_X11_put_61 C0 F p0 p1 p2 p3 p4 (f_X11_put_28 F p0 p1 p2 p3 p4 n) hk_p0 ih v5 v6 ((M (p0 + 1) (ix (M p0 3))) - (48 : Int32)) M _  hf
set_option maxHeartbeats 4000000 in
set_option maxRecDepth 100000 in
theorem g_X11_put_6 {Γ : zCx} {E : zEn} {S : zSk} {X : zMl} {Z : Nat → Prop} (C0 : zCt Γ E RX11 cX11_put 9 (Option.some Jvm.ClassFile.FieldType.boolean) [] { frames := 1, cells := 0, slots := 0, locals := 25 }) (F : Nat) (p0 : Nat) (p1 : Int32) (p2 : Int32) (p3 : Int32) (p4 : Int32) (hk_p0 : K_X11 S p0) : ∀ (n : Nat) (v5 : Int32) (v6 : Int32) (M : zMi) (r : Int32 × zMi) , f_X11_put_6 F p0 p1 p2 p3 p4 n v5 v6 M = some r → zG Γ (zQ Γ E 0 0 S Z (some (.int r.1)) r.2 X) E 9 0 0 S Z M X 6 [(0, .ref p0), (1, .int p1), (2, .int p2), (3, .int p3), (4, .int p4), (5, .int v5), (6, .int v6)] [] := by
  intro n
  induction n with
  | zero => intro v5 v6 M r; intro hf; cases hf
  | succ n ih =>
    intro v5 v6 M r hf
    refine r_iload C0 dX11_put_6 6 rfl ?_
    refine r_iload_n C0 dX11_put_8 rfl 2 rfl ?_
    refine r_icmp_ge C0 25 dX11_put_9 (by decide) hf (fun hf => ?_) (fun hf => ?_)
    · refine r_iconst (v := 0) C0 dX11_put_25 (by decide) ?_
      refine r_istore (L' := [(6, .int (0 : Int32)), (0, .ref p0), (1, .int p1), (2, .int p2), (3, .int p3), (4, .int p4), (5, .int v5)]) C0 dX11_put_26 (by decide) rfl ?_
      refine r_sub (L' := [(0, .ref p0), (1, .int p1), (3, .int p3), (4, .int p4), (5, .int v5), (6, .int (0 : Int32))]) [1, 2, 4, 5, 6, 0] rfl ?_
      exact g_X11_put_28 C0 F p0 p1 p2 p3 p4 hk_p0 F v5 (0 : Int32) M _  hf
    · refine r_iload C0 dX11_put_12 5 rfl ?_
      refine r_bipush (v := 10) C0 dX11_put_14 (by decide) ?_
      refine r_imul C0 dX11_put_16 ?_
      refine r_nm hf (fun x1 hf => ?_)
      refine r_istore (L' := [(5, .int x1), (0, .ref p0), (1, .int p1), (2, .int p2), (3, .int p3), (4, .int p4), (6, .int v6)]) C0 dX11_put_17 (by decide) rfl ?_
      refine r_iinc (j := 6) (v := (v6 + (1 : Int32))) (L' := [(6, .int (v6 + (1 : Int32))), (5, .int x1), (0, .ref p0), (1, .int p1), (2, .int p2), (3, .int p3), (4, .int p4)]) C0 dX11_put_19 rfl rfl (by decide) rfl ?_
      refine r_goto C0 6 dX11_put_22 (by decide) ?_
      refine r_sub (L' := [(0, .ref p0), (1, .int p1), (2, .int p2), (3, .int p3), (4, .int p4), (5, .int x1), (6, .int (v6 + (1 : Int32)))]) [2, 3, 4, 5, 6, 1, 0] rfl ?_
      exact ih x1 (v6 + (1 : Int32)) M _  hf
set_option maxHeartbeats 4000000 in
set_option maxRecDepth 100000 in
theorem c_X11_put {l : Launch} {E : zEn} {S : zSk} {X : zMl} {Z : Nat → Prop} (hl : l.stackTraces = false) (F : Nat) (p0 : Nat) (p1 : Int32) (p2 : Int32) (p3 : Int32) (p4 : Int32) (hk_p0 : K_X11 S p0) (M : zMi) (r : Int32 × zMi) (hf : f_X11_put F p0 p1 p2 p3 p4 M = some r) : zM l E yX11_put cX11_put 9 (Option.some Jvm.ClassFile.FieldType.boolean) { frames := 1, cells := 0, slots := 0, locals := 25 } 0 0 [.ref p0, .int p1, .int p2, .int p3, .int p4] S Z M X S Z (some (.int r.1)) r.2 X := by
  refine zM.intro (L0 := [(0, .ref p0), (1, .int p1), (2, .int p2), (3, .int p3), (4, .int p4)]) hl (by decide) (Nat.le_of_ble_eq_true rfl) rfl (fun Γ C0 _ => ?_)
  unfold f_X11_put at hf
  refine r_iconst (v := 1) C0 dX11_put_0 (by decide) ?_
  refine r_istore (L' := [(5, .int (1 : Int32)), (0, .ref p0), (1, .int p1), (2, .int p2), (3, .int p3), (4, .int p4)]) C0 dX11_put_1 (by decide) rfl ?_
  refine r_iconst (v := 1) C0 dX11_put_3 (by decide) ?_
  refine r_istore (L' := [(6, .int (1 : Int32)), (5, .int (1 : Int32)), (0, .ref p0), (1, .int p1), (2, .int p2), (3, .int p3), (4, .int p4)]) C0 dX11_put_4 (by decide) rfl ?_
  refine r_sub (L' := [(0, .ref p0), (1, .int p1), (2, .int p2), (3, .int p3), (4, .int p4), (5, .int (1 : Int32)), (6, .int (1 : Int32))]) [2, 3, 4, 5, 6, 1, 0] rfl ?_
  exact g_X11_put_6 C0 F p0 p1 p2 p3 p4 hk_p0 F (1 : Int32) (1 : Int32) M _  hf
set_option maxHeartbeats 4000000 in
set_option maxRecDepth 100000 in
theorem c_X11_readZone {l : Launch} {E : zEn} {S : zSk} {X : zMl} {Z : Nat → Prop} (hl : l.stackTraces = false) (F : Nat) (p0 : Nat) (hk_p0 : K_X11 S p0) (M : zMi) (r : Int32 × zMi) (hf : f_X11_readZone F p0 M = some r) : zM l E yX11_readZone cX11_readZone 2 (Option.some Jvm.ClassFile.FieldType.boolean) { frames := 2, cells := 0, slots := 0, locals := 53 } 0 0 [.ref p0] S Z M X S Z (some (.int r.1)) r.2 X := by
  refine zM.intro (L0 := [(0, .ref p0)]) hl (by decide) (Nat.le_of_ble_eq_true rfl) rfl (fun Γ C0 _ => ?_)
  unfold f_X11_readZone at hf
  refine r_aload_n C0 dX11_readZone_0 rfl 0 rfl ?_
  refine r_getR C0 (C := RX11) (T := TX11) cl_X11 (K_X11_o hk_p0) (k := 4) (by decide) qw_557 rfl (K_X11_read_r hk_p0) dX11_readZone_1 ?_
  refine r_iconst (v := 4) C0 dX11_readZone_4 (by decide) ?_
  refine r_iald' (j := 4) C0 (K_X11_read_k hk_p0) rfl rfl dX11_readZone_5 ?_
  refine r_callSi C0 (st := []) [.int (M (p0 + 2) 4)] hf vs_113 (fun hl r1 hr1 => c_X11_zoneAt hl F (M (p0 + 2) 4) M r1 hr1) rfl rfl (Nat.le_of_ble_eq_true rfl) dX11_readZone_6 (zrm_ok rfl) (fun r1 hr1 hf => ?_)
  refine r_istore_n (L' := [(1, .int r1), (0, .ref p0)]) C0 dX11_readZone_9 rfl (by decide) rfl ?_
  refine r_aload_n C0 dX11_readZone_10 rfl 1 rfl ?_
  refine r_iload_n C0 dX11_readZone_11 rfl 0 rfl ?_
  refine r_iconst (v := 2) C0 dX11_readZone_12 (by decide) ?_
  refine r_iconst (v := 1) C0 dX11_readZone_13 (by decide) ?_
  refine r_bipush (v := 99) C0 dX11_readZone_14 (by decide) ?_
  refine r_callVim C0 (st := []) [.int r1, .int (2 : Int32), .int (1 : Int32), .int (99 : Int32)] p0 hf vs_132 (fun hl r2 hr2 => c_X11_put hl F p0 r1 (2 : Int32) (1 : Int32) (99 : Int32) hk_p0 M r2 hr2) (K_X11_o hk_p0) rfl rfl rfl rfl (Nat.le_of_ble_eq_true rfl) dX11_readZone_16 (zrm_ok rfl) (fun r2 hr2 hf => ?_)
  refine r_if_eq C0 71 dX11_readZone_19 (by decide) hf (fun hf => ?_) (fun hf => ?_)
  · refine r_iconst (v := 0) C0 dX11_readZone_71 (by decide) ?_
    obtain rfl := Option.some.inj hf
    exact r_zret C0 rfl dX11_readZone_72
  · refine r_aload_n C0 dX11_readZone_22 rfl 1 rfl ?_
    refine r_iload_n C0 dX11_readZone_23 rfl 0 rfl ?_
    refine r_iconst (v := 1) C0 dX11_readZone_24 (by decide) ?_
    refine r_iadd C0 dX11_readZone_25 ?_
    refine r_iconst (v := 2) C0 dX11_readZone_26 (by decide) ?_
    refine r_iconst (v := 0) C0 dX11_readZone_27 (by decide) ?_
    refine r_bipush (v := 99) C0 dX11_readZone_28 (by decide) ?_
    refine r_callVim C0 (st := []) [.int (r1 + (1 : Int32)), .int (2 : Int32), .int (0 : Int32), .int (99 : Int32)] p0 hf vs_132 (fun hl r3 hr3 => c_X11_put hl F p0 (r1 + (1 : Int32)) (2 : Int32) (0 : Int32) (99 : Int32) hk_p0 r2.2 r3 hr3) (K_X11_o hk_p0) rfl rfl rfl rfl (Nat.le_of_ble_eq_true rfl) dX11_readZone_30 (zrm_ok rfl) (fun r3 hr3 hf => ?_)
    refine r_if_eq C0 71 dX11_readZone_33 (by decide) hf (fun hf => ?_) (fun hf => ?_)
    · refine r_iconst (v := 0) C0 dX11_readZone_71 (by decide) ?_
      obtain rfl := Option.some.inj hf
      exact r_zret C0 rfl dX11_readZone_72
    · refine r_aload_n C0 dX11_readZone_36 rfl 1 rfl ?_
      refine r_iload_n C0 dX11_readZone_37 rfl 0 rfl ?_
      refine r_iconst (v := 2) C0 dX11_readZone_38 (by decide) ?_
      refine r_iadd C0 dX11_readZone_39 ?_
      refine r_iconst (v := 2) C0 dX11_readZone_40 (by decide) ?_
      refine r_aload_n C0 dX11_readZone_41 rfl 1 rfl ?_
      refine r_getR C0 (C := RX11) (T := TX11) cl_X11 (K_X11_o hk_p0) (k := 4) (by decide) qw_557 rfl (K_X11_read_r hk_p0) dX11_readZone_42 ?_
      refine r_iload_n C0 dX11_readZone_45 rfl 0 rfl ?_
      refine r_iconst (v := 1) C0 dX11_readZone_46 (by decide) ?_
      refine r_iadd C0 dX11_readZone_47 ?_
      refine r_iald C0 (K_X11_read_k hk_p0) hf dX11_readZone_48 (fun hf => ?_)
      refine r_bipush (v := 99) C0 dX11_readZone_49 (by decide) ?_
      refine r_callVim C0 (st := []) [.int (r1 + (2 : Int32)), .int (2 : Int32), .int (r3.2 (p0 + 2) (ix (r1 + (1 : Int32)))), .int (99 : Int32)] p0 hf vs_132 (fun hl r4 hr4 => c_X11_put hl F p0 (r1 + (2 : Int32)) (2 : Int32) (r3.2 (p0 + 2) (ix (r1 + (1 : Int32)))) (99 : Int32) hk_p0 r3.2 r4 hr4) (K_X11_o hk_p0) rfl rfl rfl rfl (Nat.le_of_ble_eq_true rfl) dX11_readZone_51 (zrm_ok rfl) (fun r4 hr4 hf => ?_)
      refine r_if_eq C0 71 dX11_readZone_54 (by decide) hf (fun hf => ?_) (fun hf => ?_)
      · refine r_iconst (v := 0) C0 dX11_readZone_71 (by decide) ?_
        obtain rfl := Option.some.inj hf
        exact r_zret C0 rfl dX11_readZone_72
      · refine r_aload_n C0 dX11_readZone_57 rfl 1 rfl ?_
        refine r_iload_n C0 dX11_readZone_58 rfl 0 rfl ?_
        refine r_iconst (v := 3) C0 dX11_readZone_59 (by decide) ?_
        refine r_iadd C0 dX11_readZone_60 ?_
        refine r_iconst (v := 1) C0 dX11_readZone_61 (by decide) ?_
        refine r_iconst (v := 0) C0 dX11_readZone_62 (by decide) ?_
        refine r_bipush (v := 9) C0 dX11_readZone_63 (by decide) ?_
        refine r_callVim C0 (st := []) [.int (r1 + (3 : Int32)), .int (1 : Int32), .int (0 : Int32), .int (9 : Int32)] p0 hf vs_132 (fun hl r5 hr5 => c_X11_put hl F p0 (r1 + (3 : Int32)) (1 : Int32) (0 : Int32) (9 : Int32) hk_p0 r4.2 r5 hr5) (K_X11_o hk_p0) rfl rfl rfl rfl (Nat.le_of_ble_eq_true rfl) dX11_readZone_65 (zrm_ok rfl) (fun r5 hr5 hf => ?_)
        refine r_if_ne C0 73 dX11_readZone_68 (by decide) hf (fun hf => ?_) (fun hf => ?_)
        · refine r_aload_n C0 dX11_readZone_73 rfl 1 rfl ?_
          refine r_getR C0 (C := RX11) (T := TX11) cl_X11 (K_X11_o hk_p0) (k := 4) (by decide) qw_557 rfl (K_X11_read_r hk_p0) dX11_readZone_74 ?_
          refine r_iconst (v := 4) C0 dX11_readZone_77 (by decide) ?_
          refine r_dup2 C0 dX11_readZone_78 rfl rfl ?_
          refine r_iald' (j := 4) C0 (K_X11_read_k hk_p0) rfl rfl dX11_readZone_79 ?_
          refine r_iconst (v := 1) C0 dX11_readZone_80 (by decide) ?_
          refine r_iadd C0 dX11_readZone_81 ?_
          refine r_iast' (j := 4) C0 (K_X11_read_k hk_p0) rfl rfl hf dX11_readZone_82 (fun M6 hf => ?_)
          refine r_iconst (v := 1) C0 dX11_readZone_83 (by decide) ?_
          obtain rfl := Option.some.inj hf
          exact r_zret C0 rfl dX11_readZone_84
        · refine r_iconst (v := 0) C0 dX11_readZone_71 (by decide) ?_
          obtain rfl := Option.some.inj hf
          exact r_zret C0 rfl dX11_readZone_72
set_option maxHeartbeats 4000000 in
set_option maxRecDepth 100000 in
theorem c_X11_readShip {l : Launch} {E : zEn} {S : zSk} {X : zMl} {Z : Nat → Prop} (hl : l.stackTraces = false) (F : Nat) (p0 : Nat) (hk_p0 : K_X11 S p0) (M : zMi) (r : Int32 × zMi) (hf : f_X11_readShip F p0 M = some r) : zM l E yX11_readShip cX11_readShip 2 (Option.some Jvm.ClassFile.FieldType.boolean) { frames := 2, cells := 0, slots := 0, locals := 53 } 0 0 [.ref p0] S Z M X S Z (some (.int r.1)) r.2 X := by
  refine zM.intro (L0 := [(0, .ref p0)]) hl (by decide) (Nat.le_of_ble_eq_true rfl) rfl (fun Γ C0 _ => ?_)
  unfold f_X11_readShip at hf
  refine r_aload_n C0 dX11_readShip_0 rfl 0 rfl ?_
  refine r_getR C0 (C := RX11) (T := TX11) cl_X11 (K_X11_o hk_p0) (k := 4) (by decide) qw_557 rfl (K_X11_read_r hk_p0) dX11_readShip_1 ?_
  refine r_iconst (v := 5) C0 dX11_readShip_4 (by decide) ?_
  refine r_iald' (j := 5) C0 (K_X11_read_k hk_p0) rfl rfl dX11_readShip_5 ?_
  refine r_callSi C0 (st := []) [.int (M (p0 + 2) 5)] hf vs_115 (fun hl r1 hr1 => c_X11_shipAt hl F (M (p0 + 2) 5) M r1 hr1) rfl rfl (Nat.le_of_ble_eq_true rfl) dX11_readShip_6 (zrm_ok rfl) (fun r1 hr1 hf => ?_)
  refine r_istore_n (L' := [(1, .int r1), (0, .ref p0)]) C0 dX11_readShip_9 rfl (by decide) rfl ?_
  refine r_aload_n C0 dX11_readShip_10 rfl 1 rfl ?_
  refine r_iload_n C0 dX11_readShip_11 rfl 0 rfl ?_
  refine r_iconst (v := 3) C0 dX11_readShip_12 (by decide) ?_
  refine r_bipush (v := 10) C0 dX11_readShip_13 (by decide) ?_
  refine r_sipush (v := 999) C0 dX11_readShip_15 (by decide) ?_
  refine r_callVim C0 (st := []) [.int r1, .int (3 : Int32), .int (10 : Int32), .int (999 : Int32)] p0 hf vs_132 (fun hl r2 hr2 => c_X11_put hl F p0 r1 (3 : Int32) (10 : Int32) (999 : Int32) hk_p0 M r2 hr2) (K_X11_o hk_p0) rfl rfl rfl rfl (Nat.le_of_ble_eq_true rfl) dX11_readShip_18 (zrm_ok rfl) (fun r2 hr2 hf => ?_)
  refine r_if_eq C0 66 dX11_readShip_21 (by decide) hf (fun hf => ?_) (fun hf => ?_)
  · refine r_iconst (v := 0) C0 dX11_readShip_66 (by decide) ?_
    obtain rfl := Option.some.inj hf
    exact r_zret C0 rfl dX11_readShip_67
  · refine r_aload_n C0 dX11_readShip_24 rfl 1 rfl ?_
    refine r_iload_n C0 dX11_readShip_25 rfl 0 rfl ?_
    refine r_iconst (v := 1) C0 dX11_readShip_26 (by decide) ?_
    refine r_iadd C0 dX11_readShip_27 ?_
    refine r_iconst (v := 2) C0 dX11_readShip_28 (by decide) ?_
    refine r_iconst (v := 1) C0 dX11_readShip_29 (by decide) ?_
    refine r_bipush (v := 20) C0 dX11_readShip_30 (by decide) ?_
    refine r_callVim C0 (st := []) [.int (r1 + (1 : Int32)), .int (2 : Int32), .int (1 : Int32), .int (20 : Int32)] p0 hf vs_132 (fun hl r3 hr3 => c_X11_put hl F p0 (r1 + (1 : Int32)) (2 : Int32) (1 : Int32) (20 : Int32) hk_p0 r2.2 r3 hr3) (K_X11_o hk_p0) rfl rfl rfl rfl (Nat.le_of_ble_eq_true rfl) dX11_readShip_32 (zrm_ok rfl) (fun r3 hr3 hf => ?_)
    refine r_if_eq C0 66 dX11_readShip_35 (by decide) hf (fun hf => ?_) (fun hf => ?_)
    · refine r_iconst (v := 0) C0 dX11_readShip_66 (by decide) ?_
      obtain rfl := Option.some.inj hf
      exact r_zret C0 rfl dX11_readShip_67
    · refine r_aload_n C0 dX11_readShip_38 rfl 1 rfl ?_
      refine r_iload_n C0 dX11_readShip_39 rfl 0 rfl ?_
      refine r_iconst (v := 2) C0 dX11_readShip_40 (by decide) ?_
      refine r_iadd C0 dX11_readShip_41 ?_
      refine r_iconst (v := 1) C0 dX11_readShip_42 (by decide) ?_
      refine r_iconst (v := 1) C0 dX11_readShip_43 (by decide) ?_
      refine r_bipush (v := 9) C0 dX11_readShip_44 (by decide) ?_
      refine r_callVim C0 (st := []) [.int (r1 + (2 : Int32)), .int (1 : Int32), .int (1 : Int32), .int (9 : Int32)] p0 hf vs_132 (fun hl r4 hr4 => c_X11_put hl F p0 (r1 + (2 : Int32)) (1 : Int32) (1 : Int32) (9 : Int32) hk_p0 r3.2 r4 hr4) (K_X11_o hk_p0) rfl rfl rfl rfl (Nat.le_of_ble_eq_true rfl) dX11_readShip_46 (zrm_ok rfl) (fun r4 hr4 hf => ?_)
      refine r_if_eq C0 66 dX11_readShip_49 (by decide) hf (fun hf => ?_) (fun hf => ?_)
      · refine r_iconst (v := 0) C0 dX11_readShip_66 (by decide) ?_
        obtain rfl := Option.some.inj hf
        exact r_zret C0 rfl dX11_readShip_67
      · refine r_aload_n C0 dX11_readShip_52 rfl 1 rfl ?_
        refine r_iload_n C0 dX11_readShip_53 rfl 0 rfl ?_
        refine r_iconst (v := 3) C0 dX11_readShip_54 (by decide) ?_
        refine r_iadd C0 dX11_readShip_55 ?_
        refine r_iconst (v := 2) C0 dX11_readShip_56 (by decide) ?_
        refine r_iconst (v := 1) C0 dX11_readShip_57 (by decide) ?_
        refine r_bipush (v := 99) C0 dX11_readShip_58 (by decide) ?_
        refine r_callVim C0 (st := []) [.int (r1 + (3 : Int32)), .int (2 : Int32), .int (1 : Int32), .int (99 : Int32)] p0 hf vs_132 (fun hl r5 hr5 => c_X11_put hl F p0 (r1 + (3 : Int32)) (2 : Int32) (1 : Int32) (99 : Int32) hk_p0 r4.2 r5 hr5) (K_X11_o hk_p0) rfl rfl rfl rfl (Nat.le_of_ble_eq_true rfl) dX11_readShip_60 (zrm_ok rfl) (fun r5 hr5 hf => ?_)
        refine r_if_ne C0 68 dX11_readShip_63 (by decide) hf (fun hf => ?_) (fun hf => ?_)
        · refine r_aload_n C0 dX11_readShip_68 rfl 1 rfl ?_
          refine r_getR C0 (C := RX11) (T := TX11) cl_X11 (K_X11_o hk_p0) (k := 4) (by decide) qw_557 rfl (K_X11_read_r hk_p0) dX11_readShip_69 ?_
          refine r_iconst (v := 5) C0 dX11_readShip_72 (by decide) ?_
          refine r_dup2 C0 dX11_readShip_73 rfl rfl ?_
          refine r_iald' (j := 5) C0 (K_X11_read_k hk_p0) rfl rfl dX11_readShip_74 ?_
          refine r_iconst (v := 1) C0 dX11_readShip_75 (by decide) ?_
          refine r_iadd C0 dX11_readShip_76 ?_
          refine r_iast' (j := 5) C0 (K_X11_read_k hk_p0) rfl rfl hf dX11_readShip_77 (fun M6 hf => ?_)
          refine r_iconst (v := 1) C0 dX11_readShip_78 (by decide) ?_
          obtain rfl := Option.some.inj hf
          exact r_zret C0 rfl dX11_readShip_79
        · refine r_iconst (v := 0) C0 dX11_readShip_66 (by decide) ?_
          obtain rfl := Option.some.inj hf
          exact r_zret C0 rfl dX11_readShip_67
set_option maxHeartbeats 4000000 in
set_option maxRecDepth 100000 in
theorem g_X11_readAll_205 {Γ : zCx} {E : zEn} {S : zSk} {X : zMl} {Z : Nat → Prop} (C0 : zCt Γ E RX11 cX11_readAll 2 (Option.some Jvm.ClassFile.FieldType.boolean) [] { frames := 3, cells := 0, slots := 0, locals := 74 }) (F : Nat) (p0 : Nat) (hk_p0 : K_X11 S p0)  (M : zMi) (r : Int32 × zMi)  (hf : f_X11_readAll_205 F p0  M = some r) : zG Γ (zQ Γ E 0 0 S Z (some (.int r.1)) r.2 X) E 2 0 0 S Z M X 205 [(0, .ref p0)] [] := by
  unfold f_X11_readAll_205 at hf
  refine r_aload_n C0 dX11_readAll_205 rfl 0 rfl ?_
  refine r_getR C0 (C := RX11) (T := TX11) cl_X11 (K_X11_o hk_p0) (k := 4) (by decide) qw_557 rfl (K_X11_read_r hk_p0) dX11_readAll_206 ?_
  refine r_bipush (v := 16) C0 dX11_readAll_209 (by decide) ?_
  refine r_aload_n C0 dX11_readAll_211 rfl 0 rfl ?_
  refine r_getR C0 (C := RX11) (T := TX11) cl_X11 (K_X11_o hk_p0) (k := 4) (by decide) qw_557 rfl (K_X11_read_r hk_p0) dX11_readAll_212 ?_
  refine r_iconst (v := 2) C0 dX11_readAll_215 (by decide) ?_
  refine r_iald' (j := 2) C0 (K_X11_read_k hk_p0) rfl rfl dX11_readAll_216 ?_
  refine r_iast' (j := 16) C0 (K_X11_read_k hk_p0) rfl rfl hf dX11_readAll_217 (fun M1 hf => ?_)
  refine r_aload_n C0 dX11_readAll_218 rfl 0 rfl ?_
  refine r_getR C0 (C := RX11) (T := TX11) cl_X11 (K_X11_o hk_p0) (k := 4) (by decide) qw_557 rfl (K_X11_read_r hk_p0) dX11_readAll_219 ?_
  refine r_bipush (v := 6) C0 dX11_readAll_222 (by decide) ?_
  refine r_iald' (j := 6) C0 (K_X11_read_k hk_p0) rfl rfl dX11_readAll_224 ?_
  refine r_if_le C0 243 dX11_readAll_225 (by decide) hf (fun hf => ?_) (fun hf => ?_)
  · refine r_iconst (v := 0) C0 dX11_readAll_243 (by decide) ?_
    obtain rfl := Option.some.inj hf
    exact r_zret C0 rfl dX11_readAll_244
  · refine r_aload_n C0 dX11_readAll_228 rfl 0 rfl ?_
    refine r_getI C0 (C := RX11) (T := TX11) cl_X11 (K_X11_o hk_p0) (k := 3) (by decide) qw_555 rfl dX11_readAll_229 ?_
    refine r_aload_n C0 dX11_readAll_232 rfl 0 rfl ?_
    refine r_getI C0 (C := RX11) (T := TX11) cl_X11 (K_X11_o hk_p0) (k := 2) (by decide) qw_553 rfl dX11_readAll_233 ?_
    refine r_icmp_ne C0 243 dX11_readAll_236 (by decide) hf (fun hf => ?_) (fun hf => ?_)
    · refine r_iconst (v := 0) C0 dX11_readAll_243 (by decide) ?_
      obtain rfl := Option.some.inj hf
      exact r_zret C0 rfl dX11_readAll_244
    · refine r_iconst (v := 1) C0 dX11_readAll_239 (by decide) ?_
      refine r_goto C0 244 dX11_readAll_240 (by decide) ?_
      obtain rfl := Option.some.inj hf
      exact r_zret C0 rfl dX11_readAll_244
set_option maxHeartbeats 4000000 in
set_option maxRecDepth 100000 in
theorem g_X11_readAll_158 {Γ : zCx} {E : zEn} {S : zSk} {X : zMl} {Z : Nat → Prop} (C0 : zCt Γ E RX11 cX11_readAll 2 (Option.some Jvm.ClassFile.FieldType.boolean) [] { frames := 3, cells := 0, slots := 0, locals := 74 }) (F : Nat) (p0 : Nat) (hk_p0 : K_X11 S p0) : ∀ (n : Nat)  (M : zMi) (r : Int32 × zMi) , f_X11_readAll_158 F p0 n  M = some r → zG Γ (zQ Γ E 0 0 S Z (some (.int r.1)) r.2 X) E 2 0 0 S Z M X 158 [(0, .ref p0)] [] := by
  intro n
  induction n with
  | zero => intro M r; intro hf; cases hf
  | succ n ih =>
    intro M r hf
    refine r_aload_n C0 dX11_readAll_158 rfl 0 rfl ?_
    refine r_getR C0 (C := RX11) (T := TX11) cl_X11 (K_X11_o hk_p0) (k := 4) (by decide) qw_557 rfl (K_X11_read_r hk_p0) dX11_readAll_159 ?_
    refine r_bipush (v := 6) C0 dX11_readAll_162 (by decide) ?_
    refine r_iald' (j := 6) C0 (K_X11_read_k hk_p0) rfl rfl dX11_readAll_164 ?_
    refine r_bipush (v := 30) C0 dX11_readAll_165 (by decide) ?_
    refine r_icmp_ge C0 205 dX11_readAll_167 (by decide) hf (fun hf => ?_) (fun hf => ?_)
    · refine r_sub (L' := [(0, .ref p0)]) [0] rfl ?_
      exact g_X11_readAll_205 C0 F p0 hk_p0  M _  hf
    · refine r_aload_n C0 dX11_readAll_170 rfl 0 rfl ?_
      refine r_bipush (v := 91) C0 dX11_readAll_171 (by decide) ?_
      refine r_aload_n C0 dX11_readAll_173 rfl 0 rfl ?_
      refine r_getR C0 (C := RX11) (T := TX11) cl_X11 (K_X11_o hk_p0) (k := 4) (by decide) qw_557 rfl (K_X11_read_r hk_p0) dX11_readAll_174 ?_
      refine r_bipush (v := 6) C0 dX11_readAll_177 (by decide) ?_
      refine r_iald' (j := 6) C0 (K_X11_read_k hk_p0) rfl rfl dX11_readAll_179 ?_
      refine r_iadd C0 dX11_readAll_180 ?_
      refine r_iconst (v := 1) C0 dX11_readAll_181 (by decide) ?_
      refine r_iconst (v := 0) C0 dX11_readAll_182 (by decide) ?_
      refine r_bipush (v := 9) C0 dX11_readAll_183 (by decide) ?_
      refine r_callVim C0 (st := []) [.int ((91 : Int32) + (M (p0 + 2) 6)), .int (1 : Int32), .int (0 : Int32), .int (9 : Int32)] p0 hf vs_132 (fun hl r1 hr1 => c_X11_put hl F p0 ((91 : Int32) + (M (p0 + 2) 6)) (1 : Int32) (0 : Int32) (9 : Int32) hk_p0 M r1 hr1) (K_X11_o hk_p0) rfl rfl rfl rfl (Nat.le_of_ble_eq_true rfl) dX11_readAll_185 (zrm_ok rfl) (fun r1 hr1 hf => ?_)
      refine r_if_eq C0 205 dX11_readAll_188 (by decide) hf (fun hf => ?_) (fun hf => ?_)
      · refine r_sub (L' := [(0, .ref p0)]) [0] rfl ?_
        exact g_X11_readAll_205 C0 F p0 hk_p0  r1.2 _  hf
      · refine r_aload_n C0 dX11_readAll_191 rfl 0 rfl ?_
        refine r_getR C0 (C := RX11) (T := TX11) cl_X11 (K_X11_o hk_p0) (k := 4) (by decide) qw_557 rfl (K_X11_read_r hk_p0) dX11_readAll_192 ?_
        refine r_bipush (v := 6) C0 dX11_readAll_195 (by decide) ?_
        refine r_dup2 C0 dX11_readAll_197 rfl rfl ?_
        refine r_iald' (j := 6) C0 (K_X11_read_k hk_p0) rfl rfl dX11_readAll_198 ?_
        refine r_iconst (v := 1) C0 dX11_readAll_199 (by decide) ?_
        refine r_iadd C0 dX11_readAll_200 ?_
        refine r_iast' (j := 6) C0 (K_X11_read_k hk_p0) rfl rfl hf dX11_readAll_201 (fun M2 hf => ?_)
        refine r_goto C0 158 dX11_readAll_202 (by decide) ?_
        refine r_sub (L' := [(0, .ref p0)]) [0] rfl ?_
        exact ih  M2 _  hf
set_option maxHeartbeats 4000000 in
set_option maxRecDepth 100000 in
theorem g_X11_readAll_138 {Γ : zCx} {E : zEn} {S : zSk} {X : zMl} {Z : Nat → Prop} (C0 : zCt Γ E RX11 cX11_readAll 2 (Option.some Jvm.ClassFile.FieldType.boolean) [] { frames := 3, cells := 0, slots := 0, locals := 74 }) (F : Nat) (p0 : Nat) (hk_p0 : K_X11 S p0)  (M : zMi) (r : Int32 × zMi)  (hf : f_X11_readAll_138 F p0  M = some r) : zG Γ (zQ Γ E 0 0 S Z (some (.int r.1)) r.2 X) E 2 0 0 S Z M X 138 [(0, .ref p0)] [] := by
  unfold f_X11_readAll_138 at hf
  refine r_aload_n C0 dX11_readAll_138 rfl 0 rfl ?_
  refine r_getR C0 (C := RX11) (T := TX11) cl_X11 (K_X11_o hk_p0) (k := 4) (by decide) qw_557 rfl (K_X11_read_r hk_p0) dX11_readAll_139 ?_
  refine r_iconst (v := 5) C0 dX11_readAll_142 (by decide) ?_
  refine r_iald' (j := 5) C0 (K_X11_read_k hk_p0) rfl rfl dX11_readAll_143 ?_
  refine r_if_eq C0 156 dX11_readAll_144 (by decide) hf (fun hf => ?_) (fun hf => ?_)
  · refine r_iconst (v := 0) C0 dX11_readAll_156 (by decide) ?_
    obtain rfl := Option.some.inj hf
    exact r_zret C0 rfl dX11_readAll_157
  · refine r_aload_n C0 dX11_readAll_147 rfl 0 rfl ?_
    refine r_bipush (v := 119) C0 dX11_readAll_148 (by decide) ?_
    refine r_callVim C0 (st := []) [.int (119 : Int32)] p0 hf vs_133 (fun hl r1 hr1 => c_X11_eat hl F p0 (119 : Int32) hk_p0 M r1 hr1) (K_X11_o hk_p0) rfl rfl rfl rfl (Nat.le_of_ble_eq_true rfl) dX11_readAll_150 (zrm_ok rfl) (fun r1 hr1 hf => ?_)
    refine r_if_ne C0 158 dX11_readAll_153 (by decide) hf (fun hf => ?_) (fun hf => ?_)
    · refine r_sub (L' := [(0, .ref p0)]) [0] rfl ?_
      exact g_X11_readAll_158 C0 F p0 hk_p0 F  r1.2 _  hf
    · refine r_iconst (v := 0) C0 dX11_readAll_156 (by decide) ?_
      obtain rfl := Option.some.inj hf
      exact r_zret C0 rfl dX11_readAll_157
set_option maxHeartbeats 4000000 in
set_option maxRecDepth 100000 in
theorem g_X11_readAll_101 {Γ : zCx} {E : zEn} {S : zSk} {X : zMl} {Z : Nat → Prop} (C0 : zCt Γ E RX11 cX11_readAll 2 (Option.some Jvm.ClassFile.FieldType.boolean) [] { frames := 3, cells := 0, slots := 0, locals := 74 }) (F : Nat) (p0 : Nat) (hk_p0 : K_X11 S p0) : ∀ (n : Nat)  (M : zMi) (r : Int32 × zMi) , f_X11_readAll_101 F p0 n  M = some r → zG Γ (zQ Γ E 0 0 S Z (some (.int r.1)) r.2 X) E 2 0 0 S Z M X 101 [(0, .ref p0)] [] := by
  intro n
  induction n with
  | zero => intro M r; intro hf; cases hf
  | succ n ih =>
    intro M r hf
    refine r_aload_n C0 dX11_readAll_101 rfl 0 rfl ?_
    refine r_getR C0 (C := RX11) (T := TX11) cl_X11 (K_X11_o hk_p0) (k := 4) (by decide) qw_557 rfl (K_X11_read_r hk_p0) dX11_readAll_102 ?_
    refine r_iconst (v := 4) C0 dX11_readAll_105 (by decide) ?_
    refine r_iald' (j := 4) C0 (K_X11_read_k hk_p0) rfl rfl dX11_readAll_106 ?_
    refine r_if_le C0 138 dX11_readAll_107 (by decide) hf (fun hf => ?_) (fun hf => ?_)
    · refine r_sub (L' := [(0, .ref p0)]) [0] rfl ?_
      exact g_X11_readAll_138 C0 F p0 hk_p0  M _  hf
    · refine r_aload_n C0 dX11_readAll_110 rfl 0 rfl ?_
      refine r_getR C0 (C := RX11) (T := TX11) cl_X11 (K_X11_o hk_p0) (k := 4) (by decide) qw_557 rfl (K_X11_read_r hk_p0) dX11_readAll_111 ?_
      refine r_iconst (v := 5) C0 dX11_readAll_114 (by decide) ?_
      refine r_iald' (j := 5) C0 (K_X11_read_k hk_p0) rfl rfl dX11_readAll_115 ?_
      refine r_iconst (v := 4) C0 dX11_readAll_116 (by decide) ?_
      refine r_icmp_ge C0 138 dX11_readAll_117 (by decide) hf (fun hf => ?_) (fun hf => ?_)
      · refine r_sub (L' := [(0, .ref p0)]) [0] rfl ?_
        exact g_X11_readAll_138 C0 F p0 hk_p0  M _  hf
      · refine r_aload_n C0 dX11_readAll_120 rfl 0 rfl ?_
        refine r_bipush (v := 115) C0 dX11_readAll_121 (by decide) ?_
        refine r_callVim C0 (st := []) [.int (115 : Int32)] p0 hf vs_133 (fun hl r1 hr1 => c_X11_eat hl F p0 (115 : Int32) hk_p0 M r1 hr1) (K_X11_o hk_p0) rfl rfl rfl rfl (Nat.le_of_ble_eq_true rfl) dX11_readAll_123 (zrm_ok rfl) (fun r1 hr1 hf => ?_)
        refine r_if_eq C0 138 dX11_readAll_126 (by decide) hf (fun hf => ?_) (fun hf => ?_)
        · refine r_sub (L' := [(0, .ref p0)]) [0] rfl ?_
          exact g_X11_readAll_138 C0 F p0 hk_p0  r1.2 _  hf
        · refine r_aload_n C0 dX11_readAll_129 rfl 0 rfl ?_
          refine r_callVim C0 (st := []) [] p0 hf vs_134 (fun hl r2 hr2 => c_X11_readShip hl F p0 hk_p0 r1.2 r2 hr2) (K_X11_o hk_p0) rfl rfl rfl rfl (Nat.le_of_ble_eq_true rfl) dX11_readAll_130 (zrm_ok rfl) (fun r2 hr2 hf => ?_)
          refine r_if_ne C0 101 dX11_readAll_133 (by decide) hf (fun hf => ?_) (fun hf => ?_)
          · refine r_sub (L' := [(0, .ref p0)]) [0] rfl ?_
            exact ih  r2.2 _  hf
          · refine r_iconst (v := 0) C0 dX11_readAll_136 (by decide) ?_
            obtain rfl := Option.some.inj hf
            exact r_zret C0 rfl dX11_readAll_137
set_option maxHeartbeats 4000000 in
set_option maxRecDepth 100000 in
theorem g_X11_readAll_72 {Γ : zCx} {E : zEn} {S : zSk} {X : zMl} {Z : Nat → Prop} (C0 : zCt Γ E RX11 cX11_readAll 2 (Option.some Jvm.ClassFile.FieldType.boolean) [] { frames := 3, cells := 0, slots := 0, locals := 74 }) (F : Nat) (p0 : Nat) (hk_p0 : K_X11 S p0) : ∀ (n : Nat)  (M : zMi) (r : Int32 × zMi) , f_X11_readAll_72 F p0 n  M = some r → zG Γ (zQ Γ E 0 0 S Z (some (.int r.1)) r.2 X) E 2 0 0 S Z M X 72 [(0, .ref p0)] [] := by
  intro n
  induction n with
  | zero => intro M r; intro hf; cases hf
  | succ n ih =>
    intro M r hf
    refine r_aload_n C0 dX11_readAll_72 rfl 0 rfl ?_
    refine r_getR C0 (C := RX11) (T := TX11) cl_X11 (K_X11_o hk_p0) (k := 4) (by decide) qw_557 rfl (K_X11_read_r hk_p0) dX11_readAll_73 ?_
    refine r_iconst (v := 4) C0 dX11_readAll_76 (by decide) ?_
    refine r_iald' (j := 4) C0 (K_X11_read_k hk_p0) rfl rfl dX11_readAll_77 ?_
    refine r_bipush (v := 9) C0 dX11_readAll_78 (by decide) ?_
    refine r_icmp_ge C0 101 dX11_readAll_80 (by decide) hf (fun hf => ?_) (fun hf => ?_)
    · refine r_sub (L' := [(0, .ref p0)]) [0] rfl ?_
      exact g_X11_readAll_101 C0 F p0 hk_p0 F  M _  hf
    · refine r_aload_n C0 dX11_readAll_83 rfl 0 rfl ?_
      refine r_bipush (v := 122) C0 dX11_readAll_84 (by decide) ?_
      refine r_callVim C0 (st := []) [.int (122 : Int32)] p0 hf vs_133 (fun hl r1 hr1 => c_X11_eat hl F p0 (122 : Int32) hk_p0 M r1 hr1) (K_X11_o hk_p0) rfl rfl rfl rfl (Nat.le_of_ble_eq_true rfl) dX11_readAll_86 (zrm_ok rfl) (fun r1 hr1 hf => ?_)
      refine r_if_eq C0 101 dX11_readAll_89 (by decide) hf (fun hf => ?_) (fun hf => ?_)
      · refine r_sub (L' := [(0, .ref p0)]) [0] rfl ?_
        exact g_X11_readAll_101 C0 F p0 hk_p0 F  r1.2 _  hf
      · refine r_aload_n C0 dX11_readAll_92 rfl 0 rfl ?_
        refine r_callVim C0 (st := []) [] p0 hf vs_135 (fun hl r2 hr2 => c_X11_readZone hl F p0 hk_p0 r1.2 r2 hr2) (K_X11_o hk_p0) rfl rfl rfl rfl (Nat.le_of_ble_eq_true rfl) dX11_readAll_93 (zrm_ok rfl) (fun r2 hr2 hf => ?_)
        refine r_if_ne C0 72 dX11_readAll_96 (by decide) hf (fun hf => ?_) (fun hf => ?_)
        · refine r_sub (L' := [(0, .ref p0)]) [0] rfl ?_
          exact ih  r2.2 _  hf
        · refine r_iconst (v := 0) C0 dX11_readAll_99 (by decide) ?_
          obtain rfl := Option.some.inj hf
          exact r_zret C0 rfl dX11_readAll_100
set_option maxHeartbeats 4000000 in
set_option maxRecDepth 100000 in
theorem g_X11_readAll_7 {Γ : zCx} {E : zEn} {S : zSk} {X : zMl} {Z : Nat → Prop} (C0 : zCt Γ E RX11 cX11_readAll 2 (Option.some Jvm.ClassFile.FieldType.boolean) [] { frames := 3, cells := 0, slots := 0, locals := 74 }) (F : Nat) (p0 : Nat) (hk_p0 : K_X11 S p0) : ∀ (n : Nat) (v1 : Int32) (M : zMi) (r : Int32 × zMi) , f_X11_readAll_7 F p0 n v1 M = some r → zG Γ (zQ Γ E 0 0 S Z (some (.int r.1)) r.2 X) E 2 0 0 S Z M X 7 [(0, .ref p0), (1, .int v1)] [] := by
  intro n
  induction n with
  | zero => intro v1 M r; intro hf; cases hf
  | succ n ih =>
    intro v1 M r hf
    refine r_iload_n C0 dX11_readAll_7 rfl 1 rfl ?_
    refine r_bipush (v := 121) C0 dX11_readAll_8 (by decide) ?_
    refine r_icmp_ge C0 26 dX11_readAll_10 (by decide) hf (fun hf => ?_) (fun hf => ?_)
    · refine r_aload_n C0 dX11_readAll_26 rfl 0 rfl ?_
      refine r_bipush (v := 67) C0 dX11_readAll_27 (by decide) ?_
      refine r_callVim C0 (st := []) [.int (67 : Int32)] p0 hf vs_133 (fun hl r1 hr1 => c_X11_eat hl F p0 (67 : Int32) hk_p0 M r1 hr1) (K_X11_o hk_p0) rfl rfl rfl rfl (Nat.le_of_ble_eq_true rfl) dX11_readAll_29 (zrm_ok rfl) (fun r1 hr1 hf => ?_)
      refine r_if_eq C0 70 dX11_readAll_32 (by decide) hf (fun hf => ?_) (fun hf => ?_)
      · refine r_iconst (v := 0) C0 dX11_readAll_70 (by decide) ?_
        obtain rfl := Option.some.inj hf
        exact r_zret C0 rfl dX11_readAll_71
      · refine r_aload_n C0 dX11_readAll_35 rfl 0 rfl ?_
        refine r_iconst (v := 0) C0 dX11_readAll_36 (by decide) ?_
        refine r_iconst (v := 1) C0 dX11_readAll_37 (by decide) ?_
        refine r_iconst (v := 1) C0 dX11_readAll_38 (by decide) ?_
        refine r_iconst (v := 3) C0 dX11_readAll_39 (by decide) ?_
        refine r_callVim C0 (st := []) [.int (0 : Int32), .int (1 : Int32), .int (1 : Int32), .int (3 : Int32)] p0 hf vs_132 (fun hl r2 hr2 => c_X11_put hl F p0 (0 : Int32) (1 : Int32) (1 : Int32) (3 : Int32) hk_p0 r1.2 r2 hr2) (K_X11_o hk_p0) rfl rfl rfl rfl (Nat.le_of_ble_eq_true rfl) dX11_readAll_40 (zrm_ok rfl) (fun r2 hr2 hf => ?_)
        refine r_if_eq C0 70 dX11_readAll_43 (by decide) hf (fun hf => ?_) (fun hf => ?_)
        · refine r_iconst (v := 0) C0 dX11_readAll_70 (by decide) ?_
          obtain rfl := Option.some.inj hf
          exact r_zret C0 rfl dX11_readAll_71
        · refine r_aload_n C0 dX11_readAll_46 rfl 0 rfl ?_
          refine r_iconst (v := 1) C0 dX11_readAll_47 (by decide) ?_
          refine r_iconst (v := 1) C0 dX11_readAll_48 (by decide) ?_
          refine r_iconst (v := 1) C0 dX11_readAll_49 (by decide) ?_
          refine r_iconst (v := 3) C0 dX11_readAll_50 (by decide) ?_
          refine r_callVim C0 (st := []) [.int (1 : Int32), .int (1 : Int32), .int (1 : Int32), .int (3 : Int32)] p0 hf vs_132 (fun hl r3 hr3 => c_X11_put hl F p0 (1 : Int32) (1 : Int32) (1 : Int32) (3 : Int32) hk_p0 r2.2 r3 hr3) (K_X11_o hk_p0) rfl rfl rfl rfl (Nat.le_of_ble_eq_true rfl) dX11_readAll_51 (zrm_ok rfl) (fun r3 hr3 hf => ?_)
          refine r_if_eq C0 70 dX11_readAll_54 (by decide) hf (fun hf => ?_) (fun hf => ?_)
          · refine r_iconst (v := 0) C0 dX11_readAll_70 (by decide) ?_
            obtain rfl := Option.some.inj hf
            exact r_zret C0 rfl dX11_readAll_71
          · refine r_aload_n C0 dX11_readAll_57 rfl 0 rfl ?_
            refine r_iconst (v := 2) C0 dX11_readAll_58 (by decide) ?_
            refine r_iconst (v := 4) C0 dX11_readAll_59 (by decide) ?_
            refine r_iconst (v := 0) C0 dX11_readAll_60 (by decide) ?_
            refine r_sipush (v := 9999) C0 dX11_readAll_61 (by decide) ?_
            refine r_callVim C0 (st := []) [.int (2 : Int32), .int (4 : Int32), .int (0 : Int32), .int (9999 : Int32)] p0 hf vs_132 (fun hl r4 hr4 => c_X11_put hl F p0 (2 : Int32) (4 : Int32) (0 : Int32) (9999 : Int32) hk_p0 r3.2 r4 hr4) (K_X11_o hk_p0) rfl rfl rfl rfl (Nat.le_of_ble_eq_true rfl) dX11_readAll_64 (zrm_ok rfl) (fun r4 hr4 hf => ?_)
            refine r_if_ne C0 72 dX11_readAll_67 (by decide) hf (fun hf => ?_) (fun hf => ?_)
            · refine r_sub (L' := [(0, .ref p0)]) [0] rfl ?_
              exact g_X11_readAll_72 C0 F p0 hk_p0 F  r4.2 _  hf
            · refine r_iconst (v := 0) C0 dX11_readAll_70 (by decide) ?_
              obtain rfl := Option.some.inj hf
              exact r_zret C0 rfl dX11_readAll_71
    · refine r_aload_n C0 dX11_readAll_13 rfl 0 rfl ?_
      refine r_getR C0 (C := RX11) (T := TX11) cl_X11 (K_X11_o hk_p0) (k := 4) (by decide) qw_557 rfl (K_X11_read_r hk_p0) dX11_readAll_14 ?_
      refine r_iload_n C0 dX11_readAll_17 rfl 1 rfl ?_
      refine r_iconst (v := 0) C0 dX11_readAll_18 (by decide) ?_
      refine r_iast C0 (K_X11_read_k hk_p0) hf dX11_readAll_19 (fun M5 hf => ?_)
      refine r_iinc (j := 1) (v := (v1 + (1 : Int32))) (L' := [(1, .int (v1 + (1 : Int32))), (0, .ref p0)]) C0 dX11_readAll_20 rfl rfl (by decide) rfl ?_
      refine r_goto C0 7 dX11_readAll_23 (by decide) ?_
      refine r_sub (L' := [(0, .ref p0), (1, .int (v1 + (1 : Int32)))]) [1, 0] rfl ?_
      exact ih (v1 + (1 : Int32)) M5 _  hf
set_option maxHeartbeats 4000000 in
set_option maxRecDepth 100000 in
theorem c_X11_readAll {l : Launch} {E : zEn} {S : zSk} {X : zMl} {Z : Nat → Prop} (hl : l.stackTraces = false) (F : Nat) (p0 : Nat) (hk_p0 : K_X11 S p0) (M : zMi) (r : Int32 × zMi) (hf : f_X11_readAll F p0 M = some r) : zM l E yX11_readAll cX11_readAll 2 (Option.some Jvm.ClassFile.FieldType.boolean) { frames := 3, cells := 0, slots := 0, locals := 74 } 0 0 [.ref p0] S Z M X S Z (some (.int r.1)) r.2 X := by
  refine zM.intro (L0 := [(0, .ref p0)]) hl (by decide) (Nat.le_of_ble_eq_true rfl) rfl (fun Γ C0 _ => ?_)
  unfold f_X11_readAll at hf
  refine r_aload_n C0 dX11_readAll_0 rfl 0 rfl ?_
  refine r_iconst (v := 0) C0 dX11_readAll_1 (by decide) ?_
  refine r_putI C0 (C := RX11) (T := TX11) cl_X11 (K_X11_o hk_p0) (k := 3) (by decide) qw_555 rfl rfl rfl rfl hf dX11_readAll_2 (fun M1 hf => ?_)
  refine r_iconst (v := 0) C0 dX11_readAll_5 (by decide) ?_
  refine r_istore_n (L' := [(1, .int (0 : Int32)), (0, .ref p0)]) C0 dX11_readAll_6 rfl (by decide) rfl ?_
  refine r_sub (L' := [(0, .ref p0), (1, .int (0 : Int32))]) [1, 0] rfl ?_
  exact g_X11_readAll_7 C0 F p0 hk_p0 F (0 : Int32) M1 _  hf
set_option maxHeartbeats 4000000 in
set_option maxRecDepth 100000 in
theorem c_X11_errorPosition {l : Launch} {E : zEn} {S : zSk} {X : zMl} {Z : Nat → Prop} (hl : l.stackTraces = false) (F : Nat) (p0 : Nat) (hk_p0 : K_X11 S p0) (M : zMi) (r : Int32 × zMi) (hf : f_X11_errorPosition F p0 M = some r) : zM l E yX11_errorPosition cX11_errorPosition 1 (Option.some Jvm.ClassFile.FieldType.int) { frames := 4, cells := 0, slots := 0, locals := 95 } 0 0 [.ref p0] S Z M X S Z (some (.int r.1)) r.2 X := by
  refine zM.intro (L0 := [(0, .ref p0)]) hl (by decide) (Nat.le_of_ble_eq_true rfl) rfl (fun Γ C0 _ => ?_)
  unfold f_X11_errorPosition at hf
  refine r_aload_n C0 dX11_errorPosition_0 rfl 0 rfl ?_
  refine r_iconst (v := 0) C0 dX11_errorPosition_1 (by decide) ?_
  refine r_putI C0 (C := RX11) (T := TX11) cl_X11 (K_X11_o hk_p0) (k := 0) (by decide) qw_487 rfl rfl rfl rfl hf dX11_errorPosition_2 (fun M1 hf => ?_)
  refine r_aload_n C0 dX11_errorPosition_5 rfl 0 rfl ?_
  refine r_callVim C0 (st := []) [] p0 hf vs_136 (fun hl r2 hr2 => c_X11_readAll hl F p0 hk_p0 M1 r2 hr2) (K_X11_o hk_p0) rfl rfl rfl rfl (Nat.le_of_ble_eq_true rfl) dX11_errorPosition_6 (zrm_ok rfl) (fun r2 hr2 hf => ?_)
  refine r_if_eq C0 17 dX11_errorPosition_9 (by decide) hf (fun hf => ?_) (fun hf => ?_)
  · refine r_aload_n C0 dX11_errorPosition_17 rfl 0 rfl ?_
    refine r_getI C0 (C := RX11) (T := TX11) cl_X11 (K_X11_o hk_p0) (k := 3) (by decide) qw_555 rfl dX11_errorPosition_18 ?_
    obtain rfl := Option.some.inj hf
    exact r_iret C0 dX11_errorPosition_21
  · refine r_bipush (v := -9) C0 dX11_errorPosition_12 (by decide) ?_
    refine r_goto C0 21 dX11_errorPosition_14 (by decide) ?_
    obtain rfl := Option.some.inj hf
    exact r_iret C0 dX11_errorPosition_21
set_option maxHeartbeats 4000000 in
set_option maxRecDepth 100000 in
theorem g_X11_load_13 {Γ : zCx} {E : zEn} {S : zSk} {X : zMl} {Z : Nat → Prop} (C0 : zCt Γ E RX11 cX11_load 1 (Option.some Jvm.ClassFile.FieldType.int) [] { frames := 4, cells := 0, slots := 0, locals := 95 }) (F : Nat) (p0 : Nat) (hk_p0 : K_X11 S p0) (s0 : Int32) (M : zMi) (r : Int32 × zMi)  (hf : f_X11_load_13 F p0 s0 M = some r) : zG Γ (zQ Γ E 0 0 S Z (some (.int r.1)) r.2 X) E 1 0 0 S Z M X 13 [(0, .ref p0)] [.int s0, .ref p0] := by
  unfold f_X11_load_13 at hf
  refine r_callVim C0 (st := []) [.int s0] p0 hf vs_131 (fun hl r1 hr1 => c_X11_refused hl F p0 s0 hk_p0 M r1 hr1) (K_X11_o hk_p0) rfl rfl rfl rfl (Nat.le_of_ble_eq_true rfl) dX11_load_13 (zrm_ok rfl) (fun r1 hr1 hf => ?_)
  refine r_if_eq C0 21 dX11_load_16 (by decide) hf (fun hf => ?_) (fun hf => ?_)
  · refine r_aload_n C0 dX11_load_21 rfl 0 rfl ?_
    refine r_getR C0 (C := RX11) (T := TX11) cl_X11 (K_X11_o hk_p0) (k := 4) (by decide) qw_557 rfl (K_X11_read_r hk_p0) dX11_load_22 ?_
    refine r_iconst (v := 0) C0 dX11_load_25 (by decide) ?_
    refine r_aload_n C0 dX11_load_26 rfl 0 rfl ?_
    refine r_getR C0 (C := RX11) (T := TX11) cl_X11 (K_X11_o hk_p0) (k := 5) (by decide) qw_578 rfl (K_X11_now_r hk_p0) dX11_load_27 ?_
    refine r_iconst (v := 0) C0 dX11_load_30 (by decide) ?_
    refine r_callSm C0 (st := []) [.ref (p0 + 2), .int (0 : Int32), .ref (p0 + 3), .int (0 : Int32)] hf vs_137 (fun hl r2 hr2 => c_X11_copyPage hl F (p0 + 2) 121 (0 : Int32) (p0 + 3) 121 (0 : Int32) (K_X11_read_k hk_p0) (K_X11_now_k hk_p0) r1.2 r2 hr2) rfl rfl (Nat.le_of_ble_eq_true rfl) dX11_load_31 (zrm_ok rfl) (fun r2 hr2 hf => ?_)
    refine r_aload_n C0 dX11_load_34 rfl 0 rfl ?_
    refine r_iconst (v := 0) C0 dX11_load_35 (by decide) ?_
    refine r_putI C0 (C := RX11) (T := TX11) cl_X11 (K_X11_o hk_p0) (k := 8) (by decide) qw_582 rfl rfl rfl rfl hf dX11_load_36 (fun M3 hf => ?_)
    refine r_aload_n C0 dX11_load_39 rfl 0 rfl ?_
    refine r_getR C0 (C := RX11) (T := TX11) cl_X11 (K_X11_o hk_p0) (k := 10) (by decide) qw_583 rfl (K_X11_isKept_r hk_p0) dX11_load_40 ?_
    refine r_iconst (v := 0) C0 dX11_load_43 (by decide) ?_
    refine r_iconst (v := 0) C0 dX11_load_44 (by decide) ?_
    refine r_zast' (j := 0) C0 (K_X11_isKept_k hk_p0) rfl rfl hf dX11_load_45 (fun M4 hf => ?_)
    refine r_aload_n C0 dX11_load_46 rfl 0 rfl ?_
    refine r_getR C0 (C := RX11) (T := TX11) cl_X11 (K_X11_o hk_p0) (k := 10) (by decide) qw_583 rfl (K_X11_isKept_r hk_p0) dX11_load_47 ?_
    refine r_iconst (v := 1) C0 dX11_load_50 (by decide) ?_
    refine r_iconst (v := 0) C0 dX11_load_51 (by decide) ?_
    refine r_zast' (j := 1) C0 (K_X11_isKept_k hk_p0) rfl rfl hf dX11_load_52 (fun M5 hf => ?_)
    refine r_aload_n C0 dX11_load_53 rfl 0 rfl ?_
    refine r_getR C0 (C := RX11) (T := TX11) cl_X11 (K_X11_o hk_p0) (k := 5) (by decide) qw_578 rfl (K_X11_now_r hk_p0) dX11_load_54 ?_
    refine r_iconst (v := 4) C0 dX11_load_57 (by decide) ?_
    refine r_iald' (j := 4) C0 (K_X11_now_k hk_p0) rfl rfl dX11_load_58 ?_
    obtain rfl := Option.some.inj hf
    exact r_iret C0 dX11_load_59
  · refine r_iconst (v := 0) C0 dX11_load_19 (by decide) ?_
    obtain rfl := Option.some.inj hf
    exact r_iret C0 dX11_load_20
set_option maxHeartbeats 4000000 in
set_option maxRecDepth 100000 in
theorem c_X11_load {l : Launch} {E : zEn} {S : zSk} {X : zMl} {Z : Nat → Prop} (hl : l.stackTraces = false) (F : Nat) (p0 : Nat) (hk_p0 : K_X11 S p0) (M : zMi) (r : Int32 × zMi) (hf : f_X11_load F p0 M = some r) : zM l E yX11_load cX11_load 1 (Option.some Jvm.ClassFile.FieldType.int) { frames := 4, cells := 0, slots := 0, locals := 95 } 0 0 [.ref p0] S Z M X S Z (some (.int r.1)) r.2 X := by
  refine zM.intro (L0 := [(0, .ref p0)]) hl (by decide) (Nat.le_of_ble_eq_true rfl) rfl (fun Γ C0 _ => ?_)
  unfold f_X11_load at hf
  refine r_aload_n C0 dX11_load_0 rfl 0 rfl ?_
  refine r_aload_n C0 dX11_load_1 rfl 0 rfl ?_
  refine r_callVim C0 (st := [.ref p0]) [] p0 hf vs_136 (fun hl r1 hr1 => c_X11_readAll hl F p0 hk_p0 M r1 hr1) (K_X11_o hk_p0) rfl rfl rfl rfl (Nat.le_of_ble_eq_true rfl) dX11_load_2 (zrm_ok rfl) (fun r1 hr1 hf => ?_)
  refine r_if_eq C0 12 dX11_load_5 (by decide) hf (fun hf => ?_) (fun hf => ?_)
  · refine r_iconst (v := 1) C0 dX11_load_12 (by decide) ?_
    refine r_sub (L' := [(0, .ref p0)]) [0] rfl ?_
    exact g_X11_load_13 C0 F p0 hk_p0 (1 : Int32) r1.2 _  hf
  · refine r_iconst (v := 0) C0 dX11_load_8 (by decide) ?_
    refine r_goto C0 13 dX11_load_9 (by decide) ?_
    refine r_sub (L' := [(0, .ref p0)]) [0] rfl ?_
    exact g_X11_load_13 C0 F p0 hk_p0 (0 : Int32) r1.2 _  hf
set_option maxHeartbeats 4000000 in
set_option maxRecDepth 100000 in
theorem g_X11_about_18 {Γ : zCx} {E : zEn} {S : zSk} {X : zMl} {Z : Nat → Prop} (C0 : zCt Γ E RX11 cX11_about 2 (Option.some Jvm.ClassFile.FieldType.int) [] { frames := 2, cells := 0, slots := 0, locals := 41 }) (F : Nat) (p0 : Nat) (p1 : Int32) (hk_p0 : K_X11 S p0) (s0 : Int32) (M : zMi) (r : Int32 × zMi)  (hf : f_X11_about_18 F p0 p1 s0 M = some r) : zG Γ (zQ Γ E 0 0 S Z (some (.int r.1)) r.2 X) E 2 0 0 S Z M X 18 [(0, .ref p0), (1, .int p1)] [.int s0, .ref p0] := by
  unfold f_X11_about_18 at hf
  refine r_callVim C0 (st := []) [.int s0] p0 hf vs_131 (fun hl r1 hr1 => c_X11_refused hl F p0 s0 hk_p0 M r1 hr1) (K_X11_o hk_p0) rfl rfl rfl rfl (Nat.le_of_ble_eq_true rfl) dX11_about_18 (zrm_ok rfl) (fun r1 hr1 hf => ?_)
  refine r_if_eq C0 26 dX11_about_21 (by decide) hf (fun hf => ?_) (fun hf => ?_)
  · refine r_iload_n C0 dX11_about_26 rfl 1 rfl ?_
    refine z_ite hf (fun hx hf => ?_) (fun hx0 hf => ?_)
    · refine r_tsIn (off := 69) C0 96 dX11_about_27 (by rw [hx]; decide) (by rw [hx]; decide) (by rw [hx]; decide) (by decide) ?_
      refine r_aload_n C0 dX11_about_96 rfl 0 rfl ?_
      refine r_getR C0 (C := RX11) (T := TX11) cl_X11 (K_X11_o hk_p0) (k := 5) (by decide) qw_578 rfl (K_X11_now_r hk_p0) dX11_about_97 ?_
      refine r_iconst (v := 4) C0 dX11_about_100 (by decide) ?_
      refine r_iald' (j := 4) C0 (K_X11_now_k hk_p0) rfl rfl dX11_about_101 ?_
      obtain rfl := Option.some.inj hf
      exact r_iret C0 dX11_about_102
    refine z_ite hf (fun hx hf => ?_) (fun hx1 hf => ?_)
    · refine r_tsIn (off := 76) C0 103 dX11_about_27 (by rw [hx]; decide) (by rw [hx]; decide) (by rw [hx]; decide) (by decide) ?_
      refine r_aload_n C0 dX11_about_103 rfl 0 rfl ?_
      refine r_getR C0 (C := RX11) (T := TX11) cl_X11 (K_X11_o hk_p0) (k := 5) (by decide) qw_578 rfl (K_X11_now_r hk_p0) dX11_about_104 ?_
      refine r_iconst (v := 5) C0 dX11_about_107 (by decide) ?_
      refine r_iald' (j := 5) C0 (K_X11_now_k hk_p0) rfl rfl dX11_about_108 ?_
      obtain rfl := Option.some.inj hf
      exact r_iret C0 dX11_about_109
    refine z_ite hf (fun hx hf => ?_) (fun hx2 hf => ?_)
    · refine r_tsIn (off := 83) C0 110 dX11_about_27 (by rw [hx]; decide) (by rw [hx]; decide) (by rw [hx]; decide) (by decide) ?_
      refine r_aload_n C0 dX11_about_110 rfl 0 rfl ?_
      refine r_getR C0 (C := RX11) (T := TX11) cl_X11 (K_X11_o hk_p0) (k := 5) (by decide) qw_578 rfl (K_X11_now_r hk_p0) dX11_about_111 ?_
      refine r_iconst (v := 0) C0 dX11_about_114 (by decide) ?_
      refine r_iald' (j := 0) C0 (K_X11_now_k hk_p0) rfl rfl dX11_about_115 ?_
      obtain rfl := Option.some.inj hf
      exact r_iret C0 dX11_about_116
    refine z_ite hf (fun hx hf => ?_) (fun hx3 hf => ?_)
    · refine r_tsIn (off := 90) C0 117 dX11_about_27 (by rw [hx]; decide) (by rw [hx]; decide) (by rw [hx]; decide) (by decide) ?_
      refine r_aload_n C0 dX11_about_117 rfl 0 rfl ?_
      refine r_getR C0 (C := RX11) (T := TX11) cl_X11 (K_X11_o hk_p0) (k := 5) (by decide) qw_578 rfl (K_X11_now_r hk_p0) dX11_about_118 ?_
      refine r_iconst (v := 1) C0 dX11_about_121 (by decide) ?_
      refine r_iald' (j := 1) C0 (K_X11_now_k hk_p0) rfl rfl dX11_about_122 ?_
      obtain rfl := Option.some.inj hf
      exact r_iret C0 dX11_about_123
    refine z_ite hf (fun hx hf => ?_) (fun hx4 hf => ?_)
    · refine r_tsIn (off := 97) C0 124 dX11_about_27 (by rw [hx]; decide) (by rw [hx]; decide) (by rw [hx]; decide) (by decide) ?_
      refine r_aload_n C0 dX11_about_124 rfl 0 rfl ?_
      refine r_getR C0 (C := RX11) (T := TX11) cl_X11 (K_X11_o hk_p0) (k := 5) (by decide) qw_578 rfl (K_X11_now_r hk_p0) dX11_about_125 ?_
      refine r_iconst (v := 2) C0 dX11_about_128 (by decide) ?_
      refine r_iald' (j := 2) C0 (K_X11_now_k hk_p0) rfl rfl dX11_about_129 ?_
      obtain rfl := Option.some.inj hf
      exact r_iret C0 dX11_about_130
    refine z_ite hf (fun hx hf => ?_) (fun hx5 hf => ?_)
    · refine r_tsIn (off := 104) C0 131 dX11_about_27 (by rw [hx]; decide) (by rw [hx]; decide) (by rw [hx]; decide) (by decide) ?_
      refine r_aload_n C0 dX11_about_131 rfl 0 rfl ?_
      refine r_getR C0 (C := RX11) (T := TX11) cl_X11 (K_X11_o hk_p0) (k := 5) (by decide) qw_578 rfl (K_X11_now_r hk_p0) dX11_about_132 ?_
      refine r_iconst (v := 3) C0 dX11_about_135 (by decide) ?_
      refine r_iald' (j := 3) C0 (K_X11_now_k hk_p0) rfl rfl dX11_about_136 ?_
      obtain rfl := Option.some.inj hf
      exact r_iret C0 dX11_about_137
    refine z_ite hf (fun hx hf => ?_) (fun hx6 hf => ?_)
    · refine r_tsIn (off := 111) C0 138 dX11_about_27 (by rw [hx]; decide) (by rw [hx]; decide) (by rw [hx]; decide) (by decide) ?_
      refine r_aload_n C0 dX11_about_138 rfl 0 rfl ?_
      refine r_getR C0 (C := RX11) (T := TX11) cl_X11 (K_X11_o hk_p0) (k := 5) (by decide) qw_578 rfl (K_X11_now_r hk_p0) dX11_about_139 ?_
      refine r_bipush (v := 7) C0 dX11_about_142 (by decide) ?_
      refine r_iald' (j := 7) C0 (K_X11_now_k hk_p0) rfl rfl dX11_about_144 ?_
      obtain rfl := Option.some.inj hf
      exact r_iret C0 dX11_about_145
    refine z_ite hf (fun hx hf => ?_) (fun hx7 hf => ?_)
    · refine r_tsIn (off := 119) C0 146 dX11_about_27 (by rw [hx]; decide) (by rw [hx]; decide) (by rw [hx]; decide) (by decide) ?_
      refine r_aload_n C0 dX11_about_146 rfl 0 rfl ?_
      refine r_getR C0 (C := RX11) (T := TX11) cl_X11 (K_X11_o hk_p0) (k := 5) (by decide) qw_578 rfl (K_X11_now_r hk_p0) dX11_about_147 ?_
      refine r_bipush (v := 8) C0 dX11_about_150 (by decide) ?_
      refine r_iald' (j := 8) C0 (K_X11_now_k hk_p0) rfl rfl dX11_about_152 ?_
      obtain rfl := Option.some.inj hf
      exact r_iret C0 dX11_about_153
    refine z_ite hf (fun hx hf => ?_) (fun hx8 hf => ?_)
    · refine r_tsIn (off := 127) C0 154 dX11_about_27 (by rw [hx]; decide) (by rw [hx]; decide) (by rw [hx]; decide) (by decide) ?_
      refine r_aload_n C0 dX11_about_154 rfl 0 rfl ?_
      refine r_getR C0 (C := RX11) (T := TX11) cl_X11 (K_X11_o hk_p0) (k := 5) (by decide) qw_578 rfl (K_X11_now_r hk_p0) dX11_about_155 ?_
      refine r_callSi C0 (st := []) [.ref (p0 + 3)] hf vs_117 (fun hl r2 hr2 => c_X11_frontShip hl F (p0 + 3) (K_X11_now_k hk_p0) r1.2 r2 hr2) rfl rfl (Nat.le_of_ble_eq_true rfl) dX11_about_158 (zrm_ok rfl) (fun r2 hr2 hf => ?_)
      obtain rfl := Option.some.inj hf
      exact r_iret C0 dX11_about_161
    refine z_ite hf (fun hx hf => ?_) (fun hx9 hf => ?_)
    · refine r_tsIn (off := 143) C0 170 dX11_about_27 (by rw [hx]; decide) (by rw [hx]; decide) (by rw [hx]; decide) (by decide) ?_
      refine r_aload_n C0 dX11_about_170 rfl 0 rfl ?_
      refine r_getR C0 (C := RX11) (T := TX11) cl_X11 (K_X11_o hk_p0) (k := 5) (by decide) qw_578 rfl (K_X11_now_r hk_p0) dX11_about_171 ?_
      refine r_bipush (v := 9) C0 dX11_about_174 (by decide) ?_
      refine r_iload_n C0 dX11_about_176 rfl 1 rfl ?_
      refine r_iadd C0 dX11_about_177 ?_
      refine r_bipush (v := 9) C0 dX11_about_178 (by decide) ?_
      refine r_isub C0 dX11_about_180 ?_
      refine r_iald C0 (K_X11_now_k hk_p0) hf dX11_about_181 (fun hf => ?_)
      obtain rfl := Option.some.inj hf
      exact r_iret C0 dX11_about_182
    refine z_ite hf (fun hx hf => ?_) (fun hx10 hf => ?_)
    · refine r_tsIn (off := 143) C0 170 dX11_about_27 (by rw [hx]; decide) (by rw [hx]; decide) (by rw [hx]; decide) (by decide) ?_
      refine r_aload_n C0 dX11_about_170 rfl 0 rfl ?_
      refine r_getR C0 (C := RX11) (T := TX11) cl_X11 (K_X11_o hk_p0) (k := 5) (by decide) qw_578 rfl (K_X11_now_r hk_p0) dX11_about_171 ?_
      refine r_bipush (v := 9) C0 dX11_about_174 (by decide) ?_
      refine r_iload_n C0 dX11_about_176 rfl 1 rfl ?_
      refine r_iadd C0 dX11_about_177 ?_
      refine r_bipush (v := 9) C0 dX11_about_178 (by decide) ?_
      refine r_isub C0 dX11_about_180 ?_
      refine r_iald C0 (K_X11_now_k hk_p0) hf dX11_about_181 (fun hf => ?_)
      obtain rfl := Option.some.inj hf
      exact r_iret C0 dX11_about_182
    refine z_ite hf (fun hx hf => ?_) (fun hx11 hf => ?_)
    · refine r_tsIn (off := 143) C0 170 dX11_about_27 (by rw [hx]; decide) (by rw [hx]; decide) (by rw [hx]; decide) (by decide) ?_
      refine r_aload_n C0 dX11_about_170 rfl 0 rfl ?_
      refine r_getR C0 (C := RX11) (T := TX11) cl_X11 (K_X11_o hk_p0) (k := 5) (by decide) qw_578 rfl (K_X11_now_r hk_p0) dX11_about_171 ?_
      refine r_bipush (v := 9) C0 dX11_about_174 (by decide) ?_
      refine r_iload_n C0 dX11_about_176 rfl 1 rfl ?_
      refine r_iadd C0 dX11_about_177 ?_
      refine r_bipush (v := 9) C0 dX11_about_178 (by decide) ?_
      refine r_isub C0 dX11_about_180 ?_
      refine r_iald C0 (K_X11_now_k hk_p0) hf dX11_about_181 (fun hf => ?_)
      obtain rfl := Option.some.inj hf
      exact r_iret C0 dX11_about_182
    refine z_ite hf (fun hx hf => ?_) (fun hx12 hf => ?_)
    · refine r_tsIn (off := 143) C0 170 dX11_about_27 (by rw [hx]; decide) (by rw [hx]; decide) (by rw [hx]; decide) (by decide) ?_
      refine r_aload_n C0 dX11_about_170 rfl 0 rfl ?_
      refine r_getR C0 (C := RX11) (T := TX11) cl_X11 (K_X11_o hk_p0) (k := 5) (by decide) qw_578 rfl (K_X11_now_r hk_p0) dX11_about_171 ?_
      refine r_bipush (v := 9) C0 dX11_about_174 (by decide) ?_
      refine r_iload_n C0 dX11_about_176 rfl 1 rfl ?_
      refine r_iadd C0 dX11_about_177 ?_
      refine r_bipush (v := 9) C0 dX11_about_178 (by decide) ?_
      refine r_isub C0 dX11_about_180 ?_
      refine r_iald C0 (K_X11_now_k hk_p0) hf dX11_about_181 (fun hf => ?_)
      obtain rfl := Option.some.inj hf
      exact r_iret C0 dX11_about_182
    refine z_ite hf (fun hx hf => ?_) (fun hx13 hf => ?_)
    · refine r_tsIn (off := 135) C0 162 dX11_about_27 (by rw [hx]; decide) (by rw [hx]; decide) (by rw [hx]; decide) (by decide) ?_
      refine r_aload_n C0 dX11_about_162 rfl 0 rfl ?_
      refine r_getR C0 (C := RX11) (T := TX11) cl_X11 (K_X11_o hk_p0) (k := 5) (by decide) qw_578 rfl (K_X11_now_r hk_p0) dX11_about_163 ?_
      refine r_callSi C0 (st := []) [.ref (p0 + 3)] hf vs_123 (fun hl r3 hr3 => c_X11_freeTeams hl F (p0 + 3) (K_X11_now_k hk_p0) r1.2 r3 hr3) rfl rfl (Nat.le_of_ble_eq_true rfl) dX11_about_166 (zrm_ok rfl) (fun r3 hr3 hf => ?_)
      obtain rfl := Option.some.inj hf
      exact r_iret C0 dX11_about_169
    have hy0 := z_ne (a := 0) hx0 (by decide)
    have hy1 := z_ne (a := 1) hx1 (by decide)
    have hy2 := z_ne (a := 2) hx2 (by decide)
    have hy3 := z_ne (a := 3) hx3 (by decide)
    have hy4 := z_ne (a := 4) hx4 (by decide)
    have hy5 := z_ne (a := 5) hx5 (by decide)
    have hy6 := z_ne (a := 6) hx6 (by decide)
    have hy7 := z_ne (a := 7) hx7 (by decide)
    have hy8 := z_ne (a := 8) hx8 (by decide)
    have hy9 := z_ne (a := 9) hx9 (by decide)
    have hy10 := z_ne (a := 10) hx10 (by decide)
    have hy11 := z_ne (a := 11) hx11 (by decide)
    have hy12 := z_ne (a := 12) hx12 (by decide)
    have hy13 := z_ne (a := 13) hx13 (by decide)
    refine r_tsOut C0 170 dX11_about_27 (by omega) (by decide) ?_
    refine r_aload_n C0 dX11_about_170 rfl 0 rfl ?_
    refine r_getR C0 (C := RX11) (T := TX11) cl_X11 (K_X11_o hk_p0) (k := 5) (by decide) qw_578 rfl (K_X11_now_r hk_p0) dX11_about_171 ?_
    refine r_bipush (v := 9) C0 dX11_about_174 (by decide) ?_
    refine r_iload_n C0 dX11_about_176 rfl 1 rfl ?_
    refine r_iadd C0 dX11_about_177 ?_
    refine r_bipush (v := 9) C0 dX11_about_178 (by decide) ?_
    refine r_isub C0 dX11_about_180 ?_
    refine r_iald C0 (K_X11_now_k hk_p0) hf dX11_about_181 (fun hf => ?_)
    obtain rfl := Option.some.inj hf
    exact r_iret C0 dX11_about_182
  · refine r_iconst (v := 0) C0 dX11_about_24 (by decide) ?_
    obtain rfl := Option.some.inj hf
    exact r_iret C0 dX11_about_25
set_option maxHeartbeats 4000000 in
set_option maxRecDepth 100000 in
theorem c_X11_about {l : Launch} {E : zEn} {S : zSk} {X : zMl} {Z : Nat → Prop} (hl : l.stackTraces = false) (F : Nat) (p0 : Nat) (p1 : Int32) (hk_p0 : K_X11 S p0) (M : zMi) (r : Int32 × zMi) (hf : f_X11_about F p0 p1 M = some r) : zM l E yX11_about cX11_about 2 (Option.some Jvm.ClassFile.FieldType.int) { frames := 2, cells := 0, slots := 0, locals := 41 } 0 0 [.ref p0, .int p1] S Z M X S Z (some (.int r.1)) r.2 X := by
  refine zM.intro (L0 := [(0, .ref p0), (1, .int p1)]) hl (by decide) (Nat.le_of_ble_eq_true rfl) rfl (fun Γ C0 _ => ?_)
  unfold f_X11_about at hf
  refine r_aload_n C0 dX11_about_0 rfl 0 rfl ?_
  refine r_iload_n C0 dX11_about_1 rfl 1 rfl ?_
  refine r_i2l C0 dX11_about_2 ?_
  refine r_lconst (v := 0) C0 dX11_about_3 (by decide) ?_
  refine r_ldc2 (v := 13) C0 qw_584 dX11_about_4 ?_
  refine r_callSi C0 (st := [.ref p0]) [.long ((p1).toInt64), .long (0 : Int64), .long (13 : Int64)] hf vs_112 (fun hl r1 hr1 => c_X11_in hl F ((p1).toInt64) (0 : Int64) (13 : Int64) M r1 hr1) rfl rfl (Nat.le_of_ble_eq_true rfl) dX11_about_7 (zrm_ok rfl) (fun r1 hr1 hf => ?_)
  refine r_if_eq C0 17 dX11_about_10 (by decide) hf (fun hf => ?_) (fun hf => ?_)
  · refine r_iconst (v := 1) C0 dX11_about_17 (by decide) ?_
    refine r_sub (L' := [(0, .ref p0), (1, .int p1)]) [0, 1] rfl ?_
    exact g_X11_about_18 C0 F p0 p1 hk_p0 (1 : Int32) M _  hf
  · refine r_iconst (v := 0) C0 dX11_about_13 (by decide) ?_
    refine r_goto C0 18 dX11_about_14 (by decide) ?_
    refine r_sub (L' := [(0, .ref p0), (1, .int p1)]) [0, 1] rfl ?_
    exact g_X11_about_18 C0 F p0 p1 hk_p0 (0 : Int32) M _  hf
set_option maxHeartbeats 4000000 in
set_option maxRecDepth 100000 in
theorem g_X11_zone_33 {Γ : zCx} {E : zEn} {S : zSk} {X : zMl} {Z : Nat → Prop} (C0 : zCt Γ E RX11 cX11_zone 4 (Option.some Jvm.ClassFile.FieldType.int) [] { frames := 2, cells := 0, slots := 0, locals := 46 }) (F : Nat) (p0 : Nat) (p1 : Int32) (p2 : Int32) (hk_p0 : K_X11 S p0) (s0 : Int32) (M : zMi) (r : Int32 × zMi)  (hf : f_X11_zone_33 F p0 p1 p2 s0 M = some r) : zG Γ (zQ Γ E 0 0 S Z (some (.int r.1)) r.2 X) E 4 0 0 S Z M X 33 [(0, .ref p0), (1, .int p1), (2, .int p2)] [.int s0, .ref p0] := by
  unfold f_X11_zone_33 at hf
  refine r_callVim C0 (st := []) [.int s0] p0 hf vs_131 (fun hl r1 hr1 => c_X11_refused hl F p0 s0 hk_p0 M r1 hr1) (K_X11_o hk_p0) rfl rfl rfl rfl (Nat.le_of_ble_eq_true rfl) dX11_zone_33 (zrm_ok rfl) (fun r1 hr1 hf => ?_)
  refine r_if_eq C0 41 dX11_zone_36 (by decide) hf (fun hf => ?_) (fun hf => ?_)
  · refine r_aload_n C0 dX11_zone_41 rfl 0 rfl ?_
    refine r_getR C0 (C := RX11) (T := TX11) cl_X11 (K_X11_o hk_p0) (k := 5) (by decide) qw_578 rfl (K_X11_now_r hk_p0) dX11_zone_42 ?_
    refine r_iload_n C0 dX11_zone_45 rfl 1 rfl ?_
    refine r_callSi C0 (st := [.ref (p0 + 3)]) [.int p1] hf vs_113 (fun hl r2 hr2 => c_X11_zoneAt hl F p1 r1.2 r2 hr2) rfl rfl (Nat.le_of_ble_eq_true rfl) dX11_zone_46 (zrm_ok rfl) (fun r2 hr2 hf => ?_)
    refine r_iald C0 (K_X11_now_k hk_p0) hf dX11_zone_49 (fun hf => ?_)
    refine r_nm hf (fun x3 hf => ?_)
    refine r_istore_n (L' := [(3, .int x3), (0, .ref p0), (1, .int p1), (2, .int p2)]) C0 dX11_zone_50 rfl (by decide) rfl ?_
    refine r_iload_n C0 dX11_zone_51 rfl 3 rfl ?_
    refine r_iconst (v := 4) C0 dX11_zone_52 (by decide) ?_
    refine r_icmp_ge C0 70 dX11_zone_53 (by decide) hf (fun hf => ?_) (fun hf => ?_)
    · refine r_iload_n C0 dX11_zone_70 rfl 2 rfl ?_
      refine r_aload_n C0 dX11_zone_71 rfl 1 rfl ?_
      refine r_getR C0 (C := RX11) (T := TX11) cl_X11 (K_X11_o hk_p0) (k := 5) (by decide) qw_578 rfl (K_X11_now_r hk_p0) dX11_zone_72 ?_
      refine r_bipush (v := 7) C0 dX11_zone_75 (by decide) ?_
      refine r_iald' (j := 7) C0 (K_X11_now_k hk_p0) rfl rfl dX11_zone_77 ?_
      refine r_icmp_ge C0 85 dX11_zone_78 (by decide) hf (fun hf => ?_) (fun hf => ?_)
      · refine r_iload_n C0 dX11_zone_85 rfl 2 rfl ?_
        refine r_aload_n C0 dX11_zone_86 rfl 1 rfl ?_
        refine r_getR C0 (C := RX11) (T := TX11) cl_X11 (K_X11_o hk_p0) (k := 5) (by decide) qw_578 rfl (K_X11_now_r hk_p0) dX11_zone_87 ?_
        refine r_bipush (v := 7) C0 dX11_zone_90 (by decide) ?_
        refine r_iald' (j := 7) C0 (K_X11_now_k hk_p0) rfl rfl dX11_zone_92 ?_
        refine r_icmp_ne C0 108 dX11_zone_93 (by decide) hf (fun hf => ?_) (fun hf => ?_)
        · refine r_iload_n C0 dX11_zone_108 rfl 0 rfl ?_
          obtain rfl := Option.some.inj hf
          exact r_iret C0 dX11_zone_109
        · refine r_iload_n C0 dX11_zone_96 rfl 0 rfl ?_
          refine r_aload_n C0 dX11_zone_97 rfl 1 rfl ?_
          refine r_getR C0 (C := RX11) (T := TX11) cl_X11 (K_X11_o hk_p0) (k := 5) (by decide) qw_578 rfl (K_X11_now_r hk_p0) dX11_zone_98 ?_
          refine r_bipush (v := 8) C0 dX11_zone_101 (by decide) ?_
          refine r_iald' (j := 8) C0 (K_X11_now_k hk_p0) rfl rfl dX11_zone_103 ?_
          refine r_isub C0 dX11_zone_104 ?_
          refine r_goto C0 109 dX11_zone_105 (by decide) ?_
          obtain rfl := Option.some.inj hf
          exact r_iret C0 dX11_zone_109
      · refine r_iconst (v := 0) C0 dX11_zone_81 (by decide) ?_
        refine r_goto C0 109 dX11_zone_82 (by decide) ?_
        obtain rfl := Option.some.inj hf
        exact r_iret C0 dX11_zone_109
    · refine r_aload_n C0 dX11_zone_56 rfl 1 rfl ?_
      refine r_getR C0 (C := RX11) (T := TX11) cl_X11 (K_X11_o hk_p0) (k := 5) (by decide) qw_578 rfl (K_X11_now_r hk_p0) dX11_zone_57 ?_
      refine r_iload_n C0 dX11_zone_60 rfl 2 rfl ?_
      refine r_callSi C0 (st := [.ref (p0 + 3)]) [.int p1] hf vs_113 (fun hl r4 hr4 => c_X11_zoneAt hl F p1 r1.2 r4 hr4) rfl rfl (Nat.le_of_ble_eq_true rfl) dX11_zone_61 (zrm_ok rfl) (fun r4 hr4 hf => ?_)
      refine r_iload_n C0 dX11_zone_64 rfl 3 rfl ?_
      refine r_iadd C0 dX11_zone_65 ?_
      refine r_iald C0 (K_X11_now_k hk_p0) hf dX11_zone_66 (fun hf => ?_)
      refine r_goto C0 109 dX11_zone_67 (by decide) ?_
      obtain rfl := Option.some.inj hf
      exact r_iret C0 dX11_zone_109
  · refine r_iconst (v := 0) C0 dX11_zone_39 (by decide) ?_
    obtain rfl := Option.some.inj hf
    exact r_iret C0 dX11_zone_40
set_option maxHeartbeats 4000000 in
set_option maxRecDepth 100000 in
theorem c_X11_zone {l : Launch} {E : zEn} {S : zSk} {X : zMl} {Z : Nat → Prop} (hl : l.stackTraces = false) (F : Nat) (p0 : Nat) (p1 : Int32) (p2 : Int32) (hk_p0 : K_X11 S p0) (M : zMi) (r : Int32 × zMi) (hf : f_X11_zone F p0 p1 p2 M = some r) : zM l E yX11_zone cX11_zone 4 (Option.some Jvm.ClassFile.FieldType.int) { frames := 2, cells := 0, slots := 0, locals := 46 } 0 0 [.ref p0, .int p1, .int p2] S Z M X S Z (some (.int r.1)) r.2 X := by
  refine zM.intro (L0 := [(0, .ref p0), (1, .int p1), (2, .int p2)]) hl (by decide) (Nat.le_of_ble_eq_true rfl) rfl (fun Γ C0 _ => ?_)
  unfold f_X11_zone at hf
  refine r_aload_n C0 dX11_zone_0 rfl 0 rfl ?_
  refine r_aload_n C0 dX11_zone_1 rfl 0 rfl ?_
  refine r_getR C0 (C := RX11) (T := TX11) cl_X11 (K_X11_o hk_p0) (k := 5) (by decide) qw_578 rfl (K_X11_now_r hk_p0) dX11_zone_2 ?_
  refine r_iload_n C0 dX11_zone_5 rfl 1 rfl ?_
  refine r_callSi C0 (st := [.ref p0]) [.ref (p0 + 3), .int p1] hf vs_138 (fun hl r1 hr1 => c_X11_isZone hl F (p0 + 3) p1 (K_X11_now_k hk_p0) M r1 hr1) rfl rfl (Nat.le_of_ble_eq_true rfl) dX11_zone_6 (zrm_ok rfl) (fun r1 hr1 hf => ?_)
  refine r_if_ne C0 16 dX11_zone_9 (by decide) hf (fun hf => ?_) (fun hf => ?_)
  · refine r_iload_n C0 dX11_zone_16 rfl 2 rfl ?_
    refine r_i2l C0 dX11_zone_17 ?_
    refine r_lconst (v := 0) C0 dX11_zone_18 (by decide) ?_
    refine r_ldc2 (v := 4) C0 qw_588 dX11_zone_19 ?_
    refine r_callSi C0 (st := [.ref p0]) [.long ((p2).toInt64), .long (0 : Int64), .long (4 : Int64)] hf vs_112 (fun hl r2 hr2 => c_X11_in hl F ((p2).toInt64) (0 : Int64) (4 : Int64) M r2 hr2) rfl rfl (Nat.le_of_ble_eq_true rfl) dX11_zone_22 (zrm_ok rfl) (fun r2 hr2 hf => ?_)
    refine r_if_ne C0 32 dX11_zone_25 (by decide) hf (fun hf => ?_) (fun hf => ?_)
    · refine r_iconst (v := 0) C0 dX11_zone_32 (by decide) ?_
      refine r_sub (L' := [(0, .ref p0), (1, .int p1), (2, .int p2)]) [0, 1, 2] rfl ?_
      exact g_X11_zone_33 C0 F p0 p1 p2 hk_p0 (0 : Int32) M _  hf
    · refine r_iconst (v := 2) C0 dX11_zone_28 (by decide) ?_
      refine r_goto C0 33 dX11_zone_29 (by decide) ?_
      refine r_sub (L' := [(0, .ref p0), (1, .int p1), (2, .int p2)]) [0, 1, 2] rfl ?_
      exact g_X11_zone_33 C0 F p0 p1 p2 hk_p0 (2 : Int32) M _  hf
  · refine r_iconst (v := 1) C0 dX11_zone_12 (by decide) ?_
    refine r_goto C0 33 dX11_zone_13 (by decide) ?_
    refine r_sub (L' := [(0, .ref p0), (1, .int p1), (2, .int p2)]) [0, 1, 2] rfl ?_
    exact g_X11_zone_33 C0 F p0 p1 p2 hk_p0 (1 : Int32) M _  hf
set_option maxHeartbeats 4000000 in
set_option maxRecDepth 100000 in
theorem g_X11_ship_33 {Γ : zCx} {E : zEn} {S : zSk} {X : zMl} {Z : Nat → Prop} (C0 : zCt Γ E RX11 cX11_ship 3 (Option.some Jvm.ClassFile.FieldType.int) [] { frames := 2, cells := 0, slots := 0, locals := 46 }) (F : Nat) (p0 : Nat) (p1 : Int32) (p2 : Int32) (hk_p0 : K_X11 S p0) (s0 : Int32) (M : zMi) (r : Int32 × zMi)  (hf : f_X11_ship_33 F p0 p1 p2 s0 M = some r) : zG Γ (zQ Γ E 0 0 S Z (some (.int r.1)) r.2 X) E 3 0 0 S Z M X 33 [(0, .ref p0), (1, .int p1), (2, .int p2)] [.int s0, .ref p0] := by
  unfold f_X11_ship_33 at hf
  refine r_callVim C0 (st := []) [.int s0] p0 hf vs_131 (fun hl r1 hr1 => c_X11_refused hl F p0 s0 hk_p0 M r1 hr1) (K_X11_o hk_p0) rfl rfl rfl rfl (Nat.le_of_ble_eq_true rfl) dX11_ship_33 (zrm_ok rfl) (fun r1 hr1 hf => ?_)
  refine r_if_eq C0 43 dX11_ship_36 (by decide) hf (fun hf => ?_) (fun hf => ?_)
  · refine r_aload_n C0 dX11_ship_43 rfl 0 rfl ?_
    refine r_getR C0 (C := RX11) (T := TX11) cl_X11 (K_X11_o hk_p0) (k := 5) (by decide) qw_578 rfl (K_X11_now_r hk_p0) dX11_ship_44 ?_
    refine r_iload_n C0 dX11_ship_47 rfl 1 rfl ?_
    refine r_callSi C0 (st := [.ref (p0 + 3)]) [.int p1] hf vs_115 (fun hl r2 hr2 => c_X11_shipAt hl F p1 r1.2 r2 hr2) rfl rfl (Nat.le_of_ble_eq_true rfl) dX11_ship_48 (zrm_ok rfl) (fun r2 hr2 hf => ?_)
    refine r_iload_n C0 dX11_ship_51 rfl 2 rfl ?_
    refine r_iadd C0 dX11_ship_52 ?_
    refine r_iald C0 (K_X11_now_k hk_p0) hf dX11_ship_53 (fun hf => ?_)
    obtain rfl := Option.some.inj hf
    exact r_iret C0 dX11_ship_54
  · refine r_iconst (v := 0) C0 dX11_ship_39 (by decide) ?_
    refine r_goto C0 54 dX11_ship_40 (by decide) ?_
    obtain rfl := Option.some.inj hf
    exact r_iret C0 dX11_ship_54
set_option maxHeartbeats 4000000 in
set_option maxRecDepth 100000 in
theorem c_X11_ship {l : Launch} {E : zEn} {S : zSk} {X : zMl} {Z : Nat → Prop} (hl : l.stackTraces = false) (F : Nat) (p0 : Nat) (p1 : Int32) (p2 : Int32) (hk_p0 : K_X11 S p0) (M : zMi) (r : Int32 × zMi) (hf : f_X11_ship F p0 p1 p2 M = some r) : zM l E yX11_ship cX11_ship 3 (Option.some Jvm.ClassFile.FieldType.int) { frames := 2, cells := 0, slots := 0, locals := 46 } 0 0 [.ref p0, .int p1, .int p2] S Z M X S Z (some (.int r.1)) r.2 X := by
  refine zM.intro (L0 := [(0, .ref p0), (1, .int p1), (2, .int p2)]) hl (by decide) (Nat.le_of_ble_eq_true rfl) rfl (fun Γ C0 _ => ?_)
  unfold f_X11_ship at hf
  refine r_aload_n C0 dX11_ship_0 rfl 0 rfl ?_
  refine r_aload_n C0 dX11_ship_1 rfl 0 rfl ?_
  refine r_getR C0 (C := RX11) (T := TX11) cl_X11 (K_X11_o hk_p0) (k := 5) (by decide) qw_578 rfl (K_X11_now_r hk_p0) dX11_ship_2 ?_
  refine r_iload_n C0 dX11_ship_5 rfl 1 rfl ?_
  refine r_callSi C0 (st := [.ref p0]) [.ref (p0 + 3), .int p1] hf vs_139 (fun hl r1 hr1 => c_X11_isShip hl F (p0 + 3) p1 (K_X11_now_k hk_p0) M r1 hr1) rfl rfl (Nat.le_of_ble_eq_true rfl) dX11_ship_6 (zrm_ok rfl) (fun r1 hr1 hf => ?_)
  refine r_if_ne C0 16 dX11_ship_9 (by decide) hf (fun hf => ?_) (fun hf => ?_)
  · refine r_iload_n C0 dX11_ship_16 rfl 2 rfl ?_
    refine r_i2l C0 dX11_ship_17 ?_
    refine r_lconst (v := 0) C0 dX11_ship_18 (by decide) ?_
    refine r_ldc2 (v := 7) C0 qw_592 dX11_ship_19 ?_
    refine r_callSi C0 (st := [.ref p0]) [.long ((p2).toInt64), .long (0 : Int64), .long (7 : Int64)] hf vs_112 (fun hl r2 hr2 => c_X11_in hl F ((p2).toInt64) (0 : Int64) (7 : Int64) M r2 hr2) rfl rfl (Nat.le_of_ble_eq_true rfl) dX11_ship_22 (zrm_ok rfl) (fun r2 hr2 hf => ?_)
    refine r_if_ne C0 32 dX11_ship_25 (by decide) hf (fun hf => ?_) (fun hf => ?_)
    · refine r_iconst (v := 0) C0 dX11_ship_32 (by decide) ?_
      refine r_sub (L' := [(0, .ref p0), (1, .int p1), (2, .int p2)]) [0, 1, 2] rfl ?_
      exact g_X11_ship_33 C0 F p0 p1 p2 hk_p0 (0 : Int32) M _  hf
    · refine r_iconst (v := 2) C0 dX11_ship_28 (by decide) ?_
      refine r_goto C0 33 dX11_ship_29 (by decide) ?_
      refine r_sub (L' := [(0, .ref p0), (1, .int p1), (2, .int p2)]) [0, 1, 2] rfl ?_
      exact g_X11_ship_33 C0 F p0 p1 p2 hk_p0 (2 : Int32) M _  hf
  · refine r_iconst (v := 1) C0 dX11_ship_12 (by decide) ?_
    refine r_goto C0 33 dX11_ship_13 (by decide) ?_
    refine r_sub (L' := [(0, .ref p0), (1, .int p1), (2, .int p2)]) [0, 1, 2] rfl ?_
    exact g_X11_ship_33 C0 F p0 p1 p2 hk_p0 (1 : Int32) M _  hf
set_option maxHeartbeats 4000000 in
set_option maxRecDepth 100000 in
theorem g_X11_waves_18 {Γ : zCx} {E : zEn} {S : zSk} {X : zMl} {Z : Nat → Prop} (C0 : zCt Γ E RX11 cX11_waves 2 (Option.some Jvm.ClassFile.FieldType.int) [] { frames := 1, cells := 0, slots := 0, locals := 25 }) (F : Nat) (p0 : Nat) (p1 : Int32) (hk_p0 : K_X11 S p0) (s0 : Int32) (M : zMi) (r : Int32 × zMi)  (hf : f_X11_waves_18 F p0 p1 s0 M = some r) : zG Γ (zQ Γ E 0 0 S Z (some (.int r.1)) r.2 X) E 2 0 0 S Z M X 18 [(0, .ref p0), (1, .int p1)] [.int s0, .ref p0] := by
  unfold f_X11_waves_18 at hf
  refine r_callVim C0 (st := []) [.int s0] p0 hf vs_131 (fun hl r1 hr1 => c_X11_refused hl F p0 s0 hk_p0 M r1 hr1) (K_X11_o hk_p0) rfl rfl rfl rfl (Nat.le_of_ble_eq_true rfl) dX11_waves_18 (zrm_ok rfl) (fun r1 hr1 hf => ?_)
  refine r_if_eq C0 28 dX11_waves_21 (by decide) hf (fun hf => ?_) (fun hf => ?_)
  · refine r_aload_n C0 dX11_waves_28 rfl 0 rfl ?_
    refine r_getR C0 (C := RX11) (T := TX11) cl_X11 (K_X11_o hk_p0) (k := 5) (by decide) qw_578 rfl (K_X11_now_r hk_p0) dX11_waves_29 ?_
    refine r_iload_n C0 dX11_waves_32 rfl 1 rfl ?_
    refine r_callSi C0 (st := []) [.ref (p0 + 3), .int p1] hf vs_121 (fun hl r2 hr2 => c_X11_wavesOf hl F (p0 + 3) p1 (K_X11_now_k hk_p0) r1.2 r2 hr2) rfl rfl (Nat.le_of_ble_eq_true rfl) dX11_waves_33 (zrm_ok rfl) (fun r2 hr2 hf => ?_)
    obtain rfl := Option.some.inj hf
    exact r_iret C0 dX11_waves_36
  · refine r_iconst (v := 0) C0 dX11_waves_24 (by decide) ?_
    refine r_goto C0 36 dX11_waves_25 (by decide) ?_
    obtain rfl := Option.some.inj hf
    exact r_iret C0 dX11_waves_36
set_option maxHeartbeats 4000000 in
set_option maxRecDepth 100000 in
theorem c_X11_waves {l : Launch} {E : zEn} {S : zSk} {X : zMl} {Z : Nat → Prop} (hl : l.stackTraces = false) (F : Nat) (p0 : Nat) (p1 : Int32) (hk_p0 : K_X11 S p0) (M : zMi) (r : Int32 × zMi) (hf : f_X11_waves F p0 p1 M = some r) : zM l E yX11_waves cX11_waves 2 (Option.some Jvm.ClassFile.FieldType.int) { frames := 1, cells := 0, slots := 0, locals := 25 } 0 0 [.ref p0, .int p1] S Z M X S Z (some (.int r.1)) r.2 X := by
  refine zM.intro (L0 := [(0, .ref p0), (1, .int p1)]) hl (by decide) (Nat.le_of_ble_eq_true rfl) rfl (fun Γ C0 _ => ?_)
  unfold f_X11_waves at hf
  refine r_aload_n C0 dX11_waves_0 rfl 0 rfl ?_
  refine r_iload_n C0 dX11_waves_1 rfl 1 rfl ?_
  refine r_i2l C0 dX11_waves_2 ?_
  refine r_lconst (v := 0) C0 dX11_waves_3 (by decide) ?_
  refine r_ldc2 (v := 9999) C0 qw_593 dX11_waves_4 ?_
  refine r_callSi C0 (st := [.ref p0]) [.long ((p1).toInt64), .long (0 : Int64), .long (9999 : Int64)] hf vs_112 (fun hl r1 hr1 => c_X11_in hl F ((p1).toInt64) (0 : Int64) (9999 : Int64) M r1 hr1) rfl rfl (Nat.le_of_ble_eq_true rfl) dX11_waves_7 (zrm_ok rfl) (fun r1 hr1 hf => ?_)
  refine r_if_eq C0 17 dX11_waves_10 (by decide) hf (fun hf => ?_) (fun hf => ?_)
  · refine r_iconst (v := 1) C0 dX11_waves_17 (by decide) ?_
    refine r_sub (L' := [(0, .ref p0), (1, .int p1)]) [0, 1] rfl ?_
    exact g_X11_waves_18 C0 F p0 p1 hk_p0 (1 : Int32) M _  hf
  · refine r_iconst (v := 0) C0 dX11_waves_13 (by decide) ?_
    refine r_goto C0 18 dX11_waves_14 (by decide) ?_
    refine r_sub (L' := [(0, .ref p0), (1, .int p1)]) [0, 1] rfl ?_
    exact g_X11_waves_18 C0 F p0 p1 hk_p0 (0 : Int32) M _  hf
