set_option maxHeartbeats 4000000 in
set_option maxRecDepth 100000 in
theorem g_X11_layOn_46 {Γ : zCx} {E : zEn} {S : zSk} {X : zMl} {Z : Nat → Prop} (C0 : zCt Γ E RX11 cX11_layOn 7 (Option.some Jvm.ClassFile.FieldType.int) [] { frames := 3, cells := 0, slots := 0, locals := 66 }) (F : Nat) (p0 : Nat) (p1 : Int32) (hk_p0 : S.1 p0 = some (.inr (0, 121))) (v2 : Int32) (v3 : Int32) (s0 : Int32) (s1 : Int32) (M : zMi) (r : Int32 × zMi)  (hf : f_X11_layOn_46 F p0 p1 v2 v3 s0 s1 M = some r) : zG Γ (zQ Γ E 0 0 S Z (some (.int r.1)) r.2 X) E 7 0 0 S Z M X 46 [(0, .ref p0), (1, .int p1), (2, .int v2), (3, .int v3)] [.int s0, .int s1, .int p1, .ref p0] := by
  unfold f_X11_layOn_46 at hf
  refine r_callSi C0 (st := []) [.ref p0, .int p1, .int s1, .int s0] hf vs_118 (fun hl r1 hr1 => c_X11_mostOf hl F p0 p1 s1 s0 hk_p0 M r1 hr1) rfl rfl (Nat.le_of_ble_eq_true rfl) dX11_layOn_46 (zrm_ok rfl) (fun r1 hr1 hf => ?_)
  refine r_istore (L' := [(5, .int r1), (0, .ref p0), (1, .int p1), (2, .int v2), (3, .int v3)]) C0 dX11_layOn_49 (by decide) rfl ?_
  refine r_iload C0 dX11_layOn_51 0 rfl ?_
  refine r_if_ne C0 67 dX11_layOn_53 (by decide) hf (fun hf => ?_) (fun hf => ?_)
  · refine r_aload_n C0 dX11_layOn_67 rfl 1 rfl ?_
    refine r_iload_n C0 dX11_layOn_68 rfl 4 rfl ?_
    refine r_iload C0 dX11_layOn_69 0 rfl ?_
    refine r_callSi C0 (st := []) [.ref p0, .int v3, .int r1] hf vs_114 (fun hl r2 hr2 => c_X11_needOf hl F p0 v3 r1 hk_p0 M r2 hr2) rfl rfl (Nat.le_of_ble_eq_true rfl) dX11_layOn_71 (zrm_ok rfl) (fun r2 hr2 hf => ?_)
    refine r_istore (L' := [(6, .int r2), (5, .int r1), (0, .ref p0), (1, .int p1), (2, .int v2), (3, .int v3)]) C0 dX11_layOn_74 (by decide) rfl ?_
    refine r_aload_n C0 dX11_layOn_76 rfl 2 rfl ?_
    refine r_iload_n C0 dX11_layOn_77 rfl 4 rfl ?_
    refine r_iconst (v := 4) C0 dX11_layOn_78 (by decide) ?_
    refine r_iadd C0 dX11_layOn_79 ?_
    refine r_nm hf (fun x3 hf => ?_)
    refine r_dup2 C0 dX11_layOn_80 rfl rfl ?_
    refine r_iald C0 hk_p0 hf dX11_layOn_81 (fun hf => ?_)
    refine r_iload C0 dX11_layOn_82 0 rfl ?_
    refine r_isub C0 dX11_layOn_84 ?_
    refine r_iast C0 hk_p0 hf dX11_layOn_85 (fun M4 hf => ?_)
    refine r_aload_n C0 dX11_layOn_86 rfl 2 rfl ?_
    refine r_iload_n C0 dX11_layOn_87 rfl 4 rfl ?_
    refine r_bipush (v := 7) C0 dX11_layOn_88 (by decide) ?_
    refine r_iadd C0 dX11_layOn_90 ?_
    refine r_nm hf (fun x5 hf => ?_)
    refine r_dup2 C0 dX11_layOn_91 rfl rfl ?_
    refine r_iald C0 hk_p0 hf dX11_layOn_92 (fun hf => ?_)
    refine r_iload C0 dX11_layOn_93 1 rfl ?_
    refine r_iadd C0 dX11_layOn_95 ?_
    refine r_iast C0 hk_p0 hf dX11_layOn_96 (fun M6 hf => ?_)
    refine r_aload_n C0 dX11_layOn_97 rfl 2 rfl ?_
    refine r_bipush (v := 17) C0 dX11_layOn_98 (by decide) ?_
    refine r_dup2 C0 dX11_layOn_100 rfl rfl ?_
    refine r_iald' (j := 17) C0 hk_p0 rfl rfl dX11_layOn_101 ?_
    refine r_iload C0 dX11_layOn_102 1 rfl ?_
    refine r_iadd C0 dX11_layOn_104 ?_
    refine r_iast' (j := 17) C0 hk_p0 rfl rfl hf dX11_layOn_105 (fun M7 hf => ?_)
    refine r_aload_n C0 dX11_layOn_106 rfl 2 rfl ?_
    refine r_bipush (v := 18) C0 dX11_layOn_107 (by decide) ?_
    refine r_dup2 C0 dX11_layOn_109 rfl rfl ?_
    refine r_iald' (j := 18) C0 hk_p0 rfl rfl dX11_layOn_110 ?_
    refine r_iload C0 dX11_layOn_111 0 rfl ?_
    refine r_iload C0 dX11_layOn_113 1 rfl ?_
    refine r_isub C0 dX11_layOn_115 ?_
    refine r_iadd C0 dX11_layOn_116 ?_
    refine r_iast' (j := 18) C0 hk_p0 rfl rfl hf dX11_layOn_117 (fun M8 hf => ?_)
    refine r_aload_n C0 dX11_layOn_118 rfl 2 rfl ?_
    refine r_bipush (v := 8) C0 dX11_layOn_119 (by decide) ?_
    refine r_dup2 C0 dX11_layOn_121 rfl rfl ?_
    refine r_iald' (j := 8) C0 hk_p0 rfl rfl dX11_layOn_122 ?_
    refine r_iload C0 dX11_layOn_123 1 rfl ?_
    refine r_iadd C0 dX11_layOn_125 ?_
    refine r_iast' (j := 8) C0 hk_p0 rfl rfl hf dX11_layOn_126 (fun M9 hf => ?_)
    refine r_aload_n C0 dX11_layOn_127 rfl 2 rfl ?_
    refine r_bipush (v := 8) C0 dX11_layOn_128 (by decide) ?_
    refine r_iald' (j := 8) C0 hk_p0 rfl rfl dX11_layOn_130 ?_
    refine r_aload_n C0 dX11_layOn_131 rfl 2 rfl ?_
    refine r_iload_n C0 dX11_layOn_132 rfl 5 rfl ?_
    refine r_callSi C0 (st := [.ref p0, .int (M9 p0 8)]) [.int v3] hf vs_113 (fun hl r10 hr10 => c_X11_zoneAt hl F v3 M9 r10 hr10) rfl rfl (Nat.le_of_ble_eq_true rfl) dX11_layOn_133 (zrm_ok rfl) (fun r10 hr10 hf => ?_)
    refine r_iald C0 hk_p0 hf dX11_layOn_136 (fun hf => ?_)
    refine r_icmp_ne C0 169 dX11_layOn_137 (by decide) hf (fun hf => ?_) (fun hf => ?_)
    · refine r_iconst (v := 0) C0 dX11_layOn_169 (by decide) ?_
      obtain rfl := Option.some.inj hf
      exact r_iret C0 dX11_layOn_170
    · refine r_aload_n C0 dX11_layOn_140 rfl 2 rfl ?_
      refine r_bipush (v := 7) C0 dX11_layOn_141 (by decide) ?_
      refine r_dup2 C0 dX11_layOn_143 rfl rfl ?_
      refine r_iald' (j := 7) C0 hk_p0 rfl rfl dX11_layOn_144 ?_
      refine r_iconst (v := 1) C0 dX11_layOn_145 (by decide) ?_
      refine r_iadd C0 dX11_layOn_146 ?_
      refine r_iast' (j := 7) C0 hk_p0 rfl rfl hf dX11_layOn_147 (fun M11 hf => ?_)
      refine r_aload_n C0 dX11_layOn_148 rfl 2 rfl ?_
      refine r_bipush (v := 8) C0 dX11_layOn_149 (by decide) ?_
      refine r_iconst (v := 0) C0 dX11_layOn_151 (by decide) ?_
      refine r_iast' (j := 8) C0 hk_p0 rfl rfl hf dX11_layOn_152 (fun M12 hf => ?_)
      refine r_aload_n C0 dX11_layOn_153 rfl 2 rfl ?_
      refine r_callSi C0 (st := []) [.ref p0] hf vs_116 (fun hl r13 hr13 => c_X11_isFinished hl F p0 hk_p0 M12 r13 hr13) rfl rfl (Nat.le_of_ble_eq_true rfl) dX11_layOn_154 (zrm_ok rfl) (fun r13 hr13 hf => ?_)
      refine r_if_eq C0 169 dX11_layOn_157 (by decide) hf (fun hf => ?_) (fun hf => ?_)
      · refine r_iconst (v := 0) C0 dX11_layOn_169 (by decide) ?_
        obtain rfl := Option.some.inj hf
        exact r_iret C0 dX11_layOn_170
      · refine r_aload_n C0 dX11_layOn_160 rfl 2 rfl ?_
        refine r_iload_n C0 dX11_layOn_161 rfl 3 rfl ?_
        refine r_aload_n C0 dX11_layOn_162 rfl 2 rfl ?_
        refine r_callSi C0 (st := [.int p1, .ref p0]) [.ref p0] hf vs_119 (fun hl r14 hr14 => c_X11_wayOf hl F p0 hk_p0 M12 r14 hr14) rfl rfl (Nat.le_of_ble_eq_true rfl) dX11_layOn_163 (zrm_ok rfl) (fun r14 hr14 hf => ?_)
        refine r_callSm C0 (st := []) [.ref p0, .int p1, .int r14] hf vs_120 (fun hl r15 hr15 => c_X11_goHome hl F p0 p1 r14 hk_p0 M12 r15 hr15) rfl rfl (Nat.le_of_ble_eq_true rfl) dX11_layOn_166 (zrm_ok rfl) (fun r15 hr15 hf => ?_)
        refine r_iconst (v := 0) C0 dX11_layOn_169 (by decide) ?_
        obtain rfl := Option.some.inj hf
        exact r_iret C0 dX11_layOn_170
  · refine r_aload_n C0 dX11_layOn_56 rfl 1 rfl ?_
    refine r_iload_n C0 dX11_layOn_57 rfl 2 rfl ?_
    refine r_aload_n C0 dX11_layOn_58 rfl 1 rfl ?_
    refine r_callSi C0 (st := [.int p1, .ref p0]) [.ref p0] hf vs_119 (fun hl r16 hr16 => c_X11_wayOf hl F p0 hk_p0 M r16 hr16) rfl rfl (Nat.le_of_ble_eq_true rfl) dX11_layOn_59 (zrm_ok rfl) (fun r16 hr16 hf => ?_)
    refine r_callSm C0 (st := []) [.ref p0, .int p1, .int r16] hf vs_120 (fun hl r17 hr17 => c_X11_goHome hl F p0 p1 r16 hk_p0 M r17 hr17) rfl rfl (Nat.le_of_ble_eq_true rfl) dX11_layOn_62 (zrm_ok rfl) (fun r17 hr17 hf => ?_)
    refine r_iconst (v := 4) C0 dX11_layOn_65 (by decide) ?_
    obtain rfl := Option.some.inj hf
    exact r_iret C0 dX11_layOn_66
set_option maxHeartbeats 4000000 in
set_option maxRecDepth 100000 in
theorem c_X11_layOn {l : Launch} {E : zEn} {S : zSk} {X : zMl} {Z : Nat → Prop} (hl : l.stackTraces = false) (F : Nat) (p0 : Nat) (p1 : Int32) (hk_p0 : S.1 p0 = some (.inr (0, 121))) (M : zMi) (r : Int32 × zMi) (hf : f_X11_layOn F p0 p1 M = some r) : zM l E yX11_layOn cX11_layOn 7 (Option.some Jvm.ClassFile.FieldType.int) { frames := 3, cells := 0, slots := 0, locals := 66 } 0 0 [.ref p0, .int p1] S Z M X S Z (some (.int r.1)) r.2 X := by
  refine zM.intro (L0 := [(0, .ref p0), (1, .int p1)]) hl (by decide) (Nat.le_of_ble_eq_true rfl) rfl (fun Γ C0 _ => ?_)
  unfold f_X11_layOn at hf
  refine r_iload_n C0 dX11_layOn_0 rfl 1 rfl ?_
  refine r_callSi C0 (st := []) [.int p1] hf vs_115 (fun hl r1 hr1 => c_X11_shipAt hl F p1 M r1 hr1) rfl rfl (Nat.le_of_ble_eq_true rfl) dX11_layOn_1 (zrm_ok rfl) (fun r1 hr1 hf => ?_)
  refine r_istore_n (L' := [(2, .int r1), (0, .ref p0), (1, .int p1)]) C0 dX11_layOn_4 rfl (by decide) rfl ?_
  refine r_aload_n C0 dX11_layOn_5 rfl 1 rfl ?_
  refine r_bipush (v := 7) C0 dX11_layOn_6 (by decide) ?_
  refine r_iald' (j := 7) C0 hk_p0 rfl rfl dX11_layOn_8 ?_
  refine r_nm hf (fun x2 hf => ?_)
  refine r_istore_n (L' := [(3, .int x2), (2, .int r1), (0, .ref p0), (1, .int p1)]) C0 dX11_layOn_9 rfl (by decide) rfl ?_
  refine r_aload_n C0 dX11_layOn_10 rfl 2 rfl ?_
  refine r_iload_n C0 dX11_layOn_11 rfl 0 rfl ?_
  refine r_callSi C0 (st := [.ref p0]) [.int x2] hf vs_113 (fun hl r3 hr3 => c_X11_zoneAt hl F x2 M r3 hr3) rfl rfl (Nat.le_of_ble_eq_true rfl) dX11_layOn_12 (zrm_ok rfl) (fun r3 hr3 hf => ?_)
  refine r_iald C0 hk_p0 hf dX11_layOn_15 (fun hf => ?_)
  refine r_aload_n C0 dX11_layOn_16 rfl 2 rfl ?_
  refine r_bipush (v := 8) C0 dX11_layOn_17 (by decide) ?_
  refine r_iald' (j := 8) C0 hk_p0 rfl rfl dX11_layOn_19 ?_
  refine r_isub C0 dX11_layOn_20 ?_
  refine r_nm hf (fun x4 hf => ?_)
  refine r_istore (L' := [(4, .int x4), (3, .int x2), (2, .int r1), (0, .ref p0), (1, .int p1)]) C0 dX11_layOn_21 (by decide) rfl ?_
  refine r_aload_n C0 dX11_layOn_23 rfl 3 rfl ?_
  refine r_iload_n C0 dX11_layOn_24 rfl 4 rfl ?_
  refine r_iload_n C0 dX11_layOn_25 rfl 1 rfl ?_
  refine r_aload_n C0 dX11_layOn_26 rfl 3 rfl ?_
  refine r_iload_n C0 dX11_layOn_27 rfl 2 rfl ?_
  refine r_iconst (v := 1) C0 dX11_layOn_28 (by decide) ?_
  refine r_iadd C0 dX11_layOn_29 ?_
  refine r_iald C0 hk_p0 hf dX11_layOn_30 (fun hf => ?_)
  refine r_iload C0 dX11_layOn_31 0 rfl ?_
  refine r_icmp_ge C0 44 dX11_layOn_33 (by decide) hf (fun hf => ?_) (fun hf => ?_)
  · refine r_iload C0 dX11_layOn_44 0 rfl ?_
    refine r_sub (L' := [(0, .ref p0), (1, .int p1), (2, .int r1), (3, .int x2)]) [3, 4, 2, 1] rfl ?_
    exact g_X11_layOn_46 C0 F p0 p1 hk_p0 r1 x2 x4 x2 M _  hf
  · refine r_aload_n C0 dX11_layOn_36 rfl 3 rfl ?_
    refine r_iload_n C0 dX11_layOn_37 rfl 2 rfl ?_
    refine r_iconst (v := 1) C0 dX11_layOn_38 (by decide) ?_
    refine r_iadd C0 dX11_layOn_39 ?_
    refine r_iald C0 hk_p0 hf dX11_layOn_40 (fun hf => ?_)
    refine r_goto C0 46 dX11_layOn_41 (by decide) ?_
    refine r_sub (L' := [(0, .ref p0), (1, .int p1), (2, .int r1), (3, .int x2)]) [3, 4, 2, 1] rfl ?_
    exact g_X11_layOn_46 C0 F p0 p1 hk_p0 r1 x2 (M p0 (ix (r1 + (1 : Int32)))) x2 M _  hf
set_option maxHeartbeats 4000000 in
set_option maxRecDepth 100000 in
theorem c_X11_workOn {l : Launch} {E : zEn} {S : zSk} {X : zMl} {Z : Nat → Prop} (hl : l.stackTraces = false) (F : Nat) (p0 : Nat) (p1 : Int32) (hk_p0 : S.1 p0 = some (.inr (0, 121))) (M : zMi) (r : Int32 × zMi) (hf : f_X11_workOn F p0 p1 M = some r) : zM l E yX11_workOn cX11_workOn 4 (Option.some Jvm.ClassFile.FieldType.int) { frames := 4, cells := 0, slots := 0, locals := 92 } 0 0 [.ref p0, .int p1] S Z M X S Z (some (.int r.1)) r.2 X := by
  refine zM.intro (L0 := [(0, .ref p0), (1, .int p1)]) hl (by decide) (Nat.le_of_ble_eq_true rfl) rfl (fun Γ C0 _ => ?_)
  unfold f_X11_workOn at hf
  refine r_aload_n C0 dX11_workOn_0 rfl 0 rfl ?_
  refine r_aload_n C0 dX11_workOn_1 rfl 0 rfl ?_
  refine r_iconst (v := 3) C0 dX11_workOn_2 (by decide) ?_
  refine r_iald' (j := 3) C0 hk_p0 rfl rfl dX11_workOn_3 ?_
  refine r_callSi C0 (st := []) [.ref p0, .int (M p0 3)] hf vs_121 (fun hl r1 hr1 => c_X11_wavesOf hl F p0 (M p0 3) hk_p0 M r1 hr1) rfl rfl (Nat.le_of_ble_eq_true rfl) dX11_workOn_4 (zrm_ok rfl) (fun r1 hr1 hf => ?_)
  refine r_istore_n (L' := [(2, .int r1), (0, .ref p0), (1, .int p1)]) C0 dX11_workOn_7 rfl (by decide) rfl ?_
  refine r_aload_n C0 dX11_workOn_8 rfl 1 rfl ?_
  refine r_bipush (v := 10) C0 dX11_workOn_9 (by decide) ?_
  refine r_iald' (j := 10) C0 hk_p0 rfl rfl dX11_workOn_11 ?_
  refine r_iconst (v := 2) C0 dX11_workOn_12 (by decide) ?_
  refine r_icmp_ne C0 38 dX11_workOn_13 (by decide) hf (fun hf => ?_) (fun hf => ?_)
  · refine r_aload_n C0 dX11_workOn_38 rfl 1 rfl ?_
    refine r_bipush (v := 10) C0 dX11_workOn_39 (by decide) ?_
    refine r_iald' (j := 10) C0 hk_p0 rfl rfl dX11_workOn_41 ?_
    refine r_iconst (v := 1) C0 dX11_workOn_42 (by decide) ?_
    refine r_icmp_ne C0 88 dX11_workOn_43 (by decide) hf (fun hf => ?_) (fun hf => ?_)
    · refine r_aload_n C0 dX11_workOn_88 rfl 1 rfl ?_
      refine r_bipush (v := 7) C0 dX11_workOn_89 (by decide) ?_
      refine r_iald' (j := 7) C0 hk_p0 rfl rfl dX11_workOn_91 ?_
      refine r_callSi C0 (st := []) [.int (M p0 7)] hf vs_113 (fun hl r2 hr2 => c_X11_zoneAt hl F (M p0 7) M r2 hr2) rfl rfl (Nat.le_of_ble_eq_true rfl) dX11_workOn_92 (zrm_ok rfl) (fun r2 hr2 hf => ?_)
      refine r_istore_n (L' := [(3, .int r2), (2, .int r1), (0, .ref p0), (1, .int p1)]) C0 dX11_workOn_95 rfl (by decide) rfl ?_
      refine r_aload_n C0 dX11_workOn_96 rfl 2 rfl ?_
      refine r_iconst (v := 3) C0 dX11_workOn_97 (by decide) ?_
      refine r_iald' (j := 3) C0 hk_p0 rfl rfl dX11_workOn_98 ?_
      refine r_aload_n C0 dX11_workOn_99 rfl 2 rfl ?_
      refine r_iload_n C0 dX11_workOn_100 rfl 0 rfl ?_
      refine r_iconst (v := 1) C0 dX11_workOn_101 (by decide) ?_
      refine r_iadd C0 dX11_workOn_102 ?_
      refine r_iald C0 hk_p0 hf dX11_workOn_103 (fun hf => ?_)
      refine r_icmp_ge C0 111 dX11_workOn_104 (by decide) hf (fun hf => ?_) (fun hf => ?_)
      · refine r_aload_n C0 dX11_workOn_111 rfl 2 rfl ?_
        refine r_iconst (v := 3) C0 dX11_workOn_112 (by decide) ?_
        refine r_iald' (j := 3) C0 hk_p0 rfl rfl dX11_workOn_113 ?_
        refine r_aload_n C0 dX11_workOn_114 rfl 2 rfl ?_
        refine r_iload_n C0 dX11_workOn_115 rfl 0 rfl ?_
        refine r_iconst (v := 2) C0 dX11_workOn_116 (by decide) ?_
        refine r_iadd C0 dX11_workOn_117 ?_
        refine r_iald C0 hk_p0 hf dX11_workOn_118 (fun hf => ?_)
        refine r_icmp_le C0 126 dX11_workOn_119 (by decide) hf (fun hf => ?_) (fun hf => ?_)
        · refine r_iload_n C0 dX11_workOn_126 rfl 1 rfl ?_
          refine r_aload_n C0 dX11_workOn_127 rfl 2 rfl ?_
          refine r_iload_n C0 dX11_workOn_128 rfl 3 rfl ?_
          refine r_callSi C0 (st := [.ref p0, .int r1]) [.int p1] hf vs_115 (fun hl r3 hr3 => c_X11_shipAt hl F p1 M r3 hr3) rfl rfl (Nat.le_of_ble_eq_true rfl) dX11_workOn_129 (zrm_ok rfl) (fun r3 hr3 hf => ?_)
          refine r_iconst (v := 2) C0 dX11_workOn_132 (by decide) ?_
          refine r_iadd C0 dX11_workOn_133 ?_
          refine r_iald C0 hk_p0 hf dX11_workOn_134 (fun hf => ?_)
          refine r_icmp_le C0 142 dX11_workOn_135 (by decide) hf (fun hf => ?_) (fun hf => ?_)
          · refine r_aload_n C0 dX11_workOn_142 rfl 2 rfl ?_
            refine r_iload_n C0 dX11_workOn_143 rfl 3 rfl ?_
            refine r_callSim C0 (st := []) [.ref p0, .int p1] hf vs_122 (fun hl r4 hr4 => c_X11_layOn hl F p0 p1 hk_p0 M r4 hr4) rfl rfl (Nat.le_of_ble_eq_true rfl) dX11_workOn_144 (zrm_ok rfl) (fun r4 hr4 hf => ?_)
            obtain rfl := Option.some.inj hf
            exact r_iret C0 dX11_workOn_147
          · refine r_iconst (v := 3) C0 dX11_workOn_138 (by decide) ?_
            refine r_goto C0 147 dX11_workOn_139 (by decide) ?_
            obtain rfl := Option.some.inj hf
            exact r_iret C0 dX11_workOn_147
        · refine r_iconst (v := 2) C0 dX11_workOn_122 (by decide) ?_
          refine r_goto C0 147 dX11_workOn_123 (by decide) ?_
          obtain rfl := Option.some.inj hf
          exact r_iret C0 dX11_workOn_147
      · refine r_iconst (v := 1) C0 dX11_workOn_107 (by decide) ?_
        refine r_goto C0 147 dX11_workOn_108 (by decide) ?_
        obtain rfl := Option.some.inj hf
        exact r_iret C0 dX11_workOn_147
    · refine r_aload_n C0 dX11_workOn_46 rfl 1 rfl ?_
      refine r_callSi C0 (st := []) [.ref p0] hf vs_123 (fun hl r5 hr5 => c_X11_freeTeams hl F p0 hk_p0 M r5 hr5) rfl rfl (Nat.le_of_ble_eq_true rfl) dX11_workOn_47 (zrm_ok rfl) (fun r5 hr5 hf => ?_)
      refine r_if_eq C0 58 dX11_workOn_50 (by decide) hf (fun hf => ?_) (fun hf => ?_)
      · refine r_iconst (v := 5) C0 dX11_workOn_58 (by decide) ?_
        obtain rfl := Option.some.inj hf
        exact r_iret C0 dX11_workOn_59
      · refine r_iload_n C0 dX11_workOn_53 rfl 0 rfl ?_
        refine r_iconst (v := 3) C0 dX11_workOn_54 (by decide) ?_
        refine r_icmp_le C0 60 dX11_workOn_55 (by decide) hf (fun hf => ?_) (fun hf => ?_)
        · refine r_aload_n C0 dX11_workOn_60 rfl 1 rfl ?_
          refine r_bipush (v := 10) C0 dX11_workOn_61 (by decide) ?_
          refine r_iconst (v := 2) C0 dX11_workOn_63 (by decide) ?_
          refine r_iast' (j := 10) C0 hk_p0 rfl rfl hf dX11_workOn_64 (fun M6 hf => ?_)
          refine r_aload_n C0 dX11_workOn_65 rfl 1 rfl ?_
          refine r_bipush (v := 11) C0 dX11_workOn_66 (by decide) ?_
          refine r_aload_n C0 dX11_workOn_68 rfl 1 rfl ?_
          refine r_iconst (v := 1) C0 dX11_workOn_69 (by decide) ?_
          refine r_iald' (j := 1) C0 hk_p0 rfl rfl dX11_workOn_70 ?_
          refine r_iconst (v := 1) C0 dX11_workOn_71 (by decide) ?_
          refine r_isub C0 dX11_workOn_72 ?_
          refine r_iast' (j := 11) C0 hk_p0 rfl rfl hf dX11_workOn_73 (fun M7 hf => ?_)
          refine r_aload_n C0 dX11_workOn_74 rfl 1 rfl ?_
          refine r_bipush (v := 11) C0 dX11_workOn_75 (by decide) ?_
          refine r_iald' (j := 11) C0 hk_p0 rfl rfl dX11_workOn_77 ?_
          refine r_if_ne C0 86 dX11_workOn_78 (by decide) hf (fun hf => ?_) (fun hf => ?_)
          · refine r_iconst (v := 0) C0 dX11_workOn_86 (by decide) ?_
            obtain rfl := Option.some.inj hf
            exact r_iret C0 dX11_workOn_87
          · refine r_bipush (v := 10) C0 dX11_workOn_81 (by decide) ?_
            refine r_goto C0 87 dX11_workOn_83 (by decide) ?_
            obtain rfl := Option.some.inj hf
            exact r_iret C0 dX11_workOn_87
        · refine r_iconst (v := 5) C0 dX11_workOn_58 (by decide) ?_
          obtain rfl := Option.some.inj hf
          exact r_iret C0 dX11_workOn_59
  · refine r_aload_n C0 dX11_workOn_16 rfl 1 rfl ?_
    refine r_bipush (v := 11) C0 dX11_workOn_17 (by decide) ?_
    refine r_dup2 C0 dX11_workOn_19 rfl rfl ?_
    refine r_iald' (j := 11) C0 hk_p0 rfl rfl dX11_workOn_20 ?_
    refine r_iconst (v := 1) C0 dX11_workOn_21 (by decide) ?_
    refine r_isub C0 dX11_workOn_22 ?_
    refine r_iast' (j := 11) C0 hk_p0 rfl rfl hf dX11_workOn_23 (fun M8 hf => ?_)
    refine r_aload_n C0 dX11_workOn_24 rfl 1 rfl ?_
    refine r_bipush (v := 11) C0 dX11_workOn_25 (by decide) ?_
    refine r_iald' (j := 11) C0 hk_p0 rfl rfl dX11_workOn_27 ?_
    refine r_if_ne C0 36 dX11_workOn_28 (by decide) hf (fun hf => ?_) (fun hf => ?_)
    · refine r_iconst (v := 0) C0 dX11_workOn_36 (by decide) ?_
      obtain rfl := Option.some.inj hf
      exact r_iret C0 dX11_workOn_37
    · refine r_bipush (v := 10) C0 dX11_workOn_31 (by decide) ?_
      refine r_goto C0 37 dX11_workOn_33 (by decide) ?_
      obtain rfl := Option.some.inj hf
      exact r_iret C0 dX11_workOn_37
set_option maxHeartbeats 4000000 in
set_option maxRecDepth 100000 in
theorem g_X11_dayOn_283 {Γ : zCx} {E : zEn} {S : zSk} {X : zMl} {Z : Nat → Prop} (C0 : zCt Γ E RX11 cX11_dayOn 9 (Option.none : Option Jvm.ClassFile.FieldType) [] { frames := 5, cells := 0, slots := 0, locals := 115 }) (F : Nat) (p0 : Nat) (hk_p0 : S.1 p0 = some (.inr (0, 121)))  (M : zMi) (r : zMi)  (hf : f_X11_dayOn_283 F p0  M = some r) : zG Γ (zQ Γ E 0 0 S Z none r X) E 9 0 0 S Z M X 283 [(0, .ref p0)] [] := by
  unfold f_X11_dayOn_283 at hf
  refine r_aload_n C0 dX11_dayOn_283 rfl 0 rfl ?_
  refine r_iconst (v := 3) C0 dX11_dayOn_284 (by decide) ?_
  refine r_dup2 C0 dX11_dayOn_285 rfl rfl ?_
  refine r_iald' (j := 3) C0 hk_p0 rfl rfl dX11_dayOn_286 ?_
  refine r_iconst (v := 1) C0 dX11_dayOn_287 (by decide) ?_
  refine r_iadd C0 dX11_dayOn_288 ?_
  refine r_iast' (j := 3) C0 hk_p0 rfl rfl hf dX11_dayOn_289 (fun M1 hf => ?_)
  obtain rfl := Option.some.inj hf
  exact r_vret C0 dX11_dayOn_290
set_option maxHeartbeats 4000000 in
set_option maxRecDepth 100000 in
theorem g_X11_dayOn_222 {Γ : zCx} {E : zEn} {S : zSk} {X : zMl} {Z : Nat → Prop} (C0 : zCt Γ E RX11 cX11_dayOn 9 (Option.none : Option Jvm.ClassFile.FieldType) [] { frames := 5, cells := 0, slots := 0, locals := 115 }) (F : Nat) (p0 : Nat) (hk_p0 : S.1 p0 = some (.inr (0, 121))) : ∀ (n : Nat) (v6 : Int32) (v8 : Int32) (M : zMi) (r : zMi) , f_X11_dayOn_222 F p0 n v6 v8 M = some r → zG Γ (zQ Γ E 0 0 S Z none r X) E 9 0 0 S Z M X 222 [(0, .ref p0), (6, .int v6), (8, .int v8)] [] := by
  intro n
  induction n with
  | zero => intro v6 v8 M r; intro hf; cases hf
  | succ n ih =>
    intro v6 v8 M r hf
    refine r_iload C0 dX11_dayOn_222 2 rfl ?_
    refine r_aload_n C0 dX11_dayOn_224 rfl 0 rfl ?_
    refine r_iconst (v := 0) C0 dX11_dayOn_225 (by decide) ?_
    refine r_iald' (j := 0) C0 hk_p0 rfl rfl dX11_dayOn_226 ?_
    refine r_icmp_ge C0 261 dX11_dayOn_227 (by decide) hf (fun hf => ?_) (fun hf => ?_)
    · refine r_iload C0 dX11_dayOn_261 1 rfl ?_
      refine r_if_eq C0 283 dX11_dayOn_263 (by decide) hf (fun hf => ?_) (fun hf => ?_)
      · refine r_sub (L' := [(0, .ref p0)]) [0] rfl ?_
        exact g_X11_dayOn_283 C0 F p0 hk_p0  M _  hf
      · refine r_aload_n C0 dX11_dayOn_266 rfl 0 rfl ?_
        refine r_bipush (v := 10) C0 dX11_dayOn_267 (by decide) ?_
        refine r_iconst (v := 0) C0 dX11_dayOn_269 (by decide) ?_
        refine r_iast' (j := 10) C0 hk_p0 rfl rfl hf dX11_dayOn_270 (fun M1 hf => ?_)
        refine r_aload_n C0 dX11_dayOn_271 rfl 0 rfl ?_
        refine r_bipush (v := 12) C0 dX11_dayOn_272 (by decide) ?_
        refine r_dup2 C0 dX11_dayOn_274 rfl rfl ?_
        refine r_iald' (j := 12) C0 hk_p0 rfl rfl dX11_dayOn_275 ?_
        refine r_iconst (v := 1) C0 dX11_dayOn_276 (by decide) ?_
        refine r_iadd C0 dX11_dayOn_277 ?_
        refine r_iast' (j := 12) C0 hk_p0 rfl rfl hf dX11_dayOn_278 (fun M2 hf => ?_)
        refine r_aload_n C0 dX11_dayOn_279 rfl 0 rfl ?_
        refine r_callSm C0 (st := []) [.ref p0] hf vs_124 (fun hl r3 hr3 => c_X11_restOn hl F p0 hk_p0 M2 r3 hr3) rfl rfl (Nat.le_of_ble_eq_true rfl) dX11_dayOn_280 (zrm_ok rfl) (fun r3 hr3 hf => ?_)
        refine r_sub (L' := [(0, .ref p0)]) [0] rfl ?_
        exact g_X11_dayOn_283 C0 F p0 hk_p0  r3 _  hf
    · refine r_aload_n C0 dX11_dayOn_230 rfl 0 rfl ?_
      refine r_bipush (v := 13) C0 dX11_dayOn_231 (by decide) ?_
      refine r_iload C0 dX11_dayOn_233 2 rfl ?_
      refine r_iadd C0 dX11_dayOn_235 ?_
      refine r_nm hf (fun x4 hf => ?_)
      refine r_dup2 C0 dX11_dayOn_236 rfl rfl ?_
      refine r_iald C0 hk_p0 hf dX11_dayOn_237 (fun hf => ?_)
      refine r_aload_n C0 dX11_dayOn_238 rfl 0 rfl ?_
      refine r_bipush (v := 13) C0 dX11_dayOn_239 (by decide) ?_
      refine r_iload C0 dX11_dayOn_241 2 rfl ?_
      refine r_iadd C0 dX11_dayOn_243 ?_
      refine r_iald C0 hk_p0 hf dX11_dayOn_244 (fun hf => ?_)
      refine r_if_le C0 252 dX11_dayOn_245 (by decide) hf (fun hf => ?_) (fun hf => ?_)
      · refine r_iconst (v := 0) C0 dX11_dayOn_252 (by decide) ?_
        refine r_isub C0 dX11_dayOn_253 ?_
        refine r_iast C0 hk_p0 hf dX11_dayOn_254 (fun M5 hf => ?_)
        refine r_iinc (j := 2) (v := (v8 + (1 : Int32))) (L' := [(8, .int (v8 + (1 : Int32))), (0, .ref p0), (6, .int v6)]) C0 dX11_dayOn_255 rfl rfl (by decide) rfl ?_
        refine r_goto C0 222 dX11_dayOn_258 (by decide) ?_
        refine r_sub (L' := [(0, .ref p0), (6, .int v6), (8, .int (v8 + (1 : Int32)))]) [1, 2, 0] rfl ?_
        exact ih v6 (v8 + (1 : Int32)) M5 _  hf
      · refine r_iconst (v := 1) C0 dX11_dayOn_248 (by decide) ?_
        refine r_goto C0 253 dX11_dayOn_249 (by decide) ?_
        refine r_isub C0 dX11_dayOn_253 ?_
        refine r_iast C0 hk_p0 hf dX11_dayOn_254 (fun M6 hf => ?_)
        refine r_iinc (j := 2) (v := (v8 + (1 : Int32))) (L' := [(8, .int (v8 + (1 : Int32))), (0, .ref p0), (6, .int v6)]) C0 dX11_dayOn_255 rfl rfl (by decide) rfl ?_
        refine r_goto C0 222 dX11_dayOn_258 (by decide) ?_
        refine r_sub (L' := [(0, .ref p0), (6, .int v6), (8, .int (v8 + (1 : Int32)))]) [1, 2, 0] rfl ?_
        exact ih v6 (v8 + (1 : Int32)) M6 _  hf
set_option maxHeartbeats 4000000 in
set_option maxRecDepth 100000 in
theorem g_X11_dayOn_182 {Γ : zCx} {E : zEn} {S : zSk} {X : zMl} {Z : Nat → Prop} (C0 : zCt Γ E RX11 cX11_dayOn 9 (Option.none : Option Jvm.ClassFile.FieldType) [] { frames := 5, cells := 0, slots := 0, locals := 115 }) (F : Nat) (p0 : Nat) (hk_p0 : S.1 p0 = some (.inr (0, 121))) (v2 : Int32) (v3 : Int32) (v4 : Int32) (v6 : Int32) (s0 : Int32) (M : zMi) (r : zMi)  (hf : f_X11_dayOn_182 F p0 v2 v3 v4 v6 s0 M = some r) : zG Γ (zQ Γ E 0 0 S Z none r X) E 9 0 0 S Z M X 182 [(0, .ref p0), (2, .int v2), (3, .int v3), (4, .int v4), (6, .int v6)] [.int s0] := by
  unfold f_X11_dayOn_182 at hf
  refine r_istore (L' := [(7, .int s0), (0, .ref p0), (2, .int v2), (3, .int v3), (4, .int v4), (6, .int v6)]) C0 dX11_dayOn_182 (by decide) rfl ?_
  refine r_aload_n C0 dX11_dayOn_184 rfl 1 rfl ?_
  refine r_bipush (v := 19) C0 dX11_dayOn_185 (by decide) ?_
  refine r_dup2 C0 dX11_dayOn_187 rfl rfl ?_
  refine r_iald' (j := 19) C0 hk_p0 rfl rfl dX11_dayOn_188 ?_
  refine r_iload_n C0 dX11_dayOn_189 rfl 3 rfl ?_
  refine r_iadd C0 dX11_dayOn_190 ?_
  refine r_iast' (j := 19) C0 hk_p0 rfl rfl hf dX11_dayOn_191 (fun M1 hf => ?_)
  refine r_aload_n C0 dX11_dayOn_192 rfl 1 rfl ?_
  refine r_bipush (v := 20) C0 dX11_dayOn_193 (by decide) ?_
  refine r_dup2 C0 dX11_dayOn_195 rfl rfl ?_
  refine r_iald' (j := 20) C0 hk_p0 rfl rfl dX11_dayOn_196 ?_
  refine r_iload C0 dX11_dayOn_197 4 rfl ?_
  refine r_iload C0 dX11_dayOn_199 0 rfl ?_
  refine r_if_eq C0 215 dX11_dayOn_201 (by decide) hf (fun hf => ?_) (fun hf => ?_)
  · refine r_iconst (v := 0) C0 dX11_dayOn_215 (by decide) ?_
    refine r_iadd C0 dX11_dayOn_216 ?_
    refine r_iadd C0 dX11_dayOn_217 ?_
    refine r_iast' (j := 20) C0 hk_p0 rfl rfl hf dX11_dayOn_218 (fun M2 hf => ?_)
    refine r_iconst (v := 0) C0 dX11_dayOn_219 (by decide) ?_
    refine r_istore (L' := [(8, .int (0 : Int32)), (7, .int s0), (0, .ref p0), (2, .int v2), (3, .int v3), (4, .int v4), (6, .int v6)]) C0 dX11_dayOn_220 (by decide) rfl ?_
    refine r_sub (L' := [(0, .ref p0), (6, .int v6), (8, .int (0 : Int32))]) [2, 6, 0] rfl ?_
    exact g_X11_dayOn_222 C0 F p0 hk_p0 F v6 (0 : Int32) M2 _  hf
  · refine r_aload_n C0 dX11_dayOn_204 rfl 1 rfl ?_
    refine r_iload_n C0 dX11_dayOn_205 rfl 2 rfl ?_
    refine r_callSi C0 (st := [.ref p0, .int v4, .int (M1 p0 20), .int (20 : Int32), .ref p0]) [.int v2] hf vs_115 (fun hl r3 hr3 => c_X11_shipAt hl F v2 M1 r3 hr3) rfl rfl (Nat.le_of_ble_eq_true rfl) dX11_dayOn_206 (zrm_ok rfl) (fun r3 hr3 hf => ?_)
    refine r_iconst (v := 3) C0 dX11_dayOn_209 (by decide) ?_
    refine r_iadd C0 dX11_dayOn_210 ?_
    refine r_iald C0 hk_p0 hf dX11_dayOn_211 (fun hf => ?_)
    refine r_goto C0 216 dX11_dayOn_212 (by decide) ?_
    refine r_iadd C0 dX11_dayOn_216 ?_
    refine r_iadd C0 dX11_dayOn_217 ?_
    refine r_iast' (j := 20) C0 hk_p0 rfl rfl hf dX11_dayOn_218 (fun M4 hf => ?_)
    refine r_iconst (v := 0) C0 dX11_dayOn_219 (by decide) ?_
    refine r_istore (L' := [(8, .int (0 : Int32)), (7, .int s0), (0, .ref p0), (2, .int v2), (3, .int v3), (4, .int v4), (6, .int v6)]) C0 dX11_dayOn_220 (by decide) rfl ?_
    refine r_sub (L' := [(0, .ref p0), (6, .int v6), (8, .int (0 : Int32))]) [2, 6, 0] rfl ?_
    exact g_X11_dayOn_222 C0 F p0 hk_p0 F v6 (0 : Int32) M4 _  hf
set_option maxHeartbeats 4000000 in
set_option maxRecDepth 100000 in
theorem g_X11_dayOn_153 {Γ : zCx} {E : zEn} {S : zSk} {X : zMl} {Z : Nat → Prop} (C0 : zCt Γ E RX11 cX11_dayOn 9 (Option.none : Option Jvm.ClassFile.FieldType) [] { frames := 5, cells := 0, slots := 0, locals := 115 }) (F : Nat) (p0 : Nat) (hk_p0 : S.1 p0 = some (.inr (0, 121))) (v2 : Int32) (v3 : Int32) (v4 : Int32) (v6 : Int32) (s0 : Int32) (M : zMi) (r : zMi)  (hf : f_X11_dayOn_153 F p0 v2 v3 v4 v6 s0 M = some r) : zG Γ (zQ Γ E 0 0 S Z none r X) E 9 0 0 S Z M X 153 [(0, .ref p0), (2, .int v2), (3, .int v3), (4, .int v4), (6, .int v6)] [.int s0, .int (9 : Int32), .ref p0] := by
  unfold f_X11_dayOn_153 at hf
  refine r_iast' (j := 9) C0 hk_p0 rfl rfl hf dX11_dayOn_153 (fun M1 hf => ?_)
  refine r_aload_n C0 dX11_dayOn_154 rfl 0 rfl ?_
  refine r_bipush (v := 9) C0 dX11_dayOn_155 (by decide) ?_
  refine r_iald' (j := 9) C0 hk_p0 rfl rfl dX11_dayOn_157 ?_
  refine r_i2l C0 dX11_dayOn_158 ?_
  refine r_lconst (v := 1) C0 dX11_dayOn_159 (by decide) ?_
  refine r_ldc2 (v := 3) C0 qw_528 dX11_dayOn_160 ?_
  refine r_callSi C0 (st := []) [.long (((M1 p0 9)).toInt64), .long (1 : Int64), .long (3 : Int64)] hf vs_112 (fun hl r2 hr2 => c_X11_in hl F (((M1 p0 9)).toInt64) (1 : Int64) (3 : Int64) M1 r2 hr2) rfl rfl (Nat.le_of_ble_eq_true rfl) dX11_dayOn_163 (zrm_ok rfl) (fun r2 hr2 hf => ?_)
  refine r_if_ne C0 177 dX11_dayOn_166 (by decide) hf (fun hf => ?_) (fun hf => ?_)
  · refine r_iconst (v := 1) C0 dX11_dayOn_177 (by decide) ?_
    refine r_goto C0 182 dX11_dayOn_178 (by decide) ?_
    refine r_sub (L' := [(0, .ref p0), (2, .int v2), (3, .int v3), (4, .int v4), (6, .int v6)]) [0, 1, 2, 3, 4] rfl ?_
    exact g_X11_dayOn_182 C0 F p0 hk_p0 v2 v3 v4 v6 (1 : Int32) M1 _  hf
  · refine r_aload_n C0 dX11_dayOn_169 rfl 0 rfl ?_
    refine r_bipush (v := 9) C0 dX11_dayOn_170 (by decide) ?_
    refine r_iald' (j := 9) C0 hk_p0 rfl rfl dX11_dayOn_172 ?_
    refine r_iconst (v := 5) C0 dX11_dayOn_173 (by decide) ?_
    refine r_icmp_ne C0 181 dX11_dayOn_174 (by decide) hf (fun hf => ?_) (fun hf => ?_)
    · refine r_iconst (v := 0) C0 dX11_dayOn_181 (by decide) ?_
      refine r_sub (L' := [(0, .ref p0), (2, .int v2), (3, .int v3), (4, .int v4), (6, .int v6)]) [0, 1, 2, 3, 4] rfl ?_
      exact g_X11_dayOn_182 C0 F p0 hk_p0 v2 v3 v4 v6 (0 : Int32) M1 _  hf
    · refine r_iconst (v := 1) C0 dX11_dayOn_177 (by decide) ?_
      refine r_goto C0 182 dX11_dayOn_178 (by decide) ?_
      refine r_sub (L' := [(0, .ref p0), (2, .int v2), (3, .int v3), (4, .int v4), (6, .int v6)]) [0, 1, 2, 3, 4] rfl ?_
      exact g_X11_dayOn_182 C0 F p0 hk_p0 v2 v3 v4 v6 (1 : Int32) M1 _  hf
set_option maxHeartbeats 4000000 in
set_option maxRecDepth 100000 in
theorem g_X11_dayOn_137 {Γ : zCx} {E : zEn} {S : zSk} {X : zMl} {Z : Nat → Prop} (C0 : zCt Γ E RX11 cX11_dayOn 9 (Option.none : Option Jvm.ClassFile.FieldType) [] { frames := 5, cells := 0, slots := 0, locals := 115 }) (F : Nat) (p0 : Nat) (hk_p0 : S.1 p0 = some (.inr (0, 121))) (v2 : Int32) (v3 : Int32) (v4 : Int32) (v5 : Int32) (s0 : Int32) (M : zMi) (r : zMi)  (hf : f_X11_dayOn_137 F p0 v2 v3 v4 v5 s0 M = some r) : zG Γ (zQ Γ E 0 0 S Z none r X) E 9 0 0 S Z M X 137 [(0, .ref p0), (2, .int v2), (3, .int v3), (4, .int v4), (5, .int v5)] [.int s0] := by
  unfold f_X11_dayOn_137 at hf
  refine r_istore (L' := [(6, .int s0), (0, .ref p0), (2, .int v2), (3, .int v3), (4, .int v4), (5, .int v5)]) C0 dX11_dayOn_137 (by decide) rfl ?_
  refine r_aload_n C0 dX11_dayOn_139 rfl 1 rfl ?_
  refine r_bipush (v := 9) C0 dX11_dayOn_140 (by decide) ?_
  refine r_iload C0 dX11_dayOn_142 0 rfl ?_
  refine r_if_eq C0 151 dX11_dayOn_144 (by decide) hf (fun hf => ?_) (fun hf => ?_)
  · refine r_iload C0 dX11_dayOn_151 5 rfl ?_
    refine r_sub (L' := [(0, .ref p0), (2, .int v2), (3, .int v3), (4, .int v4), (6, .int s0)]) [1, 2, 3, 4, 0] rfl ?_
    exact g_X11_dayOn_153 C0 F p0 hk_p0 v2 v3 v4 s0 v5 M _  hf
  · refine r_iconst (v := 0) C0 dX11_dayOn_147 (by decide) ?_
    refine r_goto C0 153 dX11_dayOn_148 (by decide) ?_
    refine r_sub (L' := [(0, .ref p0), (2, .int v2), (3, .int v3), (4, .int v4), (6, .int s0)]) [1, 2, 3, 4, 0] rfl ?_
    exact g_X11_dayOn_153 C0 F p0 hk_p0 v2 v3 v4 s0 (0 : Int32) M _  hf
set_option maxHeartbeats 4000000 in
set_option maxRecDepth 100000 in
theorem g_X11_dayOn_123 {Γ : zCx} {E : zEn} {S : zSk} {X : zMl} {Z : Nat → Prop} (C0 : zCt Γ E RX11 cX11_dayOn 9 (Option.none : Option Jvm.ClassFile.FieldType) [] { frames := 5, cells := 0, slots := 0, locals := 115 }) (F : Nat) (p0 : Nat) (hk_p0 : S.1 p0 = some (.inr (0, 121))) (v2 : Int32) (v3 : Int32) (v4 : Int32) (s0 : Int32) (M : zMi) (r : zMi)  (hf : f_X11_dayOn_123 F p0 v2 v3 v4 s0 M = some r) : zG Γ (zQ Γ E 0 0 S Z none r X) E 9 0 0 S Z M X 123 [(0, .ref p0), (2, .int v2), (3, .int v3), (4, .int v4)] [.int s0] := by
  unfold f_X11_dayOn_123 at hf
  refine r_istore (L' := [(5, .int s0), (0, .ref p0), (2, .int v2), (3, .int v3), (4, .int v4)]) C0 dX11_dayOn_123 (by decide) rfl ?_
  refine r_iload C0 dX11_dayOn_125 0 rfl ?_
  refine r_bipush (v := 10) C0 dX11_dayOn_127 (by decide) ?_
  refine r_icmp_ne C0 136 dX11_dayOn_129 (by decide) hf (fun hf => ?_) (fun hf => ?_)
  · refine r_iconst (v := 0) C0 dX11_dayOn_136 (by decide) ?_
    refine r_sub (L' := [(0, .ref p0), (2, .int v2), (3, .int v3), (4, .int v4), (5, .int s0)]) [1, 2, 3, 4, 0] rfl ?_
    exact g_X11_dayOn_137 C0 F p0 hk_p0 v2 v3 v4 s0 (0 : Int32) M _  hf
  · refine r_iconst (v := 1) C0 dX11_dayOn_132 (by decide) ?_
    refine r_goto C0 137 dX11_dayOn_133 (by decide) ?_
    refine r_sub (L' := [(0, .ref p0), (2, .int v2), (3, .int v3), (4, .int v4), (5, .int s0)]) [1, 2, 3, 4, 0] rfl ?_
    exact g_X11_dayOn_137 C0 F p0 hk_p0 v2 v3 v4 s0 (1 : Int32) M _  hf
set_option maxHeartbeats 4000000 in
set_option maxRecDepth 100000 in
theorem g_X11_dayOn_60 {Γ : zCx} {E : zEn} {S : zSk} {X : zMl} {Z : Nat → Prop} (C0 : zCt Γ E RX11 cX11_dayOn 9 (Option.none : Option Jvm.ClassFile.FieldType) [] { frames := 5, cells := 0, slots := 0, locals := 115 }) (F : Nat) (p0 : Nat) (k_26 : Int32 → Int32 → Int32 → Int32 → Int32 → zMi → Option (zMi)) (hk_p0 : S.1 p0 = some (.inr (0, 121))) (hk_k_26 : ∀ (v1_ : Int32) (v2_ : Int32) (v3_ : Int32) (v4_ : Int32) (v5_ : Int32) (M : zMi) (r : zMi), k_26 v1_ v2_ v3_ v4_ v5_ M = some r → zG Γ (zQ Γ E 0 0 S Z none r X) E 9 0 0 S Z M X 26 [(0, .ref p0), (1, .int v1_), (2, .int v2_), (3, .int v3_), (4, .int v4_), (5, .int v5_)] []) (v1 : Int32) (v2 : Int32) (v4 : Int32) (v5 : Int32) (s0 : Int32) (s1 : Int32) (M : zMi) (r : zMi)  (hf : f_X11_dayOn_60 F p0 k_26 v1 v2 v4 v5 s0 s1 M = some r) : zG Γ (zQ Γ E 0 0 S Z none r X) E 9 0 0 S Z M X 60 [(0, .ref p0), (1, .int v1), (2, .int v2), (4, .int v4), (5, .int v5)] [.int s0, .int s1] := by
  unfold f_X11_dayOn_60 at hf
  refine r_iadd C0 dX11_dayOn_60 ?_
  refine r_nm hf (fun x1 hf => ?_)
  refine r_istore_n (L' := [(3, .int x1), (0, .ref p0), (1, .int v1), (2, .int v2), (4, .int v4), (5, .int v5)]) C0 dX11_dayOn_61 rfl (by decide) rfl ?_
  refine r_iload C0 dX11_dayOn_62 4 rfl ?_
  refine r_aload_n C0 dX11_dayOn_64 rfl 1 rfl ?_
  refine r_iload C0 dX11_dayOn_65 5 rfl ?_
  refine r_callSi C0 (st := [.ref p0, .int v4]) [.int v5] hf vs_115 (fun hl r2 hr2 => c_X11_shipAt hl F v5 M r2 hr2) rfl rfl (Nat.le_of_ble_eq_true rfl) dX11_dayOn_67 (zrm_ok rfl) (fun r2 hr2 hf => ?_)
  refine r_iconst (v := 5) C0 dX11_dayOn_70 (by decide) ?_
  refine r_iadd C0 dX11_dayOn_71 ?_
  refine r_iald C0 hk_p0 hf dX11_dayOn_72 (fun hf => ?_)
  refine r_iconst (v := 2) C0 dX11_dayOn_73 (by decide) ?_
  refine r_icmp_ne C0 89 dX11_dayOn_74 (by decide) hf (fun hf => ?_) (fun hf => ?_)
  · refine r_iconst (v := 0) C0 dX11_dayOn_89 (by decide) ?_
    refine r_iadd C0 dX11_dayOn_90 ?_
    refine r_nm hf (fun x3 hf => ?_)
    refine r_istore (L' := [(4, .int x3), (3, .int x1), (0, .ref p0), (1, .int v1), (2, .int v2), (5, .int v5)]) C0 dX11_dayOn_91 (by decide) rfl ?_
    refine r_iinc (j := 5) (v := (v5 + (1 : Int32))) (L' := [(5, .int (v5 + (1 : Int32))), (4, .int x3), (3, .int x1), (0, .ref p0), (1, .int v1), (2, .int v2)]) C0 dX11_dayOn_93 rfl rfl (by decide) rfl ?_
    refine r_goto C0 26 dX11_dayOn_96 (by decide) ?_
    refine r_sub (L' := [(0, .ref p0), (1, .int v1), (2, .int v2), (3, .int x1), (4, .int x3), (5, .int (v5 + (1 : Int32)))]) [3, 4, 5, 2, 1, 0] rfl ?_
    exact hk_k_26 v1 v2 x1 x3 (v5 + (1 : Int32)) M _  hf
  · refine r_aload_n C0 dX11_dayOn_77 rfl 1 rfl ?_
    refine r_iload C0 dX11_dayOn_78 5 rfl ?_
    refine r_callSi C0 (st := [.ref p0, .int v4]) [.int v5] hf vs_115 (fun hl r4 hr4 => c_X11_shipAt hl F v5 M r4 hr4) rfl rfl (Nat.le_of_ble_eq_true rfl) dX11_dayOn_80 (zrm_ok rfl) (fun r4 hr4 hf => ?_)
    refine r_iconst (v := 3) C0 dX11_dayOn_83 (by decide) ?_
    refine r_iadd C0 dX11_dayOn_84 ?_
    refine r_iald C0 hk_p0 hf dX11_dayOn_85 (fun hf => ?_)
    refine r_goto C0 90 dX11_dayOn_86 (by decide) ?_
    refine r_iadd C0 dX11_dayOn_90 ?_
    refine r_nm hf (fun x5 hf => ?_)
    refine r_istore (L' := [(4, .int x5), (3, .int x1), (0, .ref p0), (1, .int v1), (2, .int v2), (5, .int v5)]) C0 dX11_dayOn_91 (by decide) rfl ?_
    refine r_iinc (j := 5) (v := (v5 + (1 : Int32))) (L' := [(5, .int (v5 + (1 : Int32))), (4, .int x5), (3, .int x1), (0, .ref p0), (1, .int v1), (2, .int v2)]) C0 dX11_dayOn_93 rfl rfl (by decide) rfl ?_
    refine r_goto C0 26 dX11_dayOn_96 (by decide) ?_
    refine r_sub (L' := [(0, .ref p0), (1, .int v1), (2, .int v2), (3, .int x1), (4, .int x5), (5, .int (v5 + (1 : Int32)))]) [3, 4, 5, 2, 1, 0] rfl ?_
    exact hk_k_26 v1 v2 x1 x5 (v5 + (1 : Int32)) M _  hf
set_option maxHeartbeats 4000000 in
set_option maxRecDepth 100000 in
theorem g_X11_dayOn_26 {Γ : zCx} {E : zEn} {S : zSk} {X : zMl} {Z : Nat → Prop} (C0 : zCt Γ E RX11 cX11_dayOn 9 (Option.none : Option Jvm.ClassFile.FieldType) [] { frames := 5, cells := 0, slots := 0, locals := 115 }) (F : Nat) (p0 : Nat) (hk_p0 : S.1 p0 = some (.inr (0, 121))) : ∀ (n : Nat) (v1 : Int32) (v2 : Int32) (v3 : Int32) (v4 : Int32) (v5 : Int32) (M : zMi) (r : zMi) , f_X11_dayOn_26 F p0 n v1 v2 v3 v4 v5 M = some r → zG Γ (zQ Γ E 0 0 S Z none r X) E 9 0 0 S Z M X 26 [(0, .ref p0), (1, .int v1), (2, .int v2), (3, .int v3), (4, .int v4), (5, .int v5)] [] := by
  intro n
  induction n with
  | zero => intro v1 v2 v3 v4 v5 M r; intro hf; cases hf
  | succ n ih =>
    intro v1 v2 v3 v4 v5 M r hf
    refine r_iload C0 dX11_dayOn_26 5 rfl ?_
    refine r_aload_n C0 dX11_dayOn_28 rfl 0 rfl ?_
    refine r_iconst (v := 5) C0 dX11_dayOn_29 (by decide) ?_
    refine r_iald' (j := 5) C0 hk_p0 rfl rfl dX11_dayOn_30 ?_
    refine r_icmp_ge C0 99 dX11_dayOn_31 (by decide) hf (fun hf => ?_) (fun hf => ?_)
    · refine r_iload_n C0 dX11_dayOn_99 rfl 2 rfl ?_
      refine r_bipush (v := -9) C0 dX11_dayOn_100 (by decide) ?_
      refine r_icmp_ne C0 118 dX11_dayOn_102 (by decide) hf (fun hf => ?_) (fun hf => ?_)
      · refine r_aload_n C0 dX11_dayOn_118 rfl 0 rfl ?_
        refine r_iload_n C0 dX11_dayOn_119 rfl 2 rfl ?_
        refine r_callSim C0 (st := []) [.ref p0, .int v2] hf vs_125 (fun hl r1 hr1 => c_X11_workOn hl F p0 v2 hk_p0 M r1 hr1) rfl rfl (Nat.le_of_ble_eq_true rfl) dX11_dayOn_120 (zrm_ok rfl) (fun r1 hr1 hf => ?_)
        refine r_sub (L' := [(0, .ref p0), (2, .int v2), (3, .int v3), (4, .int v4)]) [0, 2, 3, 4] rfl ?_
        exact g_X11_dayOn_123 C0 F p0 hk_p0 v2 v3 v4 r1.1 r1.2 _  hf
      · refine r_iload_n C0 dX11_dayOn_105 rfl 1 rfl ?_
        refine r_if_eq C0 113 dX11_dayOn_106 (by decide) hf (fun hf => ?_) (fun hf => ?_)
        · refine r_bipush (v := 6) C0 dX11_dayOn_113 (by decide) ?_
          refine r_goto C0 123 dX11_dayOn_115 (by decide) ?_
          refine r_sub (L' := [(0, .ref p0), (2, .int v2), (3, .int v3), (4, .int v4)]) [0, 2, 3, 4] rfl ?_
          exact g_X11_dayOn_123 C0 F p0 hk_p0 v2 v3 v4 (6 : Int32) M _  hf
        · refine r_iconst (v := 0) C0 dX11_dayOn_109 (by decide) ?_
          refine r_goto C0 123 dX11_dayOn_110 (by decide) ?_
          refine r_sub (L' := [(0, .ref p0), (2, .int v2), (3, .int v3), (4, .int v4)]) [0, 2, 3, 4] rfl ?_
          exact g_X11_dayOn_123 C0 F p0 hk_p0 v2 v3 v4 (0 : Int32) M _  hf
    · refine r_iload_n C0 dX11_dayOn_34 rfl 3 rfl ?_
      refine r_aload_n C0 dX11_dayOn_35 rfl 0 rfl ?_
      refine r_iload C0 dX11_dayOn_36 5 rfl ?_
      refine r_callSi C0 (st := [.ref p0, .int v3]) [.int v5] hf vs_115 (fun hl r2 hr2 => c_X11_shipAt hl F v5 M r2 hr2) rfl rfl (Nat.le_of_ble_eq_true rfl) dX11_dayOn_38 (zrm_ok rfl) (fun r2 hr2 hf => ?_)
      refine r_iconst (v := 5) C0 dX11_dayOn_41 (by decide) ?_
      refine r_iadd C0 dX11_dayOn_42 ?_
      refine r_iald C0 hk_p0 hf dX11_dayOn_43 (fun hf => ?_)
      refine r_if_le C0 59 dX11_dayOn_44 (by decide) hf (fun hf => ?_) (fun hf => ?_)
      · refine r_iconst (v := 0) C0 dX11_dayOn_59 (by decide) ?_
        refine r_sub (L' := [(0, .ref p0), (1, .int v1), (2, .int v2), (4, .int v4), (5, .int v5)]) [0, 1, 2, 4, 5] rfl ?_
        exact g_X11_dayOn_60 C0 F p0 (f_X11_dayOn_26 F p0 n) hk_p0 ih v1 v2 v4 v5 (0 : Int32) v3 M _  hf
      · refine r_aload_n C0 dX11_dayOn_47 rfl 0 rfl ?_
        refine r_iload C0 dX11_dayOn_48 5 rfl ?_
        refine r_callSi C0 (st := [.ref p0, .int v3]) [.int v5] hf vs_115 (fun hl r3 hr3 => c_X11_shipAt hl F v5 M r3 hr3) rfl rfl (Nat.le_of_ble_eq_true rfl) dX11_dayOn_50 (zrm_ok rfl) (fun r3 hr3 hf => ?_)
        refine r_iconst (v := 3) C0 dX11_dayOn_53 (by decide) ?_
        refine r_iadd C0 dX11_dayOn_54 ?_
        refine r_iald C0 hk_p0 hf dX11_dayOn_55 (fun hf => ?_)
        refine r_goto C0 60 dX11_dayOn_56 (by decide) ?_
        refine r_sub (L' := [(0, .ref p0), (1, .int v1), (2, .int v2), (4, .int v4), (5, .int v5)]) [0, 1, 2, 4, 5] rfl ?_
        exact g_X11_dayOn_60 C0 F p0 (f_X11_dayOn_26 F p0 n) hk_p0 ih v1 v2 v4 v5 (M p0 (ix (r3 + (3 : Int32)))) v3 M _  hf
set_option maxHeartbeats 4000000 in
set_option maxRecDepth 100000 in
theorem c_X11_dayOn {l : Launch} {E : zEn} {S : zSk} {X : zMl} {Z : Nat → Prop} (hl : l.stackTraces = false) (F : Nat) (p0 : Nat) (hk_p0 : S.1 p0 = some (.inr (0, 121))) (M : zMi) (r : zMi) (hf : f_X11_dayOn F p0 M = some r) : zM l E yX11_dayOn cX11_dayOn 9 (Option.none : Option Jvm.ClassFile.FieldType) { frames := 5, cells := 0, slots := 0, locals := 115 } 0 0 [.ref p0] S Z M X S Z none r X := by
  refine zM.intro (L0 := [(0, .ref p0)]) hl (by decide) (Nat.le_of_ble_eq_true rfl) rfl (fun Γ C0 _ => ?_)
  unfold f_X11_dayOn at hf
  refine r_aload_n C0 dX11_dayOn_0 rfl 0 rfl ?_
  refine r_callSi C0 (st := []) [.ref p0] hf vs_116 (fun hl r1 hr1 => c_X11_isFinished hl F p0 hk_p0 M r1 hr1) rfl rfl (Nat.le_of_ble_eq_true rfl) dX11_dayOn_1 (zrm_ok rfl) (fun r1 hr1 hf => ?_)
  refine r_istore_n (L' := [(1, .int r1), (0, .ref p0)]) C0 dX11_dayOn_4 rfl (by decide) rfl ?_
  refine r_aload_n C0 dX11_dayOn_5 rfl 1 rfl ?_
  refine r_callSm C0 (st := []) [.ref p0] hf vs_126 (fun hl r2 hr2 => c_X11_sailOn hl F p0 hk_p0 M r2 hr2) rfl rfl (Nat.le_of_ble_eq_true rfl) dX11_dayOn_6 (zrm_ok rfl) (fun r2 hr2 hf => ?_)
  refine r_aload_n C0 dX11_dayOn_9 rfl 1 rfl ?_
  refine r_callSm C0 (st := []) [.ref p0] hf vs_127 (fun hl r3 hr3 => c_X11_comeOn hl F p0 hk_p0 r2 r3 hr3) rfl rfl (Nat.le_of_ble_eq_true rfl) dX11_dayOn_10 (zrm_ok rfl) (fun r3 hr3 hf => ?_)
  refine r_aload_n C0 dX11_dayOn_13 rfl 1 rfl ?_
  refine r_callSi C0 (st := []) [.ref p0] hf vs_117 (fun hl r4 hr4 => c_X11_frontShip hl F p0 hk_p0 r3 r4 hr4) rfl rfl (Nat.le_of_ble_eq_true rfl) dX11_dayOn_14 (zrm_ok rfl) (fun r4 hr4 hf => ?_)
  refine r_istore_n (L' := [(2, .int r4), (1, .int r1), (0, .ref p0)]) C0 dX11_dayOn_17 rfl (by decide) rfl ?_
  refine r_iconst (v := 0) C0 dX11_dayOn_18 (by decide) ?_
  refine r_istore_n (L' := [(3, .int (0 : Int32)), (2, .int r4), (1, .int r1), (0, .ref p0)]) C0 dX11_dayOn_19 rfl (by decide) rfl ?_
  refine r_iconst (v := 0) C0 dX11_dayOn_20 (by decide) ?_
  refine r_istore (L' := [(4, .int (0 : Int32)), (3, .int (0 : Int32)), (2, .int r4), (1, .int r1), (0, .ref p0)]) C0 dX11_dayOn_21 (by decide) rfl ?_
  refine r_iconst (v := 0) C0 dX11_dayOn_23 (by decide) ?_
  refine r_istore (L' := [(5, .int (0 : Int32)), (4, .int (0 : Int32)), (3, .int (0 : Int32)), (2, .int r4), (1, .int r1), (0, .ref p0)]) C0 dX11_dayOn_24 (by decide) rfl ?_
  refine r_sub (L' := [(0, .ref p0), (1, .int r1), (2, .int r4), (3, .int (0 : Int32)), (4, .int (0 : Int32)), (5, .int (0 : Int32))]) [5, 4, 3, 2, 1, 0] rfl ?_
  exact g_X11_dayOn_26 C0 F p0 hk_p0 F r1 r4 (0 : Int32) (0 : Int32) (0 : Int32) r3 _  hf
set_option maxHeartbeats 4000000 in
set_option maxRecDepth 100000 in
theorem g_X11_daysOn_7 {Γ : zCx} {E : zEn} {S : zSk} {X : zMl} {Z : Nat → Prop} (C0 : zCt Γ E RX11 cX11_daysOn 4 (Option.some Jvm.ClassFile.FieldType.int) [] { frames := 6, cells := 0, slots := 0, locals := 143 }) (F : Nat) (p0 : Nat) (p1 : Int32) (hk_p0 : S.1 p0 = some (.inr (0, 121))) : ∀ (n : Nat) (v2 : Int32) (v3 : Int32) (M : zMi) (r : Int32 × zMi) , f_X11_daysOn_7 F p0 p1 n v2 v3 M = some r → zG Γ (zQ Γ E 0 0 S Z (some (.int r.1)) r.2 X) E 4 0 0 S Z M X 7 [(0, .ref p0), (1, .int p1), (2, .int v2), (3, .int v3)] [] := by
  intro n
  induction n with
  | zero => intro v2 v3 M r; intro hf; cases hf
  | succ n ih =>
    intro v2 v3 M r hf
    refine r_iload_n C0 dX11_daysOn_7 rfl 3 rfl ?_
    refine r_iload_n C0 dX11_daysOn_8 rfl 1 rfl ?_
    refine r_icmp_ge C0 22 dX11_daysOn_9 (by decide) hf (fun hf => ?_) (fun hf => ?_)
    · refine r_aload_n C0 dX11_daysOn_22 rfl 0 rfl ?_
      refine r_bipush (v := 17) C0 dX11_daysOn_23 (by decide) ?_
      refine r_iald' (j := 17) C0 hk_p0 rfl rfl dX11_daysOn_25 ?_
      refine r_iload_n C0 dX11_daysOn_26 rfl 2 rfl ?_
      refine r_isub C0 dX11_daysOn_27 ?_
      obtain rfl := Option.some.inj hf
      exact r_iret C0 dX11_daysOn_28
    · refine r_aload_n C0 dX11_daysOn_12 rfl 0 rfl ?_
      refine r_callSm C0 (st := []) [.ref p0] hf vs_128 (fun hl r1 hr1 => c_X11_dayOn hl F p0 hk_p0 M r1 hr1) rfl rfl (Nat.le_of_ble_eq_true rfl) dX11_daysOn_13 (zrm_ok rfl) (fun r1 hr1 hf => ?_)
      refine r_iinc (j := 3) (v := (v3 + (1 : Int32))) (L' := [(3, .int (v3 + (1 : Int32))), (0, .ref p0), (1, .int p1), (2, .int v2)]) C0 dX11_daysOn_16 rfl rfl (by decide) rfl ?_
      refine r_goto C0 7 dX11_daysOn_19 (by decide) ?_
      refine r_sub (L' := [(0, .ref p0), (1, .int p1), (2, .int v2), (3, .int (v3 + (1 : Int32)))]) [1, 2, 3, 0] rfl ?_
      exact ih v2 (v3 + (1 : Int32)) r1 _  hf
set_option maxHeartbeats 4000000 in
set_option maxRecDepth 100000 in
theorem c_X11_daysOn {l : Launch} {E : zEn} {S : zSk} {X : zMl} {Z : Nat → Prop} (hl : l.stackTraces = false) (F : Nat) (p0 : Nat) (p1 : Int32) (hk_p0 : S.1 p0 = some (.inr (0, 121))) (M : zMi) (r : Int32 × zMi) (hf : f_X11_daysOn F p0 p1 M = some r) : zM l E yX11_daysOn cX11_daysOn 4 (Option.some Jvm.ClassFile.FieldType.int) { frames := 6, cells := 0, slots := 0, locals := 143 } 0 0 [.ref p0, .int p1] S Z M X S Z (some (.int r.1)) r.2 X := by
  refine zM.intro (L0 := [(0, .ref p0), (1, .int p1)]) hl (by decide) (Nat.le_of_ble_eq_true rfl) rfl (fun Γ C0 _ => ?_)
  unfold f_X11_daysOn at hf
  refine r_aload_n C0 dX11_daysOn_0 rfl 0 rfl ?_
  refine r_bipush (v := 17) C0 dX11_daysOn_1 (by decide) ?_
  refine r_iald' (j := 17) C0 hk_p0 rfl rfl dX11_daysOn_3 ?_
  refine r_nm hf (fun x1 hf => ?_)
  refine r_istore_n (L' := [(2, .int x1), (0, .ref p0), (1, .int p1)]) C0 dX11_daysOn_4 rfl (by decide) rfl ?_
  refine r_iconst (v := 0) C0 dX11_daysOn_5 (by decide) ?_
  refine r_istore_n (L' := [(3, .int (0 : Int32)), (2, .int x1), (0, .ref p0), (1, .int p1)]) C0 dX11_daysOn_6 rfl (by decide) rfl ?_
  refine r_sub (L' := [(0, .ref p0), (1, .int p1), (2, .int x1), (3, .int (0 : Int32))]) [2, 3, 1, 0] rfl ?_
  exact g_X11_daysOn_7 C0 F p0 p1 hk_p0 F x1 (0 : Int32) M _  hf
set_option maxHeartbeats 4000000 in
set_option maxRecDepth 100000 in
theorem c_X11_canTake {l : Launch} {E : zEn} {S : zSk} {X : zMl} {Z : Nat → Prop} (hl : l.stackTraces = false) (F : Nat) (p0 : Nat) (p1 : Int32) (p2 : Int32) (hk_p0 : S.1 p0 = some (.inr (0, 121))) (M : zMi) (r : Int32) (hf : f_X11_canTake F p0 p1 p2 M = some r) : zM l E yX11_canTake cX11_canTake 4 (Option.some Jvm.ClassFile.FieldType.boolean) { frames := 1, cells := 0, slots := 0, locals := 20 } 0 0 [.ref p0, .int p1, .int p2] S Z M X S Z (some (.int r)) M X := by
  refine zM.intro (L0 := [(0, .ref p0), (1, .int p1), (2, .int p2)]) hl (by decide) (Nat.le_of_ble_eq_true rfl) rfl (fun Γ C0 _ => ?_)
  unfold f_X11_canTake at hf
  refine r_iload_n C0 dX11_canTake_0 rfl 1 rfl ?_
  refine r_callSi C0 (st := []) [.int p1] hf vs_115 (fun hl r1 hr1 => c_X11_shipAt hl F p1 M r1 hr1) rfl rfl (Nat.le_of_ble_eq_true rfl) dX11_canTake_1 (zrm_ok rfl) (fun r1 hr1 hf => ?_)
  refine r_istore_n (L' := [(3, .int r1), (0, .ref p0), (1, .int p1), (2, .int p2)]) C0 dX11_canTake_4 rfl (by decide) rfl ?_
  refine r_aload_n C0 dX11_canTake_5 rfl 1 rfl ?_
  refine r_iload_n C0 dX11_canTake_6 rfl 0 rfl ?_
  refine r_iconst (v := 5) C0 dX11_canTake_7 (by decide) ?_
  refine r_iadd C0 dX11_canTake_8 ?_
  refine r_iald C0 hk_p0 hf dX11_canTake_9 (fun hf => ?_)
  refine r_if_ne C0 37 dX11_canTake_10 (by decide) hf (fun hf => ?_) (fun hf => ?_)
  · refine r_iconst (v := 0) C0 dX11_canTake_37 (by decide) ?_
    obtain rfl := Option.some.inj hf
    exact r_zret C0 rfl dX11_canTake_38
  · refine r_aload_n C0 dX11_canTake_13 rfl 1 rfl ?_
    refine r_iconst (v := 2) C0 dX11_canTake_14 (by decide) ?_
    refine r_iald' (j := 2) C0 hk_p0 rfl rfl dX11_canTake_15 ?_
    refine r_iload_n C0 dX11_canTake_16 rfl 3 rfl ?_
    refine r_icmp_lt C0 37 dX11_canTake_17 (by decide) hf (fun hf => ?_) (fun hf => ?_)
    · refine r_iconst (v := 0) C0 dX11_canTake_37 (by decide) ?_
      obtain rfl := Option.some.inj hf
      exact r_zret C0 rfl dX11_canTake_38
    · refine r_aload_n C0 dX11_canTake_20 rfl 1 rfl ?_
      refine r_iload_n C0 dX11_canTake_21 rfl 0 rfl ?_
      refine r_iald C0 hk_p0 hf dX11_canTake_22 (fun hf => ?_)
      refine r_aload_n C0 dX11_canTake_23 rfl 1 rfl ?_
      refine r_iload_n C0 dX11_canTake_24 rfl 0 rfl ?_
      refine r_iconst (v := 4) C0 dX11_canTake_25 (by decide) ?_
      refine r_iadd C0 dX11_canTake_26 ?_
      refine r_iald C0 hk_p0 hf dX11_canTake_27 (fun hf => ?_)
      refine r_isub C0 dX11_canTake_28 ?_
      refine r_iload_n C0 dX11_canTake_29 rfl 3 rfl ?_
      refine r_icmp_lt C0 37 dX11_canTake_30 (by decide) hf (fun hf => ?_) (fun hf => ?_)
      · refine r_iconst (v := 0) C0 dX11_canTake_37 (by decide) ?_
        obtain rfl := Option.some.inj hf
        exact r_zret C0 rfl dX11_canTake_38
      · refine r_iconst (v := 1) C0 dX11_canTake_33 (by decide) ?_
        refine r_goto C0 38 dX11_canTake_34 (by decide) ?_
        obtain rfl := Option.some.inj hf
        exact r_zret C0 rfl dX11_canTake_38
set_option maxHeartbeats 4000000 in
set_option maxRecDepth 100000 in
theorem c_X11_takeOn {l : Launch} {E : zEn} {S : zSk} {X : zMl} {Z : Nat → Prop} (hl : l.stackTraces = false) (F : Nat) (p0 : Nat) (p1 : Int32) (p2 : Int32) (hk_p0 : S.1 p0 = some (.inr (0, 121))) (M : zMi) (r : zMi) (hf : f_X11_takeOn F p0 p1 p2 M = some r) : zM l E yX11_takeOn cX11_takeOn 3 (Option.none : Option Jvm.ClassFile.FieldType) { frames := 1, cells := 0, slots := 0, locals := 20 } 0 0 [.ref p0, .int p1, .int p2] S Z M X S Z none r X := by
  refine zM.intro (L0 := [(0, .ref p0), (1, .int p1), (2, .int p2)]) hl (by decide) (Nat.le_of_ble_eq_true rfl) rfl (fun Γ C0 _ => ?_)
  unfold f_X11_takeOn at hf
  refine r_aload_n C0 dX11_takeOn_0 rfl 0 rfl ?_
  refine r_iconst (v := 2) C0 dX11_takeOn_1 (by decide) ?_
  refine r_dup2 C0 dX11_takeOn_2 rfl rfl ?_
  refine r_iald' (j := 2) C0 hk_p0 rfl rfl dX11_takeOn_3 ?_
  refine r_iload_n C0 dX11_takeOn_4 rfl 2 rfl ?_
  refine r_isub C0 dX11_takeOn_5 ?_
  refine r_iast' (j := 2) C0 hk_p0 rfl rfl hf dX11_takeOn_6 (fun M1 hf => ?_)
  refine r_aload_n C0 dX11_takeOn_7 rfl 0 rfl ?_
  refine r_iload_n C0 dX11_takeOn_8 rfl 1 rfl ?_
  refine r_callSi C0 (st := [.ref p0]) [.int p1] hf vs_115 (fun hl r2 hr2 => c_X11_shipAt hl F p1 M1 r2 hr2) rfl rfl (Nat.le_of_ble_eq_true rfl) dX11_takeOn_9 (zrm_ok rfl) (fun r2 hr2 hf => ?_)
  refine r_iconst (v := 4) C0 dX11_takeOn_12 (by decide) ?_
  refine r_iadd C0 dX11_takeOn_13 ?_
  refine r_nm hf (fun x3 hf => ?_)
  refine r_dup2 C0 dX11_takeOn_14 rfl rfl ?_
  refine r_iald C0 hk_p0 hf dX11_takeOn_15 (fun hf => ?_)
  refine r_iload_n C0 dX11_takeOn_16 rfl 2 rfl ?_
  refine r_iadd C0 dX11_takeOn_17 ?_
  refine r_iast C0 hk_p0 hf dX11_takeOn_18 (fun M4 hf => ?_)
  obtain rfl := Option.some.inj hf
  exact r_vret C0 dX11_takeOn_19
set_option maxHeartbeats 4000000 in
set_option maxRecDepth 100000 in
theorem c_X11_canSend {l : Launch} {E : zEn} {S : zSk} {X : zMl} {Z : Nat → Prop} (hl : l.stackTraces = false) (F : Nat) (p0 : Nat) (p1 : Int32) (hk_p0 : S.1 p0 = some (.inr (0, 121))) (M : zMi) (r : Int32) (hf : f_X11_canSend F p0 p1 M = some r) : zM l E yX11_canSend cX11_canSend 2 (Option.some Jvm.ClassFile.FieldType.boolean) { frames := 1, cells := 0, slots := 0, locals := 20 } 0 0 [.ref p0, .int p1] S Z M X S Z (some (.int r)) M X := by
  refine zM.intro (L0 := [(0, .ref p0), (1, .int p1)]) hl (by decide) (Nat.le_of_ble_eq_true rfl) rfl (fun Γ C0 _ => ?_)
  unfold f_X11_canSend at hf
  refine r_aload_n C0 dX11_canSend_0 rfl 0 rfl ?_
  refine r_iload_n C0 dX11_canSend_1 rfl 1 rfl ?_
  refine r_callSi C0 (st := [.ref p0]) [.int p1] hf vs_115 (fun hl r1 hr1 => c_X11_shipAt hl F p1 M r1 hr1) rfl rfl (Nat.le_of_ble_eq_true rfl) dX11_canSend_2 (zrm_ok rfl) (fun r1 hr1 hf => ?_)
  refine r_iconst (v := 5) C0 dX11_canSend_5 (by decide) ?_
  refine r_iadd C0 dX11_canSend_6 ?_
  refine r_iald C0 hk_p0 hf dX11_canSend_7 (fun hf => ?_)
  refine r_if_ne C0 22 dX11_canSend_8 (by decide) hf (fun hf => ?_) (fun hf => ?_)
  · refine r_iconst (v := 0) C0 dX11_canSend_22 (by decide) ?_
    obtain rfl := Option.some.inj hf
    exact r_zret C0 rfl dX11_canSend_23
  · refine r_aload_n C0 dX11_canSend_11 rfl 0 rfl ?_
    refine r_callSi C0 (st := []) [.ref p0] hf vs_116 (fun hl r2 hr2 => c_X11_isFinished hl F p0 hk_p0 M r2 hr2) rfl rfl (Nat.le_of_ble_eq_true rfl) dX11_canSend_12 (zrm_ok rfl) (fun r2 hr2 hf => ?_)
    refine r_if_ne C0 22 dX11_canSend_15 (by decide) hf (fun hf => ?_) (fun hf => ?_)
    · refine r_iconst (v := 0) C0 dX11_canSend_22 (by decide) ?_
      obtain rfl := Option.some.inj hf
      exact r_zret C0 rfl dX11_canSend_23
    · refine r_iconst (v := 1) C0 dX11_canSend_18 (by decide) ?_
      refine r_goto C0 23 dX11_canSend_19 (by decide) ?_
      obtain rfl := Option.some.inj hf
      exact r_zret C0 rfl dX11_canSend_23
set_option maxHeartbeats 4000000 in
set_option maxRecDepth 100000 in
theorem c_X11_sendOn {l : Launch} {E : zEn} {S : zSk} {X : zMl} {Z : Nat → Prop} (hl : l.stackTraces = false) (F : Nat) (p0 : Nat) (p1 : Int32) (hk_p0 : S.1 p0 = some (.inr (0, 121))) (M : zMi) (r : Int32 × zMi) (hf : f_X11_sendOn F p0 p1 M = some r) : zM l E yX11_sendOn cX11_sendOn 2 (Option.some Jvm.ClassFile.FieldType.int) { frames := 1, cells := 0, slots := 0, locals := 20 } 0 0 [.ref p0, .int p1] S Z M X S Z (some (.int r.1)) r.2 X := by
  refine zM.intro (L0 := [(0, .ref p0), (1, .int p1)]) hl (by decide) (Nat.le_of_ble_eq_true rfl) rfl (fun Γ C0 _ => ?_)
  unfold f_X11_sendOn at hf
  refine r_aload_n C0 dX11_sendOn_0 rfl 0 rfl ?_
  refine r_iload_n C0 dX11_sendOn_1 rfl 1 rfl ?_
  refine r_callSi C0 (st := [.ref p0]) [.int p1] hf vs_115 (fun hl r1 hr1 => c_X11_shipAt hl F p1 M r1 hr1) rfl rfl (Nat.le_of_ble_eq_true rfl) dX11_sendOn_2 (zrm_ok rfl) (fun r1 hr1 hf => ?_)
  refine r_iconst (v := 5) C0 dX11_sendOn_5 (by decide) ?_
  refine r_iadd C0 dX11_sendOn_6 ?_
  refine r_iconst (v := 1) C0 dX11_sendOn_7 (by decide) ?_
  refine r_iast C0 hk_p0 hf dX11_sendOn_8 (fun M2 hf => ?_)
  refine r_aload_n C0 dX11_sendOn_9 rfl 0 rfl ?_
  refine r_iload_n C0 dX11_sendOn_10 rfl 1 rfl ?_
  refine r_callSi C0 (st := [.ref p0]) [.int p1] hf vs_115 (fun hl r3 hr3 => c_X11_shipAt hl F p1 M2 r3 hr3) rfl rfl (Nat.le_of_ble_eq_true rfl) dX11_sendOn_11 (zrm_ok rfl) (fun r3 hr3 hf => ?_)
  refine r_bipush (v := 6) C0 dX11_sendOn_14 (by decide) ?_
  refine r_iadd C0 dX11_sendOn_16 ?_
  refine r_aload_n C0 dX11_sendOn_17 rfl 0 rfl ?_
  refine r_bipush (v := 7) C0 dX11_sendOn_18 (by decide) ?_
  refine r_iald' (j := 7) C0 hk_p0 rfl rfl dX11_sendOn_20 ?_
  refine r_iconst (v := 1) C0 dX11_sendOn_21 (by decide) ?_
  refine r_iadd C0 dX11_sendOn_22 ?_
  refine r_iast C0 hk_p0 hf dX11_sendOn_23 (fun M4 hf => ?_)
  refine r_aload_n C0 dX11_sendOn_24 rfl 0 rfl ?_
  refine r_bipush (v := 7) C0 dX11_sendOn_25 (by decide) ?_
  refine r_iald' (j := 7) C0 hk_p0 rfl rfl dX11_sendOn_27 ?_
  refine r_iconst (v := 1) C0 dX11_sendOn_28 (by decide) ?_
  refine r_iadd C0 dX11_sendOn_29 ?_
  obtain rfl := Option.some.inj hf
  exact r_iret C0 dX11_sendOn_30
set_option maxHeartbeats 4000000 in
set_option maxRecDepth 100000 in
theorem c_X11_canRecall {l : Launch} {E : zEn} {S : zSk} {X : zMl} {Z : Nat → Prop} (hl : l.stackTraces = false) (F : Nat) (p0 : Nat) (p1 : Int32) (hk_p0 : S.1 p0 = some (.inr (0, 121))) (M : zMi) (r : Int32) (hf : f_X11_canRecall F p0 p1 M = some r) : zM l E yX11_canRecall cX11_canRecall 2 (Option.some Jvm.ClassFile.FieldType.boolean) { frames := 1, cells := 0, slots := 0, locals := 25 } 0 0 [.ref p0, .int p1] S Z M X S Z (some (.int r)) M X := by
  refine zM.intro (L0 := [(0, .ref p0), (1, .int p1)]) hl (by decide) (Nat.le_of_ble_eq_true rfl) rfl (fun Γ C0 _ => ?_)
  unfold f_X11_canRecall at hf
  refine r_aload_n C0 dX11_canRecall_0 rfl 0 rfl ?_
  refine r_iload_n C0 dX11_canRecall_1 rfl 1 rfl ?_
  refine r_callSi C0 (st := [.ref p0]) [.int p1] hf vs_115 (fun hl r1 hr1 => c_X11_shipAt hl F p1 M r1 hr1) rfl rfl (Nat.le_of_ble_eq_true rfl) dX11_canRecall_2 (zrm_ok rfl) (fun r1 hr1 hf => ?_)
  refine r_iconst (v := 5) C0 dX11_canRecall_5 (by decide) ?_
  refine r_iadd C0 dX11_canRecall_6 ?_
  refine r_iald C0 hk_p0 hf dX11_canRecall_7 (fun hf => ?_)
  refine r_i2l C0 dX11_canRecall_8 ?_
  refine r_ldc2 (v := 2) C0 qw_541 dX11_canRecall_9 ?_
  refine r_ldc2 (v := 3) C0 qw_528 dX11_canRecall_12 ?_
  refine r_callSi C0 (st := []) [.long (((M p0 (ix (r1 + (5 : Int32))))).toInt64), .long (2 : Int64), .long (3 : Int64)] hf vs_112 (fun hl r2 hr2 => c_X11_in hl F (((M p0 (ix (r1 + (5 : Int32))))).toInt64) (2 : Int64) (3 : Int64) M r2 hr2) rfl rfl (Nat.le_of_ble_eq_true rfl) dX11_canRecall_15 (zrm_ok rfl) (fun r2 hr2 hf => ?_)
  obtain ⟨hv, hf⟩ := grd_some hf
  obtain rfl := Option.some.inj hf
  exact r_zret C0 hv dX11_canRecall_18
set_option maxHeartbeats 4000000 in
set_option maxRecDepth 100000 in
theorem g_X11_recallOn_24 {Γ : zCx} {E : zEn} {S : zSk} {X : zMl} {Z : Nat → Prop} (C0 : zCt Γ E RX11 cX11_recallOn 2 (Option.some Jvm.ClassFile.FieldType.int) [] { frames := 2, cells := 0, slots := 0, locals := 42 }) (F : Nat) (p0 : Nat) (p1 : Int32) (hk_p0 : S.1 p0 = some (.inr (0, 121)))  (M : zMi) (r : Int32 × zMi)  (hf : f_X11_recallOn_24 F p0 p1  M = some r) : zG Γ (zQ Γ E 0 0 S Z (some (.int r.1)) r.2 X) E 2 0 0 S Z M X 24 [(0, .ref p0), (1, .int p1)] [] := by
  unfold f_X11_recallOn_24 at hf
  refine r_aload_n C0 dX11_recallOn_24 rfl 0 rfl ?_
  refine r_iload_n C0 dX11_recallOn_25 rfl 1 rfl ?_
  refine r_aload_n C0 dX11_recallOn_26 rfl 0 rfl ?_
  refine r_callSi C0 (st := [.int p1, .ref p0]) [.ref p0] hf vs_119 (fun hl r1 hr1 => c_X11_wayOf hl F p0 hk_p0 M r1 hr1) rfl rfl (Nat.le_of_ble_eq_true rfl) dX11_recallOn_27 (zrm_ok rfl) (fun r1 hr1 hf => ?_)
  refine r_callSm C0 (st := []) [.ref p0, .int p1, .int r1] hf vs_120 (fun hl r2 hr2 => c_X11_goHome hl F p0 p1 r1 hk_p0 M r2 hr2) rfl rfl (Nat.le_of_ble_eq_true rfl) dX11_recallOn_30 (zrm_ok rfl) (fun r2 hr2 hf => ?_)
  refine r_aload_n C0 dX11_recallOn_33 rfl 0 rfl ?_
  refine r_iload_n C0 dX11_recallOn_34 rfl 1 rfl ?_
  refine r_callSi C0 (st := [.ref p0]) [.int p1] hf vs_115 (fun hl r3 hr3 => c_X11_shipAt hl F p1 r2 r3 hr3) rfl rfl (Nat.le_of_ble_eq_true rfl) dX11_recallOn_35 (zrm_ok rfl) (fun r3 hr3 hf => ?_)
  refine r_bipush (v := 6) C0 dX11_recallOn_38 (by decide) ?_
  refine r_iadd C0 dX11_recallOn_40 ?_
  refine r_iald C0 hk_p0 hf dX11_recallOn_41 (fun hf => ?_)
  obtain rfl := Option.some.inj hf
  exact r_iret C0 dX11_recallOn_42
set_option maxHeartbeats 4000000 in
set_option maxRecDepth 100000 in
theorem c_X11_recallOn {l : Launch} {E : zEn} {S : zSk} {X : zMl} {Z : Nat → Prop} (hl : l.stackTraces = false) (F : Nat) (p0 : Nat) (p1 : Int32) (hk_p0 : S.1 p0 = some (.inr (0, 121))) (M : zMi) (r : Int32 × zMi) (hf : f_X11_recallOn F p0 p1 M = some r) : zM l E yX11_recallOn cX11_recallOn 2 (Option.some Jvm.ClassFile.FieldType.int) { frames := 2, cells := 0, slots := 0, locals := 42 } 0 0 [.ref p0, .int p1] S Z M X S Z (some (.int r.1)) r.2 X := by
  refine zM.intro (L0 := [(0, .ref p0), (1, .int p1)]) hl (by decide) (Nat.le_of_ble_eq_true rfl) rfl (fun Γ C0 _ => ?_)
  unfold f_X11_recallOn at hf
  refine r_aload_n C0 dX11_recallOn_0 rfl 0 rfl ?_
  refine r_iload_n C0 dX11_recallOn_1 rfl 1 rfl ?_
  refine r_callSi C0 (st := [.ref p0]) [.int p1] hf vs_115 (fun hl r1 hr1 => c_X11_shipAt hl F p1 M r1 hr1) rfl rfl (Nat.le_of_ble_eq_true rfl) dX11_recallOn_2 (zrm_ok rfl) (fun r1 hr1 hf => ?_)
  refine r_iconst (v := 5) C0 dX11_recallOn_5 (by decide) ?_
  refine r_iadd C0 dX11_recallOn_6 ?_
  refine r_iald C0 hk_p0 hf dX11_recallOn_7 (fun hf => ?_)
  refine r_iconst (v := 3) C0 dX11_recallOn_8 (by decide) ?_
  refine r_icmp_ne C0 24 dX11_recallOn_9 (by decide) hf (fun hf => ?_) (fun hf => ?_)
  · refine r_sub (L' := [(0, .ref p0), (1, .int p1)]) [0, 1] rfl ?_
    exact g_X11_recallOn_24 C0 F p0 p1 hk_p0  M _  hf
  · refine r_aload_n C0 dX11_recallOn_12 rfl 0 rfl ?_
    refine r_bipush (v := 10) C0 dX11_recallOn_13 (by decide) ?_
    refine r_iald' (j := 10) C0 hk_p0 rfl rfl dX11_recallOn_15 ?_
    refine r_iconst (v := 2) C0 dX11_recallOn_16 (by decide) ?_
    refine r_icmp_ne C0 24 dX11_recallOn_17 (by decide) hf (fun hf => ?_) (fun hf => ?_)
    · refine r_sub (L' := [(0, .ref p0), (1, .int p1)]) [0, 1] rfl ?_
      exact g_X11_recallOn_24 C0 F p0 p1 hk_p0  M _  hf
    · refine r_aload_n C0 dX11_recallOn_20 rfl 0 rfl ?_
      refine r_callSm C0 (st := []) [.ref p0] hf vs_124 (fun hl r2 hr2 => c_X11_restOn hl F p0 hk_p0 M r2 hr2) rfl rfl (Nat.le_of_ble_eq_true rfl) dX11_recallOn_21 (zrm_ok rfl) (fun r2 hr2 hf => ?_)
      refine r_sub (L' := [(0, .ref p0), (1, .int p1)]) [0, 1] rfl ?_
      exact g_X11_recallOn_24 C0 F p0 p1 hk_p0  r2 _  hf
set_option maxHeartbeats 4000000 in
set_option maxRecDepth 100000 in
theorem c_X11_fillAndSend {l : Launch} {E : zEn} {S : zSk} {X : zMl} {Z : Nat → Prop} (hl : l.stackTraces = false) (F : Nat) (p0 : Nat) (p1 : Int32) (hk_p0 : S.1 p0 = some (.inr (0, 121))) (M : zMi) (r : zMi) (hf : f_X11_fillAndSend F p0 p1 M = some r) : zM l E yX11_fillAndSend cX11_fillAndSend 3 (Option.none : Option Jvm.ClassFile.FieldType) { frames := 2, cells := 0, slots := 0, locals := 42 } 0 0 [.ref p0, .int p1] S Z M X S Z none r X := by
  refine zM.intro (L0 := [(0, .ref p0), (1, .int p1)]) hl (by decide) (Nat.le_of_ble_eq_true rfl) rfl (fun Γ C0 _ => ?_)
  unfold f_X11_fillAndSend at hf
  refine r_aload_n C0 dX11_fillAndSend_0 rfl 0 rfl ?_
  refine r_iload_n C0 dX11_fillAndSend_1 rfl 1 rfl ?_
  refine r_callSi C0 (st := [.ref p0]) [.int p1] hf vs_115 (fun hl r1 hr1 => c_X11_shipAt hl F p1 M r1 hr1) rfl rfl (Nat.le_of_ble_eq_true rfl) dX11_fillAndSend_2 (zrm_ok rfl) (fun r1 hr1 hf => ?_)
  refine r_iald C0 hk_p0 hf dX11_fillAndSend_5 (fun hf => ?_)
  refine r_aload_n C0 dX11_fillAndSend_6 rfl 0 rfl ?_
  refine r_iload_n C0 dX11_fillAndSend_7 rfl 1 rfl ?_
  refine r_callSi C0 (st := [.ref p0, .int (M p0 (ix r1))]) [.int p1] hf vs_115 (fun hl r2 hr2 => c_X11_shipAt hl F p1 M r2 hr2) rfl rfl (Nat.le_of_ble_eq_true rfl) dX11_fillAndSend_8 (zrm_ok rfl) (fun r2 hr2 hf => ?_)
  refine r_iconst (v := 4) C0 dX11_fillAndSend_11 (by decide) ?_
  refine r_iadd C0 dX11_fillAndSend_12 ?_
  refine r_iald C0 hk_p0 hf dX11_fillAndSend_13 (fun hf => ?_)
  refine r_isub C0 dX11_fillAndSend_14 ?_
  refine r_nm hf (fun x3 hf => ?_)
  refine r_istore_n (L' := [(2, .int x3), (0, .ref p0), (1, .int p1)]) C0 dX11_fillAndSend_15 rfl (by decide) rfl ?_
  refine r_aload_n C0 dX11_fillAndSend_16 rfl 1 rfl ?_
  refine r_iload_n C0 dX11_fillAndSend_17 rfl 2 rfl ?_
  refine r_iload_n C0 dX11_fillAndSend_18 rfl 0 rfl ?_
  refine r_aload_n C0 dX11_fillAndSend_19 rfl 1 rfl ?_
  refine r_iconst (v := 2) C0 dX11_fillAndSend_20 (by decide) ?_
  refine r_iald' (j := 2) C0 hk_p0 rfl rfl dX11_fillAndSend_21 ?_
  refine r_icmp_ge C0 29 dX11_fillAndSend_22 (by decide) hf (fun hf => ?_) (fun hf => ?_)
  · refine r_aload_n C0 dX11_fillAndSend_29 rfl 1 rfl ?_
    refine r_iconst (v := 2) C0 dX11_fillAndSend_30 (by decide) ?_
    refine r_iald' (j := 2) C0 hk_p0 rfl rfl dX11_fillAndSend_31 ?_
    refine r_callSm C0 (st := []) [.ref p0, .int p1, .int (M p0 2)] hf vs_129 (fun hl r4 hr4 => c_X11_takeOn hl F p0 p1 (M p0 2) hk_p0 M r4 hr4) rfl rfl (Nat.le_of_ble_eq_true rfl) dX11_fillAndSend_32 (zrm_ok rfl) (fun r4 hr4 hf => ?_)
    refine r_aload_n C0 dX11_fillAndSend_35 rfl 1 rfl ?_
    refine r_iload_n C0 dX11_fillAndSend_36 rfl 2 rfl ?_
    refine r_callSim C0 (st := []) [.ref p0, .int p1] hf vs_130 (fun hl r5 hr5 => c_X11_sendOn hl F p0 p1 hk_p0 r4 r5 hr5) rfl rfl (Nat.le_of_ble_eq_true rfl) dX11_fillAndSend_37 (zrm_ok rfl) (fun r5 hr5 hf => ?_)
    refine r_pop C0 dX11_fillAndSend_40 rfl ?_
    obtain rfl := Option.some.inj hf
    exact r_vret C0 dX11_fillAndSend_41
  · refine r_iload_n C0 dX11_fillAndSend_25 rfl 0 rfl ?_
    refine r_goto C0 32 dX11_fillAndSend_26 (by decide) ?_
    refine r_callSm C0 (st := []) [.ref p0, .int p1, .int x3] hf vs_129 (fun hl r6 hr6 => c_X11_takeOn hl F p0 p1 x3 hk_p0 M r6 hr6) rfl rfl (Nat.le_of_ble_eq_true rfl) dX11_fillAndSend_32 (zrm_ok rfl) (fun r6 hr6 hf => ?_)
    refine r_aload_n C0 dX11_fillAndSend_35 rfl 1 rfl ?_
    refine r_iload_n C0 dX11_fillAndSend_36 rfl 2 rfl ?_
    refine r_callSim C0 (st := []) [.ref p0, .int p1] hf vs_130 (fun hl r7 hr7 => c_X11_sendOn hl F p0 p1 hk_p0 r6 r7 hr7) rfl rfl (Nat.le_of_ble_eq_true rfl) dX11_fillAndSend_37 (zrm_ok rfl) (fun r7 hr7 hf => ?_)
    refine r_pop C0 dX11_fillAndSend_40 rfl ?_
    obtain rfl := Option.some.inj hf
    exact r_vret C0 dX11_fillAndSend_41
set_option maxHeartbeats 4000000 in
set_option maxRecDepth 100000 in
theorem g_X11_append_32 {Γ : zCx} {E : zEn} {S : zSk} {X : zMl} {Z : Nat → Prop} (C0 : zCt Γ E RX11 cX11_append 2 (Option.some Jvm.ClassFile.FieldType.int) [] { frames := 1, cells := 0, slots := 0, locals := 25 }) (F : Nat) (p0 : Nat) (p1 : Int32) (hk_p0 : K_X11 S p0) (s0 : Int32) (M : zMi) (r : Int32 × zMi)  (hf : f_X11_append_32 F p0 p1 s0 M = some r) : zG Γ (zQ Γ E 0 0 S Z (some (.int r.1)) r.2 X) E 2 0 0 S Z M X 32 [(0, .ref p0), (1, .int p1)] [.int s0, .ref p0] := by
  unfold f_X11_append_32 at hf
  refine r_callVim C0 (st := []) [.int s0] p0 hf vs_131 (fun hl r1 hr1 => c_X11_refused hl F p0 s0 hk_p0 M r1 hr1) (K_X11_o hk_p0) rfl rfl rfl rfl (Nat.le_of_ble_eq_true rfl) dX11_append_32 (zrm_ok rfl) (fun r1 hr1 hf => ?_)
  refine r_if_eq C0 40 dX11_append_35 (by decide) hf (fun hf => ?_) (fun hf => ?_)
  · refine r_aload_n C0 dX11_append_40 rfl 0 rfl ?_
    refine r_getR C0 (C := RX11) (T := TX11) cl_X11 (K_X11_o hk_p0) (k := 1) (by decide) qw_552 rfl (K_X11_text_r hk_p0) dX11_append_41 ?_
    refine r_aload_n C0 dX11_append_44 rfl 0 rfl ?_
    refine r_getI C0 (C := RX11) (T := TX11) cl_X11 (K_X11_o hk_p0) (k := 2) (by decide) qw_553 rfl dX11_append_45 ?_
    refine r_iload_n C0 dX11_append_48 rfl 1 rfl ?_
    refine r_iast C0 (K_X11_text_k hk_p0) hf dX11_append_49 (fun M2 hf => ?_)
    refine r_aload_n C0 dX11_append_50 rfl 0 rfl ?_
    refine r_dup C0 dX11_append_51 rfl ?_
    refine r_getI C0 (C := RX11) (T := TX11) cl_X11 (K_X11_o hk_p0) (k := 2) (by decide) qw_553 rfl dX11_append_52 ?_
    refine r_iconst (v := 1) C0 dX11_append_55 (by decide) ?_
    refine r_iadd C0 dX11_append_56 ?_
    refine r_putI C0 (C := RX11) (T := TX11) cl_X11 (K_X11_o hk_p0) (k := 2) (by decide) qw_553 rfl rfl rfl rfl hf dX11_append_57 (fun M3 hf => ?_)
    refine r_aload_n C0 dX11_append_60 rfl 0 rfl ?_
    refine r_getI C0 (C := RX11) (T := TX11) cl_X11 (K_X11_o hk_p0) (k := 2) (by decide) qw_553 rfl dX11_append_61 ?_
    obtain rfl := Option.some.inj hf
    exact r_iret C0 dX11_append_64
  · refine r_iconst (v := 0) C0 dX11_append_38 (by decide) ?_
    obtain rfl := Option.some.inj hf
    exact r_iret C0 dX11_append_39
set_option maxHeartbeats 4000000 in
set_option maxRecDepth 100000 in
theorem c_X11_append {l : Launch} {E : zEn} {S : zSk} {X : zMl} {Z : Nat → Prop} (hl : l.stackTraces = false) (F : Nat) (p0 : Nat) (p1 : Int32) (hk_p0 : K_X11 S p0) (M : zMi) (r : Int32 × zMi) (hf : f_X11_append F p0 p1 M = some r) : zM l E yX11_append cX11_append 2 (Option.some Jvm.ClassFile.FieldType.int) { frames := 1, cells := 0, slots := 0, locals := 25 } 0 0 [.ref p0, .int p1] S Z M X S Z (some (.int r.1)) r.2 X := by
  refine zM.intro (L0 := [(0, .ref p0), (1, .int p1)]) hl (by decide) (Nat.le_of_ble_eq_true rfl) rfl (fun Γ C0 _ => ?_)
  unfold f_X11_append at hf
  refine r_aload_n C0 dX11_append_0 rfl 0 rfl ?_
  refine r_iload_n C0 dX11_append_1 rfl 1 rfl ?_
  refine r_i2l C0 dX11_append_2 ?_
  refine r_lconst (v := 0) C0 dX11_append_3 (by decide) ?_
  refine r_ldc2 (v := 255) C0 qw_554 dX11_append_4 ?_
  refine r_callSi C0 (st := [.ref p0]) [.long ((p1).toInt64), .long (0 : Int64), .long (255 : Int64)] hf vs_112 (fun hl r1 hr1 => c_X11_in hl F ((p1).toInt64) (0 : Int64) (255 : Int64) M r1 hr1) rfl rfl (Nat.le_of_ble_eq_true rfl) dX11_append_7 (zrm_ok rfl) (fun r1 hr1 hf => ?_)
  refine r_if_ne C0 17 dX11_append_10 (by decide) hf (fun hf => ?_) (fun hf => ?_)
  · refine r_aload_n C0 dX11_append_17 rfl 0 rfl ?_
    refine r_getI C0 (C := RX11) (T := TX11) cl_X11 (K_X11_o hk_p0) (k := 2) (by decide) qw_553 rfl dX11_append_18 ?_
    refine r_sipush (v := 160) C0 dX11_append_21 (by decide) ?_
    refine r_icmp_ne C0 31 dX11_append_24 (by decide) hf (fun hf => ?_) (fun hf => ?_)
    · refine r_iconst (v := 0) C0 dX11_append_31 (by decide) ?_
      refine r_sub (L' := [(0, .ref p0), (1, .int p1)]) [0, 1] rfl ?_
      exact g_X11_append_32 C0 F p0 p1 hk_p0 (0 : Int32) M _  hf
    · refine r_iconst (v := 2) C0 dX11_append_27 (by decide) ?_
      refine r_goto C0 32 dX11_append_28 (by decide) ?_
      refine r_sub (L' := [(0, .ref p0), (1, .int p1)]) [0, 1] rfl ?_
      exact g_X11_append_32 C0 F p0 p1 hk_p0 (2 : Int32) M _  hf
  · refine r_iconst (v := 1) C0 dX11_append_13 (by decide) ?_
    refine r_goto C0 32 dX11_append_14 (by decide) ?_
    refine r_sub (L' := [(0, .ref p0), (1, .int p1)]) [0, 1] rfl ?_
    exact g_X11_append_32 C0 F p0 p1 hk_p0 (1 : Int32) M _  hf
set_option maxHeartbeats 4000000 in
set_option maxRecDepth 100000 in
theorem c_X11_clearText {l : Launch} {E : zEn} {S : zSk} {X : zMl} {Z : Nat → Prop} (hl : l.stackTraces = false) (F : Nat) (p0 : Nat) (hk_p0 : K_X11 S p0) (M : zMi) (r : Int32 × zMi) (hf : f_X11_clearText F p0 M = some r) : zM l E yX11_clearText cX11_clearText 2 (Option.some Jvm.ClassFile.FieldType.int) { frames := 0, cells := 0, slots := 0, locals := 0 } 0 0 [.ref p0] S Z M X S Z (some (.int r.1)) r.2 X := by
  refine zM.intro (L0 := [(0, .ref p0)]) hl (by decide) (Nat.le_of_ble_eq_true rfl) rfl (fun Γ C0 _ => ?_)
  unfold f_X11_clearText at hf
  refine r_aload_n C0 dX11_clearText_0 rfl 0 rfl ?_
  refine r_iconst (v := 0) C0 dX11_clearText_1 (by decide) ?_
  refine r_putI C0 (C := RX11) (T := TX11) cl_X11 (K_X11_o hk_p0) (k := 0) (by decide) qw_487 rfl rfl rfl rfl hf dX11_clearText_2 (fun M1 hf => ?_)
  refine r_aload_n C0 dX11_clearText_5 rfl 0 rfl ?_
  refine r_getI C0 (C := RX11) (T := TX11) cl_X11 (K_X11_o hk_p0) (k := 2) (by decide) qw_553 rfl dX11_clearText_6 ?_
  refine r_nm hf (fun x2 hf => ?_)
  refine r_istore_n (L' := [(1, .int x2), (0, .ref p0)]) C0 dX11_clearText_9 rfl (by decide) rfl ?_
  refine r_aload_n C0 dX11_clearText_10 rfl 1 rfl ?_
  refine r_iconst (v := 0) C0 dX11_clearText_11 (by decide) ?_
  refine r_putI C0 (C := RX11) (T := TX11) cl_X11 (K_X11_o hk_p0) (k := 2) (by decide) qw_553 rfl rfl rfl rfl hf dX11_clearText_12 (fun M3 hf => ?_)
  refine r_iload_n C0 dX11_clearText_15 rfl 0 rfl ?_
  obtain rfl := Option.some.inj hf
  exact r_iret C0 dX11_clearText_16
set_option maxHeartbeats 4000000 in
set_option maxRecDepth 100000 in
theorem g_X11_eat_29 {Γ : zCx} {E : zEn} {S : zSk} {X : zMl} {Z : Nat → Prop} (C0 : zCt Γ E RX11 cX11_eat 3 (Option.some Jvm.ClassFile.FieldType.boolean) [] { frames := 0, cells := 0, slots := 0, locals := 0 }) (F : Nat) (p0 : Nat) (p1 : Int32) (hk_p0 : K_X11 S p0) (s0 : Int32) (M : zMi) (r : Int32 × zMi)  (hf : f_X11_eat_29 F p0 p1 s0 M = some r) : zG Γ (zQ Γ E 0 0 S Z (some (.int r.1)) r.2 X) E 3 0 0 S Z M X 29 [(0, .ref p0)] [.int s0] := by
  unfold f_X11_eat_29 at hf
  refine r_istore_n (L' := [(2, .int s0), (0, .ref p0)]) C0 dX11_eat_29 rfl (by decide) rfl ?_
  refine r_aload_n C0 dX11_eat_30 rfl 1 rfl ?_
  refine r_dup C0 dX11_eat_31 rfl ?_
  refine r_getI C0 (C := RX11) (T := TX11) cl_X11 (K_X11_o hk_p0) (k := 3) (by decide) qw_555 rfl dX11_eat_32 ?_
  refine r_iload_n C0 dX11_eat_35 rfl 0 rfl ?_
  refine r_if_eq C0 43 dX11_eat_36 (by decide) hf (fun hf => ?_) (fun hf => ?_)
  · refine r_iconst (v := 0) C0 dX11_eat_43 (by decide) ?_
    refine r_iadd C0 dX11_eat_44 ?_
    refine r_putI C0 (C := RX11) (T := TX11) cl_X11 (K_X11_o hk_p0) (k := 3) (by decide) qw_555 rfl rfl rfl rfl hf dX11_eat_45 (fun M1 hf => ?_)
    refine r_iload_n C0 dX11_eat_48 rfl 0 rfl ?_
    obtain ⟨hv, hf⟩ := grd_some hf
    obtain rfl := Option.some.inj hf
    exact r_zret C0 hv dX11_eat_49
  · refine r_iconst (v := 1) C0 dX11_eat_39 (by decide) ?_
    refine r_goto C0 44 dX11_eat_40 (by decide) ?_
    refine r_iadd C0 dX11_eat_44 ?_
    refine r_putI C0 (C := RX11) (T := TX11) cl_X11 (K_X11_o hk_p0) (k := 3) (by decide) qw_555 rfl rfl rfl rfl hf dX11_eat_45 (fun M2 hf => ?_)
    refine r_iload_n C0 dX11_eat_48 rfl 0 rfl ?_
    obtain ⟨hv, hf⟩ := grd_some hf
    obtain rfl := Option.some.inj hf
    exact r_zret C0 hv dX11_eat_49
set_option maxHeartbeats 4000000 in
set_option maxRecDepth 100000 in
theorem c_X11_eat {l : Launch} {E : zEn} {S : zSk} {X : zMl} {Z : Nat → Prop} (hl : l.stackTraces = false) (F : Nat) (p0 : Nat) (p1 : Int32) (hk_p0 : K_X11 S p0) (M : zMi) (r : Int32 × zMi) (hf : f_X11_eat F p0 p1 M = some r) : zM l E yX11_eat cX11_eat 3 (Option.some Jvm.ClassFile.FieldType.boolean) { frames := 0, cells := 0, slots := 0, locals := 0 } 0 0 [.ref p0, .int p1] S Z M X S Z (some (.int r.1)) r.2 X := by
  refine zM.intro (L0 := [(0, .ref p0), (1, .int p1)]) hl (by decide) (Nat.le_of_ble_eq_true rfl) rfl (fun Γ C0 _ => ?_)
  unfold f_X11_eat at hf
  refine r_aload_n C0 dX11_eat_0 rfl 0 rfl ?_
  refine r_getI C0 (C := RX11) (T := TX11) cl_X11 (K_X11_o hk_p0) (k := 3) (by decide) qw_555 rfl dX11_eat_1 ?_
  refine r_aload_n C0 dX11_eat_4 rfl 0 rfl ?_
  refine r_getI C0 (C := RX11) (T := TX11) cl_X11 (K_X11_o hk_p0) (k := 2) (by decide) qw_553 rfl dX11_eat_5 ?_
  refine r_icmp_ge C0 28 dX11_eat_8 (by decide) hf (fun hf => ?_) (fun hf => ?_)
  · refine r_iconst (v := 0) C0 dX11_eat_28 (by decide) ?_
    refine r_sub (L' := [(0, .ref p0)]) [0] rfl ?_
    exact g_X11_eat_29 C0 F p0 p1 hk_p0 (0 : Int32) M _  hf
  · refine r_aload_n C0 dX11_eat_11 rfl 0 rfl ?_
    refine r_getR C0 (C := RX11) (T := TX11) cl_X11 (K_X11_o hk_p0) (k := 1) (by decide) qw_552 rfl (K_X11_text_r hk_p0) dX11_eat_12 ?_
    refine r_aload_n C0 dX11_eat_15 rfl 0 rfl ?_
    refine r_getI C0 (C := RX11) (T := TX11) cl_X11 (K_X11_o hk_p0) (k := 3) (by decide) qw_555 rfl dX11_eat_16 ?_
    refine r_iald C0 (K_X11_text_k hk_p0) hf dX11_eat_19 (fun hf => ?_)
    refine r_iload_n C0 dX11_eat_20 rfl 1 rfl ?_
    refine r_icmp_ne C0 28 dX11_eat_21 (by decide) hf (fun hf => ?_) (fun hf => ?_)
    · refine r_iconst (v := 0) C0 dX11_eat_28 (by decide) ?_
      refine r_sub (L' := [(0, .ref p0)]) [0] rfl ?_
      exact g_X11_eat_29 C0 F p0 p1 hk_p0 (0 : Int32) M _  hf
    · refine r_iconst (v := 1) C0 dX11_eat_24 (by decide) ?_
      refine r_goto C0 29 dX11_eat_25 (by decide) ?_
      refine r_sub (L' := [(0, .ref p0)]) [0] rfl ?_
      exact g_X11_eat_29 C0 F p0 p1 hk_p0 (1 : Int32) M _  hf
