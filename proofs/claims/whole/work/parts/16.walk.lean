set_option maxHeartbeats 4000000 in
set_option maxRecDepth 100000 in
theorem g_X11_about_18 {Γ : zCx} {E : zEn} {S : zSk} {X : zMl} (C0 : zCt Γ E RX11 cX11_about 2 (Option.some Jvm.ClassFile.FieldType.int) [] { frames := 2, cells := 0, slots := 0, locals := 41 }) (F : Nat) (p0 : Nat) (p1 : Int32) (hk_p0 : K_X11 S p0) (s0 : Int32) (M : zMi) (r : Int32 × zMi)  (hf : f_X11_about_18 F p0 p1 s0 M = some r) : zG Γ (zQ Γ E 0 0 S ZT (some (.int r.1)) r.2 X) E 2 0 0 S ZT M X 18 [(0, .ref p0), (1, .int p1)] [.int s0, .ref p0] := by
  unfold f_X11_about_18 at hf
  refine r_callVim C0 (st := []) [.int s0] p0 hf vs_93 (fun hl r1 hr1 => c_X11_refused hl F p0 s0 hk_p0 M r1 hr1) (K_X11_o hk_p0) rfl rfl rfl rfl (Nat.le_of_ble_eq_true rfl) dX11_about_18 (zrm_ok rfl) (fun r1 hr1 hf => ?_)
  refine r_if_eq C0 26 dX11_about_21 (by decide) hf (fun hf => ?_) (fun hf => ?_)
  · refine r_iload_n C0 dX11_about_26 rfl 1 rfl ?_
    refine z_ite hf (fun hx hf => ?_) (fun hx0 hf => ?_)
    · refine r_tsIn (off := 69) C0 96 dX11_about_27 (by rw [hx]; decide) (by rw [hx]; decide) (by rw [hx]; decide) (by decide) ?_
      refine r_aload_n C0 dX11_about_96 rfl 0 rfl ?_
      refine r_getR C0 (C := RX11) (T := TX11) cl_X11 (K_X11_o hk_p0) (k := 5) (by decide) qw_448 rfl (K_X11_now_r hk_p0) dX11_about_97 ?_
      refine r_iconst (v := 4) C0 dX11_about_100 (by decide) ?_
      refine r_iald' (j := 4) C0 (K_X11_now_k hk_p0) rfl rfl dX11_about_101 ?_
      obtain rfl := Option.some.inj hf
      exact r_iret C0 dX11_about_102
    refine z_ite hf (fun hx hf => ?_) (fun hx1 hf => ?_)
    · refine r_tsIn (off := 76) C0 103 dX11_about_27 (by rw [hx]; decide) (by rw [hx]; decide) (by rw [hx]; decide) (by decide) ?_
      refine r_aload_n C0 dX11_about_103 rfl 0 rfl ?_
      refine r_getR C0 (C := RX11) (T := TX11) cl_X11 (K_X11_o hk_p0) (k := 5) (by decide) qw_448 rfl (K_X11_now_r hk_p0) dX11_about_104 ?_
      refine r_iconst (v := 5) C0 dX11_about_107 (by decide) ?_
      refine r_iald' (j := 5) C0 (K_X11_now_k hk_p0) rfl rfl dX11_about_108 ?_
      obtain rfl := Option.some.inj hf
      exact r_iret C0 dX11_about_109
    refine z_ite hf (fun hx hf => ?_) (fun hx2 hf => ?_)
    · refine r_tsIn (off := 83) C0 110 dX11_about_27 (by rw [hx]; decide) (by rw [hx]; decide) (by rw [hx]; decide) (by decide) ?_
      refine r_aload_n C0 dX11_about_110 rfl 0 rfl ?_
      refine r_getR C0 (C := RX11) (T := TX11) cl_X11 (K_X11_o hk_p0) (k := 5) (by decide) qw_448 rfl (K_X11_now_r hk_p0) dX11_about_111 ?_
      refine r_iconst (v := 0) C0 dX11_about_114 (by decide) ?_
      refine r_iald' (j := 0) C0 (K_X11_now_k hk_p0) rfl rfl dX11_about_115 ?_
      obtain rfl := Option.some.inj hf
      exact r_iret C0 dX11_about_116
    refine z_ite hf (fun hx hf => ?_) (fun hx3 hf => ?_)
    · refine r_tsIn (off := 90) C0 117 dX11_about_27 (by rw [hx]; decide) (by rw [hx]; decide) (by rw [hx]; decide) (by decide) ?_
      refine r_aload_n C0 dX11_about_117 rfl 0 rfl ?_
      refine r_getR C0 (C := RX11) (T := TX11) cl_X11 (K_X11_o hk_p0) (k := 5) (by decide) qw_448 rfl (K_X11_now_r hk_p0) dX11_about_118 ?_
      refine r_iconst (v := 1) C0 dX11_about_121 (by decide) ?_
      refine r_iald' (j := 1) C0 (K_X11_now_k hk_p0) rfl rfl dX11_about_122 ?_
      obtain rfl := Option.some.inj hf
      exact r_iret C0 dX11_about_123
    refine z_ite hf (fun hx hf => ?_) (fun hx4 hf => ?_)
    · refine r_tsIn (off := 97) C0 124 dX11_about_27 (by rw [hx]; decide) (by rw [hx]; decide) (by rw [hx]; decide) (by decide) ?_
      refine r_aload_n C0 dX11_about_124 rfl 0 rfl ?_
      refine r_getR C0 (C := RX11) (T := TX11) cl_X11 (K_X11_o hk_p0) (k := 5) (by decide) qw_448 rfl (K_X11_now_r hk_p0) dX11_about_125 ?_
      refine r_iconst (v := 2) C0 dX11_about_128 (by decide) ?_
      refine r_iald' (j := 2) C0 (K_X11_now_k hk_p0) rfl rfl dX11_about_129 ?_
      obtain rfl := Option.some.inj hf
      exact r_iret C0 dX11_about_130
    refine z_ite hf (fun hx hf => ?_) (fun hx5 hf => ?_)
    · refine r_tsIn (off := 104) C0 131 dX11_about_27 (by rw [hx]; decide) (by rw [hx]; decide) (by rw [hx]; decide) (by decide) ?_
      refine r_aload_n C0 dX11_about_131 rfl 0 rfl ?_
      refine r_getR C0 (C := RX11) (T := TX11) cl_X11 (K_X11_o hk_p0) (k := 5) (by decide) qw_448 rfl (K_X11_now_r hk_p0) dX11_about_132 ?_
      refine r_iconst (v := 3) C0 dX11_about_135 (by decide) ?_
      refine r_iald' (j := 3) C0 (K_X11_now_k hk_p0) rfl rfl dX11_about_136 ?_
      obtain rfl := Option.some.inj hf
      exact r_iret C0 dX11_about_137
    refine z_ite hf (fun hx hf => ?_) (fun hx6 hf => ?_)
    · refine r_tsIn (off := 111) C0 138 dX11_about_27 (by rw [hx]; decide) (by rw [hx]; decide) (by rw [hx]; decide) (by decide) ?_
      refine r_aload_n C0 dX11_about_138 rfl 0 rfl ?_
      refine r_getR C0 (C := RX11) (T := TX11) cl_X11 (K_X11_o hk_p0) (k := 5) (by decide) qw_448 rfl (K_X11_now_r hk_p0) dX11_about_139 ?_
      refine r_bipush (v := 7) C0 dX11_about_142 (by decide) ?_
      refine r_iald' (j := 7) C0 (K_X11_now_k hk_p0) rfl rfl dX11_about_144 ?_
      obtain rfl := Option.some.inj hf
      exact r_iret C0 dX11_about_145
    refine z_ite hf (fun hx hf => ?_) (fun hx7 hf => ?_)
    · refine r_tsIn (off := 119) C0 146 dX11_about_27 (by rw [hx]; decide) (by rw [hx]; decide) (by rw [hx]; decide) (by decide) ?_
      refine r_aload_n C0 dX11_about_146 rfl 0 rfl ?_
      refine r_getR C0 (C := RX11) (T := TX11) cl_X11 (K_X11_o hk_p0) (k := 5) (by decide) qw_448 rfl (K_X11_now_r hk_p0) dX11_about_147 ?_
      refine r_bipush (v := 8) C0 dX11_about_150 (by decide) ?_
      refine r_iald' (j := 8) C0 (K_X11_now_k hk_p0) rfl rfl dX11_about_152 ?_
      obtain rfl := Option.some.inj hf
      exact r_iret C0 dX11_about_153
    refine z_ite hf (fun hx hf => ?_) (fun hx8 hf => ?_)
    · refine r_tsIn (off := 127) C0 154 dX11_about_27 (by rw [hx]; decide) (by rw [hx]; decide) (by rw [hx]; decide) (by decide) ?_
      refine r_aload_n C0 dX11_about_154 rfl 0 rfl ?_
      refine r_getR C0 (C := RX11) (T := TX11) cl_X11 (K_X11_o hk_p0) (k := 5) (by decide) qw_448 rfl (K_X11_now_r hk_p0) dX11_about_155 ?_
      refine r_callSi C0 (st := []) [.ref (p0 + 3)] hf vs_79 (fun hl r2 hr2 => c_X11_frontShip hl F (p0 + 3) (K_X11_now_k hk_p0) r1.2 r2 hr2) rfl rfl (Nat.le_of_ble_eq_true rfl) dX11_about_158 (zrm_ok rfl) (fun r2 hr2 hf => ?_)
      obtain rfl := Option.some.inj hf
      exact r_iret C0 dX11_about_161
    refine z_ite hf (fun hx hf => ?_) (fun hx9 hf => ?_)
    · refine r_tsIn (off := 143) C0 170 dX11_about_27 (by rw [hx]; decide) (by rw [hx]; decide) (by rw [hx]; decide) (by decide) ?_
      refine r_aload_n C0 dX11_about_170 rfl 0 rfl ?_
      refine r_getR C0 (C := RX11) (T := TX11) cl_X11 (K_X11_o hk_p0) (k := 5) (by decide) qw_448 rfl (K_X11_now_r hk_p0) dX11_about_171 ?_
      refine r_bipush (v := 9) C0 dX11_about_174 (by decide) ?_
      refine r_iload_n C0 dX11_about_176 rfl 1 rfl ?_
      refine r_iadd C0 dX11_about_177 ?_
      refine r_bipush (v := 9) C0 dX11_about_178 (by decide) ?_
      refine r_isub C0 dX11_about_180 ?_
      refine r_iald C0 (K_X11_now_k hk_p0) hf dX11_about_181 (fun hf => ?_)
      obtain rfl := Option.some.inj hf
      exact r_iret C0 dX11_about_182
    refine z_ite hf (fun hx hf => ?_) (fun hx10 hf => ?_)
    · refine r_tsIn (off := 143) C0 170 dX11_about_27 (by rw [hx]; decide) (by rw [hx]; decide) (by rw [hx]; decide) (by decide) ?_
      refine r_aload_n C0 dX11_about_170 rfl 0 rfl ?_
      refine r_getR C0 (C := RX11) (T := TX11) cl_X11 (K_X11_o hk_p0) (k := 5) (by decide) qw_448 rfl (K_X11_now_r hk_p0) dX11_about_171 ?_
      refine r_bipush (v := 9) C0 dX11_about_174 (by decide) ?_
      refine r_iload_n C0 dX11_about_176 rfl 1 rfl ?_
      refine r_iadd C0 dX11_about_177 ?_
      refine r_bipush (v := 9) C0 dX11_about_178 (by decide) ?_
      refine r_isub C0 dX11_about_180 ?_
      refine r_iald C0 (K_X11_now_k hk_p0) hf dX11_about_181 (fun hf => ?_)
      obtain rfl := Option.some.inj hf
      exact r_iret C0 dX11_about_182
    refine z_ite hf (fun hx hf => ?_) (fun hx11 hf => ?_)
    · refine r_tsIn (off := 143) C0 170 dX11_about_27 (by rw [hx]; decide) (by rw [hx]; decide) (by rw [hx]; decide) (by decide) ?_
      refine r_aload_n C0 dX11_about_170 rfl 0 rfl ?_
      refine r_getR C0 (C := RX11) (T := TX11) cl_X11 (K_X11_o hk_p0) (k := 5) (by decide) qw_448 rfl (K_X11_now_r hk_p0) dX11_about_171 ?_
      refine r_bipush (v := 9) C0 dX11_about_174 (by decide) ?_
      refine r_iload_n C0 dX11_about_176 rfl 1 rfl ?_
      refine r_iadd C0 dX11_about_177 ?_
      refine r_bipush (v := 9) C0 dX11_about_178 (by decide) ?_
      refine r_isub C0 dX11_about_180 ?_
      refine r_iald C0 (K_X11_now_k hk_p0) hf dX11_about_181 (fun hf => ?_)
      obtain rfl := Option.some.inj hf
      exact r_iret C0 dX11_about_182
    refine z_ite hf (fun hx hf => ?_) (fun hx12 hf => ?_)
    · refine r_tsIn (off := 143) C0 170 dX11_about_27 (by rw [hx]; decide) (by rw [hx]; decide) (by rw [hx]; decide) (by decide) ?_
      refine r_aload_n C0 dX11_about_170 rfl 0 rfl ?_
      refine r_getR C0 (C := RX11) (T := TX11) cl_X11 (K_X11_o hk_p0) (k := 5) (by decide) qw_448 rfl (K_X11_now_r hk_p0) dX11_about_171 ?_
      refine r_bipush (v := 9) C0 dX11_about_174 (by decide) ?_
      refine r_iload_n C0 dX11_about_176 rfl 1 rfl ?_
      refine r_iadd C0 dX11_about_177 ?_
      refine r_bipush (v := 9) C0 dX11_about_178 (by decide) ?_
      refine r_isub C0 dX11_about_180 ?_
      refine r_iald C0 (K_X11_now_k hk_p0) hf dX11_about_181 (fun hf => ?_)
      obtain rfl := Option.some.inj hf
      exact r_iret C0 dX11_about_182
    refine z_ite hf (fun hx hf => ?_) (fun hx13 hf => ?_)
    · refine r_tsIn (off := 135) C0 162 dX11_about_27 (by rw [hx]; decide) (by rw [hx]; decide) (by rw [hx]; decide) (by decide) ?_
      refine r_aload_n C0 dX11_about_162 rfl 0 rfl ?_
      refine r_getR C0 (C := RX11) (T := TX11) cl_X11 (K_X11_o hk_p0) (k := 5) (by decide) qw_448 rfl (K_X11_now_r hk_p0) dX11_about_163 ?_
      refine r_callSi C0 (st := []) [.ref (p0 + 3)] hf vs_85 (fun hl r3 hr3 => c_X11_freeTeams hl F (p0 + 3) (K_X11_now_k hk_p0) r1.2 r3 hr3) rfl rfl (Nat.le_of_ble_eq_true rfl) dX11_about_166 (zrm_ok rfl) (fun r3 hr3 hf => ?_)
      obtain rfl := Option.some.inj hf
      exact r_iret C0 dX11_about_169
    have hy0 := z_ne (a := 0) hx0 (by decide)
    have hy1 := z_ne (a := 1) hx1 (by decide)
    have hy2 := z_ne (a := 2) hx2 (by decide)
    have hy3 := z_ne (a := 3) hx3 (by decide)
    have hy4 := z_ne (a := 4) hx4 (by decide)
    have hy5 := z_ne (a := 5) hx5 (by decide)
    have hy6 := z_ne (a := 6) hx6 (by decide)
    have hy7 := z_ne (a := 7) hx7 (by decide)
    have hy8 := z_ne (a := 8) hx8 (by decide)
    have hy9 := z_ne (a := 9) hx9 (by decide)
    have hy10 := z_ne (a := 10) hx10 (by decide)
    have hy11 := z_ne (a := 11) hx11 (by decide)
    have hy12 := z_ne (a := 12) hx12 (by decide)
    have hy13 := z_ne (a := 13) hx13 (by decide)
    refine r_tsOut C0 170 dX11_about_27 (by omega) (by decide) ?_
    refine r_aload_n C0 dX11_about_170 rfl 0 rfl ?_
    refine r_getR C0 (C := RX11) (T := TX11) cl_X11 (K_X11_o hk_p0) (k := 5) (by decide) qw_448 rfl (K_X11_now_r hk_p0) dX11_about_171 ?_
    refine r_bipush (v := 9) C0 dX11_about_174 (by decide) ?_
    refine r_iload_n C0 dX11_about_176 rfl 1 rfl ?_
    refine r_iadd C0 dX11_about_177 ?_
    refine r_bipush (v := 9) C0 dX11_about_178 (by decide) ?_
    refine r_isub C0 dX11_about_180 ?_
    refine r_iald C0 (K_X11_now_k hk_p0) hf dX11_about_181 (fun hf => ?_)
    obtain rfl := Option.some.inj hf
    exact r_iret C0 dX11_about_182
  · refine r_iconst (v := 0) C0 dX11_about_24 (by decide) ?_
    obtain rfl := Option.some.inj hf
    exact r_iret C0 dX11_about_25
set_option maxHeartbeats 4000000 in
set_option maxRecDepth 100000 in
theorem c_X11_about {l : Launch} {E : zEn} {S : zSk} {X : zMl} (hl : l.stackTraces = false) (F : Nat) (p0 : Nat) (p1 : Int32) (hk_p0 : K_X11 S p0) (M : zMi) (r : Int32 × zMi) (hf : f_X11_about F p0 p1 M = some r) : zM l E yX11_about cX11_about 2 (Option.some Jvm.ClassFile.FieldType.int) { frames := 2, cells := 0, slots := 0, locals := 41 } 0 0 [.ref p0, .int p1] S ZT M X S ZT (some (.int r.1)) r.2 X := by
  refine zM.intro (L0 := [(0, .ref p0), (1, .int p1)]) hl (by decide) (Nat.le_of_ble_eq_true rfl) rfl (fun Γ C0 _ => ?_)
  unfold f_X11_about at hf
  refine r_aload_n C0 dX11_about_0 rfl 0 rfl ?_
  refine r_iload_n C0 dX11_about_1 rfl 1 rfl ?_
  refine r_i2l C0 dX11_about_2 ?_
  refine r_lconst (v := 0) C0 dX11_about_3 (by decide) ?_
  refine r_ldc2 (v := 13) C0 qw_454 dX11_about_4 ?_
  refine r_callSi C0 (st := [.ref p0]) [.long ((p1).toInt64), .long (0 : Int64), .long (13 : Int64)] hf vs_74 (fun hl r1 hr1 => c_X11_in hl F ((p1).toInt64) (0 : Int64) (13 : Int64) M r1 hr1) rfl rfl (Nat.le_of_ble_eq_true rfl) dX11_about_7 (zrm_ok rfl) (fun r1 hr1 hf => ?_)
  refine r_if_eq C0 17 dX11_about_10 (by decide) hf (fun hf => ?_) (fun hf => ?_)
  · refine r_iconst (v := 1) C0 dX11_about_17 (by decide) ?_
    refine r_sub (L' := [(0, .ref p0), (1, .int p1)]) [0, 1] rfl ?_
    exact g_X11_about_18 C0 F p0 p1 hk_p0 (1 : Int32) M _  hf
  · refine r_iconst (v := 0) C0 dX11_about_13 (by decide) ?_
    refine r_goto C0 18 dX11_about_14 (by decide) ?_
    refine r_sub (L' := [(0, .ref p0), (1, .int p1)]) [0, 1] rfl ?_
    exact g_X11_about_18 C0 F p0 p1 hk_p0 (0 : Int32) M _  hf
set_option maxHeartbeats 4000000 in
set_option maxRecDepth 100000 in
theorem g_X11_zone_33 {Γ : zCx} {E : zEn} {S : zSk} {X : zMl} (C0 : zCt Γ E RX11 cX11_zone 4 (Option.some Jvm.ClassFile.FieldType.int) [] { frames := 2, cells := 0, slots := 0, locals := 46 }) (F : Nat) (p0 : Nat) (p1 : Int32) (p2 : Int32) (hk_p0 : K_X11 S p0) (s0 : Int32) (M : zMi) (r : Int32 × zMi)  (hf : f_X11_zone_33 F p0 p1 p2 s0 M = some r) : zG Γ (zQ Γ E 0 0 S ZT (some (.int r.1)) r.2 X) E 4 0 0 S ZT M X 33 [(0, .ref p0), (1, .int p1), (2, .int p2)] [.int s0, .ref p0] := by
  unfold f_X11_zone_33 at hf
  refine r_callVim C0 (st := []) [.int s0] p0 hf vs_93 (fun hl r1 hr1 => c_X11_refused hl F p0 s0 hk_p0 M r1 hr1) (K_X11_o hk_p0) rfl rfl rfl rfl (Nat.le_of_ble_eq_true rfl) dX11_zone_33 (zrm_ok rfl) (fun r1 hr1 hf => ?_)
  refine r_if_eq C0 41 dX11_zone_36 (by decide) hf (fun hf => ?_) (fun hf => ?_)
  · refine r_aload_n C0 dX11_zone_41 rfl 0 rfl ?_
    refine r_getR C0 (C := RX11) (T := TX11) cl_X11 (K_X11_o hk_p0) (k := 5) (by decide) qw_448 rfl (K_X11_now_r hk_p0) dX11_zone_42 ?_
    refine r_iload_n C0 dX11_zone_45 rfl 1 rfl ?_
    refine r_callSi C0 (st := [.ref (p0 + 3)]) [.int p1] hf vs_75 (fun hl r2 hr2 => c_X11_zoneAt hl F p1 r1.2 r2 hr2) rfl rfl (Nat.le_of_ble_eq_true rfl) dX11_zone_46 (zrm_ok rfl) (fun r2 hr2 hf => ?_)
    refine r_iald C0 (K_X11_now_k hk_p0) hf dX11_zone_49 (fun hf => ?_)
    refine r_nm hf (fun x3 hf => ?_)
    refine r_istore_n (L' := [(3, .int x3), (0, .ref p0), (1, .int p1), (2, .int p2)]) C0 dX11_zone_50 rfl (by decide) rfl ?_
    refine r_iload_n C0 dX11_zone_51 rfl 3 rfl ?_
    refine r_iconst (v := 4) C0 dX11_zone_52 (by decide) ?_
    refine r_icmp_ge C0 70 dX11_zone_53 (by decide) hf (fun hf => ?_) (fun hf => ?_)
    · refine r_iload_n C0 dX11_zone_70 rfl 2 rfl ?_
      refine r_aload_n C0 dX11_zone_71 rfl 1 rfl ?_
      refine r_getR C0 (C := RX11) (T := TX11) cl_X11 (K_X11_o hk_p0) (k := 5) (by decide) qw_448 rfl (K_X11_now_r hk_p0) dX11_zone_72 ?_
      refine r_bipush (v := 7) C0 dX11_zone_75 (by decide) ?_
      refine r_iald' (j := 7) C0 (K_X11_now_k hk_p0) rfl rfl dX11_zone_77 ?_
      refine r_icmp_ge C0 85 dX11_zone_78 (by decide) hf (fun hf => ?_) (fun hf => ?_)
      · refine r_iload_n C0 dX11_zone_85 rfl 2 rfl ?_
        refine r_aload_n C0 dX11_zone_86 rfl 1 rfl ?_
        refine r_getR C0 (C := RX11) (T := TX11) cl_X11 (K_X11_o hk_p0) (k := 5) (by decide) qw_448 rfl (K_X11_now_r hk_p0) dX11_zone_87 ?_
        refine r_bipush (v := 7) C0 dX11_zone_90 (by decide) ?_
        refine r_iald' (j := 7) C0 (K_X11_now_k hk_p0) rfl rfl dX11_zone_92 ?_
        refine r_icmp_ne C0 108 dX11_zone_93 (by decide) hf (fun hf => ?_) (fun hf => ?_)
        · refine r_iload_n C0 dX11_zone_108 rfl 0 rfl ?_
          obtain rfl := Option.some.inj hf
          exact r_iret C0 dX11_zone_109
        · refine r_iload_n C0 dX11_zone_96 rfl 0 rfl ?_
          refine r_aload_n C0 dX11_zone_97 rfl 1 rfl ?_
          refine r_getR C0 (C := RX11) (T := TX11) cl_X11 (K_X11_o hk_p0) (k := 5) (by decide) qw_448 rfl (K_X11_now_r hk_p0) dX11_zone_98 ?_
          refine r_bipush (v := 8) C0 dX11_zone_101 (by decide) ?_
          refine r_iald' (j := 8) C0 (K_X11_now_k hk_p0) rfl rfl dX11_zone_103 ?_
          refine r_isub C0 dX11_zone_104 ?_
          refine r_goto C0 109 dX11_zone_105 (by decide) ?_
          obtain rfl := Option.some.inj hf
          exact r_iret C0 dX11_zone_109
      · refine r_iconst (v := 0) C0 dX11_zone_81 (by decide) ?_
        refine r_goto C0 109 dX11_zone_82 (by decide) ?_
        obtain rfl := Option.some.inj hf
        exact r_iret C0 dX11_zone_109
    · refine r_aload_n C0 dX11_zone_56 rfl 1 rfl ?_
      refine r_getR C0 (C := RX11) (T := TX11) cl_X11 (K_X11_o hk_p0) (k := 5) (by decide) qw_448 rfl (K_X11_now_r hk_p0) dX11_zone_57 ?_
      refine r_iload_n C0 dX11_zone_60 rfl 2 rfl ?_
      refine r_callSi C0 (st := [.ref (p0 + 3)]) [.int p1] hf vs_75 (fun hl r4 hr4 => c_X11_zoneAt hl F p1 r1.2 r4 hr4) rfl rfl (Nat.le_of_ble_eq_true rfl) dX11_zone_61 (zrm_ok rfl) (fun r4 hr4 hf => ?_)
      refine r_iload_n C0 dX11_zone_64 rfl 3 rfl ?_
      refine r_iadd C0 dX11_zone_65 ?_
      refine r_iald C0 (K_X11_now_k hk_p0) hf dX11_zone_66 (fun hf => ?_)
      refine r_goto C0 109 dX11_zone_67 (by decide) ?_
      obtain rfl := Option.some.inj hf
      exact r_iret C0 dX11_zone_109
  · refine r_iconst (v := 0) C0 dX11_zone_39 (by decide) ?_
    obtain rfl := Option.some.inj hf
    exact r_iret C0 dX11_zone_40
set_option maxHeartbeats 4000000 in
set_option maxRecDepth 100000 in
theorem c_X11_zone {l : Launch} {E : zEn} {S : zSk} {X : zMl} (hl : l.stackTraces = false) (F : Nat) (p0 : Nat) (p1 : Int32) (p2 : Int32) (hk_p0 : K_X11 S p0) (M : zMi) (r : Int32 × zMi) (hf : f_X11_zone F p0 p1 p2 M = some r) : zM l E yX11_zone cX11_zone 4 (Option.some Jvm.ClassFile.FieldType.int) { frames := 2, cells := 0, slots := 0, locals := 46 } 0 0 [.ref p0, .int p1, .int p2] S ZT M X S ZT (some (.int r.1)) r.2 X := by
  refine zM.intro (L0 := [(0, .ref p0), (1, .int p1), (2, .int p2)]) hl (by decide) (Nat.le_of_ble_eq_true rfl) rfl (fun Γ C0 _ => ?_)
  unfold f_X11_zone at hf
  refine r_aload_n C0 dX11_zone_0 rfl 0 rfl ?_
  refine r_aload_n C0 dX11_zone_1 rfl 0 rfl ?_
  refine r_getR C0 (C := RX11) (T := TX11) cl_X11 (K_X11_o hk_p0) (k := 5) (by decide) qw_448 rfl (K_X11_now_r hk_p0) dX11_zone_2 ?_
  refine r_iload_n C0 dX11_zone_5 rfl 1 rfl ?_
  refine r_callSi C0 (st := [.ref p0]) [.ref (p0 + 3), .int p1] hf vs_100 (fun hl r1 hr1 => c_X11_isZone hl F (p0 + 3) p1 (K_X11_now_k hk_p0) M r1 hr1) rfl rfl (Nat.le_of_ble_eq_true rfl) dX11_zone_6 (zrm_ok rfl) (fun r1 hr1 hf => ?_)
  refine r_if_ne C0 16 dX11_zone_9 (by decide) hf (fun hf => ?_) (fun hf => ?_)
  · refine r_iload_n C0 dX11_zone_16 rfl 2 rfl ?_
    refine r_i2l C0 dX11_zone_17 ?_
    refine r_lconst (v := 0) C0 dX11_zone_18 (by decide) ?_
    refine r_ldc2 (v := 4) C0 qw_458 dX11_zone_19 ?_
    refine r_callSi C0 (st := [.ref p0]) [.long ((p2).toInt64), .long (0 : Int64), .long (4 : Int64)] hf vs_74 (fun hl r2 hr2 => c_X11_in hl F ((p2).toInt64) (0 : Int64) (4 : Int64) M r2 hr2) rfl rfl (Nat.le_of_ble_eq_true rfl) dX11_zone_22 (zrm_ok rfl) (fun r2 hr2 hf => ?_)
    refine r_if_ne C0 32 dX11_zone_25 (by decide) hf (fun hf => ?_) (fun hf => ?_)
    · refine r_iconst (v := 0) C0 dX11_zone_32 (by decide) ?_
      refine r_sub (L' := [(0, .ref p0), (1, .int p1), (2, .int p2)]) [0, 1, 2] rfl ?_
      exact g_X11_zone_33 C0 F p0 p1 p2 hk_p0 (0 : Int32) M _  hf
    · refine r_iconst (v := 2) C0 dX11_zone_28 (by decide) ?_
      refine r_goto C0 33 dX11_zone_29 (by decide) ?_
      refine r_sub (L' := [(0, .ref p0), (1, .int p1), (2, .int p2)]) [0, 1, 2] rfl ?_
      exact g_X11_zone_33 C0 F p0 p1 p2 hk_p0 (2 : Int32) M _  hf
  · refine r_iconst (v := 1) C0 dX11_zone_12 (by decide) ?_
    refine r_goto C0 33 dX11_zone_13 (by decide) ?_
    refine r_sub (L' := [(0, .ref p0), (1, .int p1), (2, .int p2)]) [0, 1, 2] rfl ?_
    exact g_X11_zone_33 C0 F p0 p1 p2 hk_p0 (1 : Int32) M _  hf
set_option maxHeartbeats 4000000 in
set_option maxRecDepth 100000 in
theorem g_X11_ship_33 {Γ : zCx} {E : zEn} {S : zSk} {X : zMl} (C0 : zCt Γ E RX11 cX11_ship 3 (Option.some Jvm.ClassFile.FieldType.int) [] { frames := 2, cells := 0, slots := 0, locals := 46 }) (F : Nat) (p0 : Nat) (p1 : Int32) (p2 : Int32) (hk_p0 : K_X11 S p0) (s0 : Int32) (M : zMi) (r : Int32 × zMi)  (hf : f_X11_ship_33 F p0 p1 p2 s0 M = some r) : zG Γ (zQ Γ E 0 0 S ZT (some (.int r.1)) r.2 X) E 3 0 0 S ZT M X 33 [(0, .ref p0), (1, .int p1), (2, .int p2)] [.int s0, .ref p0] := by
  unfold f_X11_ship_33 at hf
  refine r_callVim C0 (st := []) [.int s0] p0 hf vs_93 (fun hl r1 hr1 => c_X11_refused hl F p0 s0 hk_p0 M r1 hr1) (K_X11_o hk_p0) rfl rfl rfl rfl (Nat.le_of_ble_eq_true rfl) dX11_ship_33 (zrm_ok rfl) (fun r1 hr1 hf => ?_)
  refine r_if_eq C0 43 dX11_ship_36 (by decide) hf (fun hf => ?_) (fun hf => ?_)
  · refine r_aload_n C0 dX11_ship_43 rfl 0 rfl ?_
    refine r_getR C0 (C := RX11) (T := TX11) cl_X11 (K_X11_o hk_p0) (k := 5) (by decide) qw_448 rfl (K_X11_now_r hk_p0) dX11_ship_44 ?_
    refine r_iload_n C0 dX11_ship_47 rfl 1 rfl ?_
    refine r_callSi C0 (st := [.ref (p0 + 3)]) [.int p1] hf vs_77 (fun hl r2 hr2 => c_X11_shipAt hl F p1 r1.2 r2 hr2) rfl rfl (Nat.le_of_ble_eq_true rfl) dX11_ship_48 (zrm_ok rfl) (fun r2 hr2 hf => ?_)
    refine r_iload_n C0 dX11_ship_51 rfl 2 rfl ?_
    refine r_iadd C0 dX11_ship_52 ?_
    refine r_iald C0 (K_X11_now_k hk_p0) hf dX11_ship_53 (fun hf => ?_)
    obtain rfl := Option.some.inj hf
    exact r_iret C0 dX11_ship_54
  · refine r_iconst (v := 0) C0 dX11_ship_39 (by decide) ?_
    refine r_goto C0 54 dX11_ship_40 (by decide) ?_
    obtain rfl := Option.some.inj hf
    exact r_iret C0 dX11_ship_54
set_option maxHeartbeats 4000000 in
set_option maxRecDepth 100000 in
theorem c_X11_ship {l : Launch} {E : zEn} {S : zSk} {X : zMl} (hl : l.stackTraces = false) (F : Nat) (p0 : Nat) (p1 : Int32) (p2 : Int32) (hk_p0 : K_X11 S p0) (M : zMi) (r : Int32 × zMi) (hf : f_X11_ship F p0 p1 p2 M = some r) : zM l E yX11_ship cX11_ship 3 (Option.some Jvm.ClassFile.FieldType.int) { frames := 2, cells := 0, slots := 0, locals := 46 } 0 0 [.ref p0, .int p1, .int p2] S ZT M X S ZT (some (.int r.1)) r.2 X := by
  refine zM.intro (L0 := [(0, .ref p0), (1, .int p1), (2, .int p2)]) hl (by decide) (Nat.le_of_ble_eq_true rfl) rfl (fun Γ C0 _ => ?_)
  unfold f_X11_ship at hf
  refine r_aload_n C0 dX11_ship_0 rfl 0 rfl ?_
  refine r_aload_n C0 dX11_ship_1 rfl 0 rfl ?_
  refine r_getR C0 (C := RX11) (T := TX11) cl_X11 (K_X11_o hk_p0) (k := 5) (by decide) qw_448 rfl (K_X11_now_r hk_p0) dX11_ship_2 ?_
  refine r_iload_n C0 dX11_ship_5 rfl 1 rfl ?_
  refine r_callSi C0 (st := [.ref p0]) [.ref (p0 + 3), .int p1] hf vs_101 (fun hl r1 hr1 => c_X11_isShip hl F (p0 + 3) p1 (K_X11_now_k hk_p0) M r1 hr1) rfl rfl (Nat.le_of_ble_eq_true rfl) dX11_ship_6 (zrm_ok rfl) (fun r1 hr1 hf => ?_)
  refine r_if_ne C0 16 dX11_ship_9 (by decide) hf (fun hf => ?_) (fun hf => ?_)
  · refine r_iload_n C0 dX11_ship_16 rfl 2 rfl ?_
    refine r_i2l C0 dX11_ship_17 ?_
    refine r_lconst (v := 0) C0 dX11_ship_18 (by decide) ?_
    refine r_ldc2 (v := 7) C0 qw_462 dX11_ship_19 ?_
    refine r_callSi C0 (st := [.ref p0]) [.long ((p2).toInt64), .long (0 : Int64), .long (7 : Int64)] hf vs_74 (fun hl r2 hr2 => c_X11_in hl F ((p2).toInt64) (0 : Int64) (7 : Int64) M r2 hr2) rfl rfl (Nat.le_of_ble_eq_true rfl) dX11_ship_22 (zrm_ok rfl) (fun r2 hr2 hf => ?_)
    refine r_if_ne C0 32 dX11_ship_25 (by decide) hf (fun hf => ?_) (fun hf => ?_)
    · refine r_iconst (v := 0) C0 dX11_ship_32 (by decide) ?_
      refine r_sub (L' := [(0, .ref p0), (1, .int p1), (2, .int p2)]) [0, 1, 2] rfl ?_
      exact g_X11_ship_33 C0 F p0 p1 p2 hk_p0 (0 : Int32) M _  hf
    · refine r_iconst (v := 2) C0 dX11_ship_28 (by decide) ?_
      refine r_goto C0 33 dX11_ship_29 (by decide) ?_
      refine r_sub (L' := [(0, .ref p0), (1, .int p1), (2, .int p2)]) [0, 1, 2] rfl ?_
      exact g_X11_ship_33 C0 F p0 p1 p2 hk_p0 (2 : Int32) M _  hf
  · refine r_iconst (v := 1) C0 dX11_ship_12 (by decide) ?_
    refine r_goto C0 33 dX11_ship_13 (by decide) ?_
    refine r_sub (L' := [(0, .ref p0), (1, .int p1), (2, .int p2)]) [0, 1, 2] rfl ?_
    exact g_X11_ship_33 C0 F p0 p1 p2 hk_p0 (1 : Int32) M _  hf
set_option maxHeartbeats 4000000 in
set_option maxRecDepth 100000 in
theorem g_X11_waves_18 {Γ : zCx} {E : zEn} {S : zSk} {X : zMl} (C0 : zCt Γ E RX11 cX11_waves 2 (Option.some Jvm.ClassFile.FieldType.int) [] { frames := 1, cells := 0, slots := 0, locals := 25 }) (F : Nat) (p0 : Nat) (p1 : Int32) (hk_p0 : K_X11 S p0) (s0 : Int32) (M : zMi) (r : Int32 × zMi)  (hf : f_X11_waves_18 F p0 p1 s0 M = some r) : zG Γ (zQ Γ E 0 0 S ZT (some (.int r.1)) r.2 X) E 2 0 0 S ZT M X 18 [(0, .ref p0), (1, .int p1)] [.int s0, .ref p0] := by
  unfold f_X11_waves_18 at hf
  refine r_callVim C0 (st := []) [.int s0] p0 hf vs_93 (fun hl r1 hr1 => c_X11_refused hl F p0 s0 hk_p0 M r1 hr1) (K_X11_o hk_p0) rfl rfl rfl rfl (Nat.le_of_ble_eq_true rfl) dX11_waves_18 (zrm_ok rfl) (fun r1 hr1 hf => ?_)
  refine r_if_eq C0 28 dX11_waves_21 (by decide) hf (fun hf => ?_) (fun hf => ?_)
  · refine r_aload_n C0 dX11_waves_28 rfl 0 rfl ?_
    refine r_getR C0 (C := RX11) (T := TX11) cl_X11 (K_X11_o hk_p0) (k := 5) (by decide) qw_448 rfl (K_X11_now_r hk_p0) dX11_waves_29 ?_
    refine r_iload_n C0 dX11_waves_32 rfl 1 rfl ?_
    refine r_callSi C0 (st := []) [.ref (p0 + 3), .int p1] hf vs_83 (fun hl r2 hr2 => c_X11_wavesOf hl F (p0 + 3) p1 (K_X11_now_k hk_p0) r1.2 r2 hr2) rfl rfl (Nat.le_of_ble_eq_true rfl) dX11_waves_33 (zrm_ok rfl) (fun r2 hr2 hf => ?_)
    obtain rfl := Option.some.inj hf
    exact r_iret C0 dX11_waves_36
  · refine r_iconst (v := 0) C0 dX11_waves_24 (by decide) ?_
    refine r_goto C0 36 dX11_waves_25 (by decide) ?_
    obtain rfl := Option.some.inj hf
    exact r_iret C0 dX11_waves_36
set_option maxHeartbeats 4000000 in
set_option maxRecDepth 100000 in
theorem c_X11_waves {l : Launch} {E : zEn} {S : zSk} {X : zMl} (hl : l.stackTraces = false) (F : Nat) (p0 : Nat) (p1 : Int32) (hk_p0 : K_X11 S p0) (M : zMi) (r : Int32 × zMi) (hf : f_X11_waves F p0 p1 M = some r) : zM l E yX11_waves cX11_waves 2 (Option.some Jvm.ClassFile.FieldType.int) { frames := 1, cells := 0, slots := 0, locals := 25 } 0 0 [.ref p0, .int p1] S ZT M X S ZT (some (.int r.1)) r.2 X := by
  refine zM.intro (L0 := [(0, .ref p0), (1, .int p1)]) hl (by decide) (Nat.le_of_ble_eq_true rfl) rfl (fun Γ C0 _ => ?_)
  unfold f_X11_waves at hf
  refine r_aload_n C0 dX11_waves_0 rfl 0 rfl ?_
  refine r_iload_n C0 dX11_waves_1 rfl 1 rfl ?_
  refine r_i2l C0 dX11_waves_2 ?_
  refine r_lconst (v := 0) C0 dX11_waves_3 (by decide) ?_
  refine r_ldc2 (v := 9999) C0 qw_463 dX11_waves_4 ?_
  refine r_callSi C0 (st := [.ref p0]) [.long ((p1).toInt64), .long (0 : Int64), .long (9999 : Int64)] hf vs_74 (fun hl r1 hr1 => c_X11_in hl F ((p1).toInt64) (0 : Int64) (9999 : Int64) M r1 hr1) rfl rfl (Nat.le_of_ble_eq_true rfl) dX11_waves_7 (zrm_ok rfl) (fun r1 hr1 hf => ?_)
  refine r_if_eq C0 17 dX11_waves_10 (by decide) hf (fun hf => ?_) (fun hf => ?_)
  · refine r_iconst (v := 1) C0 dX11_waves_17 (by decide) ?_
    refine r_sub (L' := [(0, .ref p0), (1, .int p1)]) [0, 1] rfl ?_
    exact g_X11_waves_18 C0 F p0 p1 hk_p0 (1 : Int32) M _  hf
  · refine r_iconst (v := 0) C0 dX11_waves_13 (by decide) ?_
    refine r_goto C0 18 dX11_waves_14 (by decide) ?_
    refine r_sub (L' := [(0, .ref p0), (1, .int p1)]) [0, 1] rfl ?_
    exact g_X11_waves_18 C0 F p0 p1 hk_p0 (0 : Int32) M _  hf
set_option maxHeartbeats 4000000 in
set_option maxRecDepth 100000 in
theorem g_X11_account_30 {Γ : zCx} {E : zEn} {S : zSk} {X : zMl} (C0 : zCt Γ E RX11 cX11_account 4 (Option.some Jvm.ClassFile.FieldType.int) [] { frames := 1, cells := 0, slots := 0, locals := 25 }) (F : Nat) (p0 : Nat) (p1 : Int32) (hk_p0 : K_X11 S p0) : ∀ (n : Nat) (v2 : Int32) (v3 : Int32) (M : zMi) (r : Int32 × zMi) , f_X11_account_30 F p0 p1 n v2 v3 M = some r → zG Γ (zQ Γ E 0 0 S ZT (some (.int r.1)) r.2 X) E 4 0 0 S ZT M X 30 [(0, .ref p0), (1, .int p1), (2, .int v2), (3, .int v3)] [] := by
  intro n
  induction n with
  | zero => intro v2 v3 M r; intro hf; cases hf
  | succ n ih =>
    intro v2 v3 M r hf
    refine r_iload_n C0 dX11_account_30 rfl 3 rfl ?_
    refine r_aload_n C0 dX11_account_31 rfl 0 rfl ?_
    refine r_getR C0 (C := RX11) (T := TX11) cl_X11 (K_X11_o hk_p0) (k := 5) (by decide) qw_448 rfl (K_X11_now_r hk_p0) dX11_account_32 ?_
    refine r_iconst (v := 5) C0 dX11_account_35 (by decide) ?_
    refine r_iald' (j := 5) C0 (K_X11_now_k hk_p0) rfl rfl dX11_account_36 ?_
    refine r_icmp_ge C0 60 dX11_account_37 (by decide) hf (fun hf => ?_) (fun hf => ?_)
    · refine r_iload_n C0 dX11_account_60 rfl 1 rfl ?_
      refine r_iconst (v := 3) C0 dX11_account_61 (by decide) ?_
      refine r_icmp_ne C0 69 dX11_account_62 (by decide) hf (fun hf => ?_) (fun hf => ?_)
      · refine r_aload_n C0 dX11_account_69 rfl 0 rfl ?_
        refine r_getR C0 (C := RX11) (T := TX11) cl_X11 (K_X11_o hk_p0) (k := 5) (by decide) qw_448 rfl (K_X11_now_r hk_p0) dX11_account_70 ?_
        refine r_bipush (v := 16) C0 dX11_account_73 (by decide) ?_
        refine r_iload_n C0 dX11_account_75 rfl 1 rfl ?_
        refine r_iconst (v := 3) C0 dX11_account_76 (by decide) ?_
        refine r_icmp_ge C0 84 dX11_account_77 (by decide) hf (fun hf => ?_) (fun hf => ?_)
        · refine r_iload_n C0 dX11_account_84 rfl 1 rfl ?_
          refine r_iconst (v := 1) C0 dX11_account_85 (by decide) ?_
          refine r_isub C0 dX11_account_86 ?_
          refine r_iadd C0 dX11_account_87 ?_
          refine r_iald C0 (K_X11_now_k hk_p0) hf dX11_account_88 (fun hf => ?_)
          obtain rfl := Option.some.inj hf
          exact r_iret C0 dX11_account_89
        · refine r_iload_n C0 dX11_account_80 rfl 1 rfl ?_
          refine r_goto C0 87 dX11_account_81 (by decide) ?_
          refine r_iadd C0 dX11_account_87 ?_
          refine r_iald C0 (K_X11_now_k hk_p0) hf dX11_account_88 (fun hf => ?_)
          obtain rfl := Option.some.inj hf
          exact r_iret C0 dX11_account_89
      · refine r_iload_n C0 dX11_account_65 rfl 2 rfl ?_
        refine r_goto C0 89 dX11_account_66 (by decide) ?_
        obtain rfl := Option.some.inj hf
        exact r_iret C0 dX11_account_89
    · refine r_iload_n C0 dX11_account_40 rfl 2 rfl ?_
      refine r_aload_n C0 dX11_account_41 rfl 0 rfl ?_
      refine r_getR C0 (C := RX11) (T := TX11) cl_X11 (K_X11_o hk_p0) (k := 5) (by decide) qw_448 rfl (K_X11_now_r hk_p0) dX11_account_42 ?_
      refine r_iload_n C0 dX11_account_45 rfl 3 rfl ?_
      refine r_callSi C0 (st := [.ref (p0 + 3), .int v2]) [.int v3] hf vs_77 (fun hl r1 hr1 => c_X11_shipAt hl F v3 M r1 hr1) rfl rfl (Nat.le_of_ble_eq_true rfl) dX11_account_46 (zrm_ok rfl) (fun r1 hr1 hf => ?_)
      refine r_iconst (v := 4) C0 dX11_account_49 (by decide) ?_
      refine r_iadd C0 dX11_account_50 ?_
      refine r_iald C0 (K_X11_now_k hk_p0) hf dX11_account_51 (fun hf => ?_)
      refine r_iadd C0 dX11_account_52 ?_
      refine r_nm hf (fun x2 hf => ?_)
      refine r_istore_n (L' := [(2, .int x2), (0, .ref p0), (1, .int p1), (3, .int v3)]) C0 dX11_account_53 rfl (by decide) rfl ?_
      refine r_iinc (j := 3) (v := (v3 + (1 : Int32))) (L' := [(3, .int (v3 + (1 : Int32))), (2, .int x2), (0, .ref p0), (1, .int p1)]) C0 dX11_account_54 rfl rfl (by decide) rfl ?_
      refine r_goto C0 30 dX11_account_57 (by decide) ?_
      refine r_sub (L' := [(0, .ref p0), (1, .int p1), (2, .int x2), (3, .int (v3 + (1 : Int32)))]) [2, 3, 1, 0] rfl ?_
      exact ih x2 (v3 + (1 : Int32)) M _  hf
set_option maxHeartbeats 4000000 in
set_option maxRecDepth 100000 in
theorem g_X11_account_18 {Γ : zCx} {E : zEn} {S : zSk} {X : zMl} (C0 : zCt Γ E RX11 cX11_account 4 (Option.some Jvm.ClassFile.FieldType.int) [] { frames := 1, cells := 0, slots := 0, locals := 25 }) (F : Nat) (p0 : Nat) (p1 : Int32) (hk_p0 : K_X11 S p0) (s0 : Int32) (M : zMi) (r : Int32 × zMi)  (hf : f_X11_account_18 F p0 p1 s0 M = some r) : zG Γ (zQ Γ E 0 0 S ZT (some (.int r.1)) r.2 X) E 4 0 0 S ZT M X 18 [(0, .ref p0), (1, .int p1)] [.int s0, .ref p0] := by
  unfold f_X11_account_18 at hf
  refine r_callVim C0 (st := []) [.int s0] p0 hf vs_93 (fun hl r1 hr1 => c_X11_refused hl F p0 s0 hk_p0 M r1 hr1) (K_X11_o hk_p0) rfl rfl rfl rfl (Nat.le_of_ble_eq_true rfl) dX11_account_18 (zrm_ok rfl) (fun r1 hr1 hf => ?_)
  refine r_if_eq C0 26 dX11_account_21 (by decide) hf (fun hf => ?_) (fun hf => ?_)
  · refine r_iconst (v := 0) C0 dX11_account_26 (by decide) ?_
    refine r_istore_n (L' := [(2, .int (0 : Int32)), (0, .ref p0), (1, .int p1)]) C0 dX11_account_27 rfl (by decide) rfl ?_
    refine r_iconst (v := 0) C0 dX11_account_28 (by decide) ?_
    refine r_istore_n (L' := [(3, .int (0 : Int32)), (2, .int (0 : Int32)), (0, .ref p0), (1, .int p1)]) C0 dX11_account_29 rfl (by decide) rfl ?_
    refine r_sub (L' := [(0, .ref p0), (1, .int p1), (2, .int (0 : Int32)), (3, .int (0 : Int32))]) [2, 3, 1, 0] rfl ?_
    exact g_X11_account_30 C0 F p0 p1 hk_p0 F (0 : Int32) (0 : Int32) r1.2 _  hf
  · refine r_iconst (v := 0) C0 dX11_account_24 (by decide) ?_
    obtain rfl := Option.some.inj hf
    exact r_iret C0 dX11_account_25
set_option maxHeartbeats 4000000 in
set_option maxRecDepth 100000 in
theorem c_X11_account {l : Launch} {E : zEn} {S : zSk} {X : zMl} (hl : l.stackTraces = false) (F : Nat) (p0 : Nat) (p1 : Int32) (hk_p0 : K_X11 S p0) (M : zMi) (r : Int32 × zMi) (hf : f_X11_account F p0 p1 M = some r) : zM l E yX11_account cX11_account 4 (Option.some Jvm.ClassFile.FieldType.int) { frames := 1, cells := 0, slots := 0, locals := 25 } 0 0 [.ref p0, .int p1] S ZT M X S ZT (some (.int r.1)) r.2 X := by
  refine zM.intro (L0 := [(0, .ref p0), (1, .int p1)]) hl (by decide) (Nat.le_of_ble_eq_true rfl) rfl (fun Γ C0 _ => ?_)
  unfold f_X11_account at hf
  refine r_aload_n C0 dX11_account_0 rfl 0 rfl ?_
  refine r_iload_n C0 dX11_account_1 rfl 1 rfl ?_
  refine r_i2l C0 dX11_account_2 ?_
  refine r_lconst (v := 0) C0 dX11_account_3 (by decide) ?_
  refine r_ldc2 (v := 7) C0 qw_462 dX11_account_4 ?_
  refine r_callSi C0 (st := [.ref p0]) [.long ((p1).toInt64), .long (0 : Int64), .long (7 : Int64)] hf vs_74 (fun hl r1 hr1 => c_X11_in hl F ((p1).toInt64) (0 : Int64) (7 : Int64) M r1 hr1) rfl rfl (Nat.le_of_ble_eq_true rfl) dX11_account_7 (zrm_ok rfl) (fun r1 hr1 hf => ?_)
  refine r_if_eq C0 17 dX11_account_10 (by decide) hf (fun hf => ?_) (fun hf => ?_)
  · refine r_iconst (v := 1) C0 dX11_account_17 (by decide) ?_
    refine r_sub (L' := [(0, .ref p0), (1, .int p1)]) [0, 1] rfl ?_
    exact g_X11_account_18 C0 F p0 p1 hk_p0 (1 : Int32) M _  hf
  · refine r_iconst (v := 0) C0 dX11_account_13 (by decide) ?_
    refine r_goto C0 18 dX11_account_14 (by decide) ?_
    refine r_sub (L' := [(0, .ref p0), (1, .int p1)]) [0, 1] rfl ?_
    exact g_X11_account_18 C0 F p0 p1 hk_p0 (0 : Int32) M _  hf
set_option maxHeartbeats 4000000 in
set_option maxRecDepth 100000 in
theorem g_X11_note_49 {Γ : zCx} {E : zEn} {S : zSk} {X : zMl} (C0 : zCt Γ E RX11 cX11_note 2 (Option.none : Option Jvm.ClassFile.FieldType) [] { frames := 1, cells := 0, slots := 0, locals := 24 }) (F : Nat) (p0 : Nat) (hk_p0 : K_X11 S p0)  (M : zMi) (r : zMi)  (hf : f_X11_note_49 F p0  M = some r) : zG Γ (zQ Γ E 0 0 S ZT none r X) E 2 0 0 S ZT M X 49 [(0, .ref p0)] [] := by
  unfold f_X11_note_49 at hf
  refine r_aload_n C0 dX11_note_49 rfl 0 rfl ?_
  refine r_getR C0 (C := RX11) (T := TX11) cl_X11 (K_X11_o hk_p0) (k := 5) (by decide) qw_448 rfl (K_X11_now_r hk_p0) dX11_note_50 ?_
  refine r_iconst (v := 0) C0 dX11_note_53 (by decide) ?_
  refine r_aload_n C0 dX11_note_54 rfl 0 rfl ?_
  refine r_getR C0 (C := RX11) (T := TX11) cl_X11 (K_X11_o hk_p0) (k := 7) (by decide) qw_464 rfl (K_X11_diary_r hk_p0) dX11_note_55 ?_
  refine r_bipush (v := 121) C0 dX11_note_58 (by decide) ?_
  refine r_aload_n C0 dX11_note_60 rfl 0 rfl ?_
  refine r_getI C0 (C := RX11) (T := TX11) cl_X11 (K_X11_o hk_p0) (k := 8) (by decide) qw_452 rfl dX11_note_61 ?_
  refine r_imul C0 dX11_note_64 ?_
  refine r_callSm C0 (st := []) [.ref (p0 + 3), .int (0 : Int32), .ref (p0 + 5), .int ((121 : Int32) * (M p0 8))] hf vs_99 (fun hl r1 hr1 => c_X11_copyPage hl F (p0 + 3) 121 (0 : Int32) (p0 + 5) 1694 ((121 : Int32) * (M p0 8)) (K_X11_now_k hk_p0) (K_X11_diary_k hk_p0) M r1 hr1) rfl rfl (Nat.le_of_ble_eq_true rfl) dX11_note_65 (zrm_ok rfl) (fun r1 hr1 hf => ?_)
  refine r_aload_n C0 dX11_note_68 rfl 0 rfl ?_
  refine r_dup C0 dX11_note_69 rfl ?_
  refine r_getI C0 (C := RX11) (T := TX11) cl_X11 (K_X11_o hk_p0) (k := 8) (by decide) qw_452 rfl dX11_note_70 ?_
  refine r_iconst (v := 1) C0 dX11_note_73 (by decide) ?_
  refine r_iadd C0 dX11_note_74 ?_
  refine r_putI C0 (C := RX11) (T := TX11) cl_X11 (K_X11_o hk_p0) (k := 8) (by decide) qw_452 rfl rfl rfl rfl hf dX11_note_75 (fun M2 hf => ?_)
  obtain rfl := Option.some.inj hf
  exact r_vret C0 dX11_note_78
set_option maxHeartbeats 4000000 in
set_option maxRecDepth 100000 in
theorem g_X11_note_11 {Γ : zCx} {E : zEn} {S : zSk} {X : zMl} (C0 : zCt Γ E RX11 cX11_note 2 (Option.none : Option Jvm.ClassFile.FieldType) [] { frames := 1, cells := 0, slots := 0, locals := 24 }) (F : Nat) (p0 : Nat) (hk_p0 : K_X11 S p0) : ∀ (n : Nat) (v1 : Int32) (M : zMi) (r : zMi) , f_X11_note_11 F p0 n v1 M = some r → zG Γ (zQ Γ E 0 0 S ZT none r X) E 2 0 0 S ZT M X 11 [(0, .ref p0), (1, .int v1)] [] := by
  intro n
  induction n with
  | zero => intro v1 M r; intro hf; cases hf
  | succ n ih =>
    intro v1 M r hf
    refine r_iload_n C0 dX11_note_11 rfl 1 rfl ?_
    refine r_sipush (v := 1573) C0 dX11_note_12 (by decide) ?_
    refine r_icmp_ge C0 39 dX11_note_15 (by decide) hf (fun hf => ?_) (fun hf => ?_)
    · refine r_aload_n C0 dX11_note_39 rfl 0 rfl ?_
      refine r_dup C0 dX11_note_40 rfl ?_
      refine r_getI C0 (C := RX11) (T := TX11) cl_X11 (K_X11_o hk_p0) (k := 8) (by decide) qw_452 rfl dX11_note_41 ?_
      refine r_iconst (v := 1) C0 dX11_note_44 (by decide) ?_
      refine r_isub C0 dX11_note_45 ?_
      refine r_putI C0 (C := RX11) (T := TX11) cl_X11 (K_X11_o hk_p0) (k := 8) (by decide) qw_452 rfl rfl rfl rfl hf dX11_note_46 (fun M1 hf => ?_)
      refine r_sub (L' := [(0, .ref p0)]) [0] rfl ?_
      exact g_X11_note_49 C0 F p0 hk_p0  M1 _  hf
    · refine r_aload_n C0 dX11_note_18 rfl 0 rfl ?_
      refine r_getR C0 (C := RX11) (T := TX11) cl_X11 (K_X11_o hk_p0) (k := 7) (by decide) qw_464 rfl (K_X11_diary_r hk_p0) dX11_note_19 ?_
      refine r_iload_n C0 dX11_note_22 rfl 1 rfl ?_
      refine r_aload_n C0 dX11_note_23 rfl 0 rfl ?_
      refine r_getR C0 (C := RX11) (T := TX11) cl_X11 (K_X11_o hk_p0) (k := 7) (by decide) qw_464 rfl (K_X11_diary_r hk_p0) dX11_note_24 ?_
      refine r_iload_n C0 dX11_note_27 rfl 1 rfl ?_
      refine r_bipush (v := 121) C0 dX11_note_28 (by decide) ?_
      refine r_iadd C0 dX11_note_30 ?_
      refine r_iald C0 (K_X11_diary_k hk_p0) hf dX11_note_31 (fun hf => ?_)
      refine r_iast C0 (K_X11_diary_k hk_p0) hf dX11_note_32 (fun M2 hf => ?_)
      refine r_iinc (j := 1) (v := (v1 + (1 : Int32))) (L' := [(1, .int (v1 + (1 : Int32))), (0, .ref p0)]) C0 dX11_note_33 rfl rfl (by decide) rfl ?_
      refine r_goto C0 11 dX11_note_36 (by decide) ?_
      refine r_sub (L' := [(0, .ref p0), (1, .int (v1 + (1 : Int32)))]) [1, 0] rfl ?_
      exact ih (v1 + (1 : Int32)) M2 _  hf
set_option maxHeartbeats 4000000 in
set_option maxRecDepth 100000 in
theorem c_X11_note {l : Launch} {E : zEn} {S : zSk} {X : zMl} (hl : l.stackTraces = false) (F : Nat) (p0 : Nat) (hk_p0 : K_X11 S p0) (M : zMi) (r : zMi) (hf : f_X11_note F p0 M = some r) : zM l E yX11_note cX11_note 2 (Option.none : Option Jvm.ClassFile.FieldType) { frames := 1, cells := 0, slots := 0, locals := 24 } 0 0 [.ref p0] S ZT M X S ZT none r X := by
  refine zM.intro (L0 := [(0, .ref p0)]) hl (by decide) (Nat.le_of_ble_eq_true rfl) rfl (fun Γ C0 _ => ?_)
  unfold f_X11_note at hf
  refine r_aload_n C0 dX11_note_0 rfl 0 rfl ?_
  refine r_getI C0 (C := RX11) (T := TX11) cl_X11 (K_X11_o hk_p0) (k := 8) (by decide) qw_452 rfl dX11_note_1 ?_
  refine r_bipush (v := 14) C0 dX11_note_4 (by decide) ?_
  refine r_icmp_ne C0 49 dX11_note_6 (by decide) hf (fun hf => ?_) (fun hf => ?_)
  · refine r_sub (L' := [(0, .ref p0)]) [0] rfl ?_
    exact g_X11_note_49 C0 F p0 hk_p0  M _  hf
  · refine r_iconst (v := 0) C0 dX11_note_9 (by decide) ?_
    refine r_istore_n (L' := [(1, .int (0 : Int32)), (0, .ref p0)]) C0 dX11_note_10 rfl (by decide) rfl ?_
    refine r_sub (L' := [(0, .ref p0), (1, .int (0 : Int32))]) [1, 0] rfl ?_
    exact g_X11_note_11 C0 F p0 hk_p0 F (0 : Int32) M _  hf
set_option maxHeartbeats 4000000 in
set_option maxRecDepth 100000 in
theorem g_X11_take_49 {Γ : zCx} {E : zEn} {S : zSk} {X : zMl} (C0 : zCt Γ E RX11 cX11_take 3 (Option.some Jvm.ClassFile.FieldType.int) [] { frames := 2, cells := 0, slots := 0, locals := 46 }) (F : Nat) (p0 : Nat) (p1 : Int32) (p2 : Int32) (hk_p0 : K_X11 S p0) (s0 : Int32) (M : zMi) (r : Int32 × zMi)  (hf : f_X11_take_49 F p0 p1 p2 s0 M = some r) : zG Γ (zQ Γ E 0 0 S ZT (some (.int r.1)) r.2 X) E 3 0 0 S ZT M X 49 [(0, .ref p0), (1, .int p1), (2, .int p2)] [.int s0, .ref p0] := by
  unfold f_X11_take_49 at hf
  refine r_callVim C0 (st := []) [.int s0] p0 hf vs_93 (fun hl r1 hr1 => c_X11_refused hl F p0 s0 hk_p0 M r1 hr1) (K_X11_o hk_p0) rfl rfl rfl rfl (Nat.le_of_ble_eq_true rfl) dX11_take_49 (zrm_ok rfl) (fun r1 hr1 hf => ?_)
  refine r_if_eq C0 57 dX11_take_52 (by decide) hf (fun hf => ?_) (fun hf => ?_)
  · refine r_aload_n C0 dX11_take_57 rfl 0 rfl ?_
    refine r_callVm C0 (st := []) [] p0 hf vs_102 (fun hl r2 hr2 => c_X11_note hl F p0 hk_p0 r1.2 r2 hr2) (K_X11_o hk_p0) rfl rfl rfl rfl (Nat.le_of_ble_eq_true rfl) dX11_take_58 (zrm_ok rfl) (fun r2 hr2 hf => ?_)
    refine r_aload_n C0 dX11_take_61 rfl 0 rfl ?_
    refine r_getR C0 (C := RX11) (T := TX11) cl_X11 (K_X11_o hk_p0) (k := 5) (by decide) qw_448 rfl (K_X11_now_r hk_p0) dX11_take_62 ?_
    refine r_iload_n C0 dX11_take_65 rfl 1 rfl ?_
    refine r_iload_n C0 dX11_take_66 rfl 2 rfl ?_
    refine r_callSm C0 (st := []) [.ref (p0 + 3), .int p1, .int p2] hf vs_91 (fun hl r3 hr3 => c_X11_takeOn hl F (p0 + 3) p1 p2 (K_X11_now_k hk_p0) r2 r3 hr3) rfl rfl (Nat.le_of_ble_eq_true rfl) dX11_take_67 (zrm_ok rfl) (fun r3 hr3 hf => ?_)
    refine r_aload_n C0 dX11_take_70 rfl 0 rfl ?_
    refine r_getR C0 (C := RX11) (T := TX11) cl_X11 (K_X11_o hk_p0) (k := 5) (by decide) qw_448 rfl (K_X11_now_r hk_p0) dX11_take_71 ?_
    refine r_iload_n C0 dX11_take_74 rfl 1 rfl ?_
    refine r_callSi C0 (st := [.ref (p0 + 3)]) [.int p1] hf vs_77 (fun hl r4 hr4 => c_X11_shipAt hl F p1 r3 r4 hr4) rfl rfl (Nat.le_of_ble_eq_true rfl) dX11_take_75 (zrm_ok rfl) (fun r4 hr4 hf => ?_)
    refine r_iconst (v := 4) C0 dX11_take_78 (by decide) ?_
    refine r_iadd C0 dX11_take_79 ?_
    refine r_iald C0 (K_X11_now_k hk_p0) hf dX11_take_80 (fun hf => ?_)
    obtain rfl := Option.some.inj hf
    exact r_iret C0 dX11_take_81
  · refine r_iconst (v := 0) C0 dX11_take_55 (by decide) ?_
    obtain rfl := Option.some.inj hf
    exact r_iret C0 dX11_take_56
set_option maxHeartbeats 4000000 in
set_option maxRecDepth 100000 in
theorem c_X11_take {l : Launch} {E : zEn} {S : zSk} {X : zMl} (hl : l.stackTraces = false) (F : Nat) (p0 : Nat) (p1 : Int32) (p2 : Int32) (hk_p0 : K_X11 S p0) (M : zMi) (r : Int32 × zMi) (hf : f_X11_take F p0 p1 p2 M = some r) : zM l E yX11_take cX11_take 3 (Option.some Jvm.ClassFile.FieldType.int) { frames := 2, cells := 0, slots := 0, locals := 46 } 0 0 [.ref p0, .int p1, .int p2] S ZT M X S ZT (some (.int r.1)) r.2 X := by
  refine zM.intro (L0 := [(0, .ref p0), (1, .int p1), (2, .int p2)]) hl (by decide) (Nat.le_of_ble_eq_true rfl) rfl (fun Γ C0 _ => ?_)
  unfold f_X11_take at hf
  refine r_aload_n C0 dX11_take_0 rfl 0 rfl ?_
  refine r_aload_n C0 dX11_take_1 rfl 0 rfl ?_
  refine r_getR C0 (C := RX11) (T := TX11) cl_X11 (K_X11_o hk_p0) (k := 5) (by decide) qw_448 rfl (K_X11_now_r hk_p0) dX11_take_2 ?_
  refine r_iload_n C0 dX11_take_5 rfl 1 rfl ?_
  refine r_callSi C0 (st := [.ref p0]) [.ref (p0 + 3), .int p1] hf vs_101 (fun hl r1 hr1 => c_X11_isShip hl F (p0 + 3) p1 (K_X11_now_k hk_p0) M r1 hr1) rfl rfl (Nat.le_of_ble_eq_true rfl) dX11_take_6 (zrm_ok rfl) (fun r1 hr1 hf => ?_)
  refine r_if_ne C0 16 dX11_take_9 (by decide) hf (fun hf => ?_) (fun hf => ?_)
  · refine r_iload_n C0 dX11_take_16 rfl 2 rfl ?_
    refine r_i2l C0 dX11_take_17 ?_
    refine r_lconst (v := 1) C0 dX11_take_18 (by decide) ?_
    refine r_ldc2 (v := 999) C0 qw_469 dX11_take_19 ?_
    refine r_callSi C0 (st := [.ref p0]) [.long ((p2).toInt64), .long (1 : Int64), .long (999 : Int64)] hf vs_74 (fun hl r2 hr2 => c_X11_in hl F ((p2).toInt64) (1 : Int64) (999 : Int64) M r2 hr2) rfl rfl (Nat.le_of_ble_eq_true rfl) dX11_take_22 (zrm_ok rfl) (fun r2 hr2 hf => ?_)
    refine r_if_ne C0 32 dX11_take_25 (by decide) hf (fun hf => ?_) (fun hf => ?_)
    · refine r_aload_n C0 dX11_take_32 rfl 0 rfl ?_
      refine r_getR C0 (C := RX11) (T := TX11) cl_X11 (K_X11_o hk_p0) (k := 5) (by decide) qw_448 rfl (K_X11_now_r hk_p0) dX11_take_33 ?_
      refine r_iload_n C0 dX11_take_36 rfl 1 rfl ?_
      refine r_iload_n C0 dX11_take_37 rfl 2 rfl ?_
      refine r_callSi C0 (st := [.ref p0]) [.ref (p0 + 3), .int p1, .int p2] hf vs_103 (fun hl r3 hr3 => c_X11_canTake hl F (p0 + 3) p1 p2 (K_X11_now_k hk_p0) M r3 hr3) rfl rfl (Nat.le_of_ble_eq_true rfl) dX11_take_38 (zrm_ok rfl) (fun r3 hr3 hf => ?_)
      refine r_if_ne C0 48 dX11_take_41 (by decide) hf (fun hf => ?_) (fun hf => ?_)
      · refine r_iconst (v := 0) C0 dX11_take_48 (by decide) ?_
        refine r_sub (L' := [(0, .ref p0), (1, .int p1), (2, .int p2)]) [0, 1, 2] rfl ?_
        exact g_X11_take_49 C0 F p0 p1 p2 hk_p0 (0 : Int32) M _  hf
      · refine r_iconst (v := 3) C0 dX11_take_44 (by decide) ?_
        refine r_goto C0 49 dX11_take_45 (by decide) ?_
        refine r_sub (L' := [(0, .ref p0), (1, .int p1), (2, .int p2)]) [0, 1, 2] rfl ?_
        exact g_X11_take_49 C0 F p0 p1 p2 hk_p0 (3 : Int32) M _  hf
    · refine r_iconst (v := 2) C0 dX11_take_28 (by decide) ?_
      refine r_goto C0 49 dX11_take_29 (by decide) ?_
      refine r_sub (L' := [(0, .ref p0), (1, .int p1), (2, .int p2)]) [0, 1, 2] rfl ?_
      exact g_X11_take_49 C0 F p0 p1 p2 hk_p0 (2 : Int32) M _  hf
  · refine r_iconst (v := 1) C0 dX11_take_12 (by decide) ?_
    refine r_goto C0 49 dX11_take_13 (by decide) ?_
    refine r_sub (L' := [(0, .ref p0), (1, .int p1), (2, .int p2)]) [0, 1, 2] rfl ?_
    exact g_X11_take_49 C0 F p0 p1 p2 hk_p0 (1 : Int32) M _  hf
set_option maxHeartbeats 4000000 in
set_option maxRecDepth 100000 in
theorem g_X11_send_32 {Γ : zCx} {E : zEn} {S : zSk} {X : zMl} (C0 : zCt Γ E RX11 cX11_send 2 (Option.some Jvm.ClassFile.FieldType.int) [] { frames := 2, cells := 0, slots := 0, locals := 46 }) (F : Nat) (p0 : Nat) (p1 : Int32) (hk_p0 : K_X11 S p0) (s0 : Int32) (M : zMi) (r : Int32 × zMi)  (hf : f_X11_send_32 F p0 p1 s0 M = some r) : zG Γ (zQ Γ E 0 0 S ZT (some (.int r.1)) r.2 X) E 2 0 0 S ZT M X 32 [(0, .ref p0), (1, .int p1)] [.int s0, .ref p0] := by
  unfold f_X11_send_32 at hf
  refine r_callVim C0 (st := []) [.int s0] p0 hf vs_93 (fun hl r1 hr1 => c_X11_refused hl F p0 s0 hk_p0 M r1 hr1) (K_X11_o hk_p0) rfl rfl rfl rfl (Nat.le_of_ble_eq_true rfl) dX11_send_32 (zrm_ok rfl) (fun r1 hr1 hf => ?_)
  refine r_if_eq C0 40 dX11_send_35 (by decide) hf (fun hf => ?_) (fun hf => ?_)
  · refine r_aload_n C0 dX11_send_40 rfl 0 rfl ?_
    refine r_callVm C0 (st := []) [] p0 hf vs_102 (fun hl r2 hr2 => c_X11_note hl F p0 hk_p0 r1.2 r2 hr2) (K_X11_o hk_p0) rfl rfl rfl rfl (Nat.le_of_ble_eq_true rfl) dX11_send_41 (zrm_ok rfl) (fun r2 hr2 hf => ?_)
    refine r_aload_n C0 dX11_send_44 rfl 0 rfl ?_
    refine r_getR C0 (C := RX11) (T := TX11) cl_X11 (K_X11_o hk_p0) (k := 5) (by decide) qw_448 rfl (K_X11_now_r hk_p0) dX11_send_45 ?_
    refine r_iload_n C0 dX11_send_48 rfl 1 rfl ?_
    refine r_callSim C0 (st := []) [.ref (p0 + 3), .int p1] hf vs_92 (fun hl r3 hr3 => c_X11_sendOn hl F (p0 + 3) p1 (K_X11_now_k hk_p0) r2 r3 hr3) rfl rfl (Nat.le_of_ble_eq_true rfl) dX11_send_49 (zrm_ok rfl) (fun r3 hr3 hf => ?_)
    obtain rfl := Option.some.inj hf
    exact r_iret C0 dX11_send_52
  · refine r_iconst (v := 0) C0 dX11_send_38 (by decide) ?_
    obtain rfl := Option.some.inj hf
    exact r_iret C0 dX11_send_39
set_option maxHeartbeats 4000000 in
set_option maxRecDepth 100000 in
theorem c_X11_send {l : Launch} {E : zEn} {S : zSk} {X : zMl} (hl : l.stackTraces = false) (F : Nat) (p0 : Nat) (p1 : Int32) (hk_p0 : K_X11 S p0) (M : zMi) (r : Int32 × zMi) (hf : f_X11_send F p0 p1 M = some r) : zM l E yX11_send cX11_send 2 (Option.some Jvm.ClassFile.FieldType.int) { frames := 2, cells := 0, slots := 0, locals := 46 } 0 0 [.ref p0, .int p1] S ZT M X S ZT (some (.int r.1)) r.2 X := by
  refine zM.intro (L0 := [(0, .ref p0), (1, .int p1)]) hl (by decide) (Nat.le_of_ble_eq_true rfl) rfl (fun Γ C0 _ => ?_)
  unfold f_X11_send at hf
  refine r_aload_n C0 dX11_send_0 rfl 0 rfl ?_
  refine r_aload_n C0 dX11_send_1 rfl 0 rfl ?_
  refine r_getR C0 (C := RX11) (T := TX11) cl_X11 (K_X11_o hk_p0) (k := 5) (by decide) qw_448 rfl (K_X11_now_r hk_p0) dX11_send_2 ?_
  refine r_iload_n C0 dX11_send_5 rfl 1 rfl ?_
  refine r_callSi C0 (st := [.ref p0]) [.ref (p0 + 3), .int p1] hf vs_101 (fun hl r1 hr1 => c_X11_isShip hl F (p0 + 3) p1 (K_X11_now_k hk_p0) M r1 hr1) rfl rfl (Nat.le_of_ble_eq_true rfl) dX11_send_6 (zrm_ok rfl) (fun r1 hr1 hf => ?_)
  refine r_if_ne C0 16 dX11_send_9 (by decide) hf (fun hf => ?_) (fun hf => ?_)
  · refine r_aload_n C0 dX11_send_16 rfl 0 rfl ?_
    refine r_getR C0 (C := RX11) (T := TX11) cl_X11 (K_X11_o hk_p0) (k := 5) (by decide) qw_448 rfl (K_X11_now_r hk_p0) dX11_send_17 ?_
    refine r_iload_n C0 dX11_send_20 rfl 1 rfl ?_
    refine r_callSi C0 (st := [.ref p0]) [.ref (p0 + 3), .int p1] hf vs_104 (fun hl r2 hr2 => c_X11_canSend hl F (p0 + 3) p1 (K_X11_now_k hk_p0) M r2 hr2) rfl rfl (Nat.le_of_ble_eq_true rfl) dX11_send_21 (zrm_ok rfl) (fun r2 hr2 hf => ?_)
    refine r_if_ne C0 31 dX11_send_24 (by decide) hf (fun hf => ?_) (fun hf => ?_)
    · refine r_iconst (v := 0) C0 dX11_send_31 (by decide) ?_
      refine r_sub (L' := [(0, .ref p0), (1, .int p1)]) [0, 1] rfl ?_
      exact g_X11_send_32 C0 F p0 p1 hk_p0 (0 : Int32) M _  hf
    · refine r_iconst (v := 2) C0 dX11_send_27 (by decide) ?_
      refine r_goto C0 32 dX11_send_28 (by decide) ?_
      refine r_sub (L' := [(0, .ref p0), (1, .int p1)]) [0, 1] rfl ?_
      exact g_X11_send_32 C0 F p0 p1 hk_p0 (2 : Int32) M _  hf
  · refine r_iconst (v := 1) C0 dX11_send_12 (by decide) ?_
    refine r_goto C0 32 dX11_send_13 (by decide) ?_
    refine r_sub (L' := [(0, .ref p0), (1, .int p1)]) [0, 1] rfl ?_
    exact g_X11_send_32 C0 F p0 p1 hk_p0 (1 : Int32) M _  hf
set_option maxHeartbeats 4000000 in
set_option maxRecDepth 100000 in
theorem g_X11_recall_32 {Γ : zCx} {E : zEn} {S : zSk} {X : zMl} (C0 : zCt Γ E RX11 cX11_recall 2 (Option.some Jvm.ClassFile.FieldType.int) [] { frames := 3, cells := 0, slots := 0, locals := 63 }) (F : Nat) (p0 : Nat) (p1 : Int32) (hk_p0 : K_X11 S p0) (s0 : Int32) (M : zMi) (r : Int32 × zMi)  (hf : f_X11_recall_32 F p0 p1 s0 M = some r) : zG Γ (zQ Γ E 0 0 S ZT (some (.int r.1)) r.2 X) E 2 0 0 S ZT M X 32 [(0, .ref p0), (1, .int p1)] [.int s0, .ref p0] := by
  unfold f_X11_recall_32 at hf
  refine r_callVim C0 (st := []) [.int s0] p0 hf vs_93 (fun hl r1 hr1 => c_X11_refused hl F p0 s0 hk_p0 M r1 hr1) (K_X11_o hk_p0) rfl rfl rfl rfl (Nat.le_of_ble_eq_true rfl) dX11_recall_32 (zrm_ok rfl) (fun r1 hr1 hf => ?_)
  refine r_if_eq C0 40 dX11_recall_35 (by decide) hf (fun hf => ?_) (fun hf => ?_)
  · refine r_aload_n C0 dX11_recall_40 rfl 0 rfl ?_
    refine r_callVm C0 (st := []) [] p0 hf vs_102 (fun hl r2 hr2 => c_X11_note hl F p0 hk_p0 r1.2 r2 hr2) (K_X11_o hk_p0) rfl rfl rfl rfl (Nat.le_of_ble_eq_true rfl) dX11_recall_41 (zrm_ok rfl) (fun r2 hr2 hf => ?_)
    refine r_aload_n C0 dX11_recall_44 rfl 0 rfl ?_
    refine r_getR C0 (C := RX11) (T := TX11) cl_X11 (K_X11_o hk_p0) (k := 5) (by decide) qw_448 rfl (K_X11_now_r hk_p0) dX11_recall_45 ?_
    refine r_iload_n C0 dX11_recall_48 rfl 1 rfl ?_
    refine r_callSim C0 (st := []) [.ref (p0 + 3), .int p1] hf vs_105 (fun hl r3 hr3 => c_X11_recallOn hl F (p0 + 3) p1 (K_X11_now_k hk_p0) r2 r3 hr3) rfl rfl (Nat.le_of_ble_eq_true rfl) dX11_recall_49 (zrm_ok rfl) (fun r3 hr3 hf => ?_)
    obtain rfl := Option.some.inj hf
    exact r_iret C0 dX11_recall_52
  · refine r_iconst (v := 0) C0 dX11_recall_38 (by decide) ?_
    obtain rfl := Option.some.inj hf
    exact r_iret C0 dX11_recall_39
set_option maxHeartbeats 4000000 in
set_option maxRecDepth 100000 in
theorem c_X11_recall {l : Launch} {E : zEn} {S : zSk} {X : zMl} (hl : l.stackTraces = false) (F : Nat) (p0 : Nat) (p1 : Int32) (hk_p0 : K_X11 S p0) (M : zMi) (r : Int32 × zMi) (hf : f_X11_recall F p0 p1 M = some r) : zM l E yX11_recall cX11_recall 2 (Option.some Jvm.ClassFile.FieldType.int) { frames := 3, cells := 0, slots := 0, locals := 63 } 0 0 [.ref p0, .int p1] S ZT M X S ZT (some (.int r.1)) r.2 X := by
  refine zM.intro (L0 := [(0, .ref p0), (1, .int p1)]) hl (by decide) (Nat.le_of_ble_eq_true rfl) rfl (fun Γ C0 _ => ?_)
  unfold f_X11_recall at hf
  refine r_aload_n C0 dX11_recall_0 rfl 0 rfl ?_
  refine r_aload_n C0 dX11_recall_1 rfl 0 rfl ?_
  refine r_getR C0 (C := RX11) (T := TX11) cl_X11 (K_X11_o hk_p0) (k := 5) (by decide) qw_448 rfl (K_X11_now_r hk_p0) dX11_recall_2 ?_
  refine r_iload_n C0 dX11_recall_5 rfl 1 rfl ?_
  refine r_callSi C0 (st := [.ref p0]) [.ref (p0 + 3), .int p1] hf vs_101 (fun hl r1 hr1 => c_X11_isShip hl F (p0 + 3) p1 (K_X11_now_k hk_p0) M r1 hr1) rfl rfl (Nat.le_of_ble_eq_true rfl) dX11_recall_6 (zrm_ok rfl) (fun r1 hr1 hf => ?_)
  refine r_if_ne C0 16 dX11_recall_9 (by decide) hf (fun hf => ?_) (fun hf => ?_)
  · refine r_aload_n C0 dX11_recall_16 rfl 0 rfl ?_
    refine r_getR C0 (C := RX11) (T := TX11) cl_X11 (K_X11_o hk_p0) (k := 5) (by decide) qw_448 rfl (K_X11_now_r hk_p0) dX11_recall_17 ?_
    refine r_iload_n C0 dX11_recall_20 rfl 1 rfl ?_
    refine r_callSi C0 (st := [.ref p0]) [.ref (p0 + 3), .int p1] hf vs_106 (fun hl r2 hr2 => c_X11_canRecall hl F (p0 + 3) p1 (K_X11_now_k hk_p0) M r2 hr2) rfl rfl (Nat.le_of_ble_eq_true rfl) dX11_recall_21 (zrm_ok rfl) (fun r2 hr2 hf => ?_)
    refine r_if_ne C0 31 dX11_recall_24 (by decide) hf (fun hf => ?_) (fun hf => ?_)
    · refine r_iconst (v := 0) C0 dX11_recall_31 (by decide) ?_
      refine r_sub (L' := [(0, .ref p0), (1, .int p1)]) [0, 1] rfl ?_
      exact g_X11_recall_32 C0 F p0 p1 hk_p0 (0 : Int32) M _  hf
    · refine r_iconst (v := 2) C0 dX11_recall_27 (by decide) ?_
      refine r_goto C0 32 dX11_recall_28 (by decide) ?_
      refine r_sub (L' := [(0, .ref p0), (1, .int p1)]) [0, 1] rfl ?_
      exact g_X11_recall_32 C0 F p0 p1 hk_p0 (2 : Int32) M _  hf
  · refine r_iconst (v := 1) C0 dX11_recall_12 (by decide) ?_
    refine r_goto C0 32 dX11_recall_13 (by decide) ?_
    refine r_sub (L' := [(0, .ref p0), (1, .int p1)]) [0, 1] rfl ?_
    exact g_X11_recall_32 C0 F p0 p1 hk_p0 (1 : Int32) M _  hf
set_option maxHeartbeats 4000000 in
set_option maxRecDepth 100000 in
theorem c_X11_canExtend {l : Launch} {E : zEn} {S : zSk} {X : zMl} (hl : l.stackTraces = false) (F : Nat) (p0 : Nat) (p1 : Int32) (p2 : Int32) (hk_p0 : S.1 p0 = some (.inr (0, 121))) (M : zMi) (r : Int32) (hf : f_X11_canExtend F p0 p1 p2 M = some r) : zM l E yX11_canExtend cX11_canExtend 3 (Option.some Jvm.ClassFile.FieldType.boolean) { frames := 1, cells := 0, slots := 0, locals := 20 } 0 0 [.ref p0, .int p1, .int p2] S ZT M X S ZT (some (.int r)) M X := by
  refine zM.intro (L0 := [(0, .ref p0), (1, .int p1), (2, .int p2)]) hl (by decide) (Nat.le_of_ble_eq_true rfl) rfl (fun Γ C0 _ => ?_)
  unfold f_X11_canExtend at hf
  refine r_aload_n C0 dX11_canExtend_0 rfl 0 rfl ?_
  refine r_iload_n C0 dX11_canExtend_1 rfl 1 rfl ?_
  refine r_callSi C0 (st := [.ref p0]) [.int p1] hf vs_75 (fun hl r1 hr1 => c_X11_zoneAt hl F p1 M r1 hr1) rfl rfl (Nat.le_of_ble_eq_true rfl) dX11_canExtend_2 (zrm_ok rfl) (fun r1 hr1 hf => ?_)
  refine r_iconst (v := 2) C0 dX11_canExtend_5 (by decide) ?_
  refine r_iadd C0 dX11_canExtend_6 ?_
  refine r_iald C0 hk_p0 hf dX11_canExtend_7 (fun hf => ?_)
  refine r_iload_n C0 dX11_canExtend_8 rfl 2 rfl ?_
  refine r_iadd C0 dX11_canExtend_9 ?_
  refine r_sipush (v := 999) C0 dX11_canExtend_10 (by decide) ?_
  refine r_icmp_gt C0 20 dX11_canExtend_13 (by decide) hf (fun hf => ?_) (fun hf => ?_)
  · refine r_iconst (v := 0) C0 dX11_canExtend_20 (by decide) ?_
    obtain rfl := Option.some.inj hf
    exact r_zret C0 rfl dX11_canExtend_21
  · refine r_iconst (v := 1) C0 dX11_canExtend_16 (by decide) ?_
    refine r_goto C0 21 dX11_canExtend_17 (by decide) ?_
    obtain rfl := Option.some.inj hf
    exact r_zret C0 rfl dX11_canExtend_21
set_option maxHeartbeats 4000000 in
set_option maxRecDepth 100000 in
theorem c_X11_extendOn {l : Launch} {E : zEn} {S : zSk} {X : zMl} (hl : l.stackTraces = false) (F : Nat) (p0 : Nat) (p1 : Int32) (p2 : Int32) (hk_p0 : S.1 p0 = some (.inr (0, 121))) (M : zMi) (r : zMi) (hf : f_X11_extendOn F p0 p1 p2 M = some r) : zM l E yX11_extendOn cX11_extendOn 3 (Option.none : Option Jvm.ClassFile.FieldType) { frames := 1, cells := 0, slots := 0, locals := 20 } 0 0 [.ref p0, .int p1, .int p2] S ZT M X S ZT none r X := by
  refine zM.intro (L0 := [(0, .ref p0), (1, .int p1), (2, .int p2)]) hl (by decide) (Nat.le_of_ble_eq_true rfl) rfl (fun Γ C0 _ => ?_)
  unfold f_X11_extendOn at hf
  refine r_aload_n C0 dX11_extendOn_0 rfl 0 rfl ?_
  refine r_iload_n C0 dX11_extendOn_1 rfl 1 rfl ?_
  refine r_callSi C0 (st := [.ref p0]) [.int p1] hf vs_75 (fun hl r1 hr1 => c_X11_zoneAt hl F p1 M r1 hr1) rfl rfl (Nat.le_of_ble_eq_true rfl) dX11_extendOn_2 (zrm_ok rfl) (fun r1 hr1 hf => ?_)
  refine r_iconst (v := 2) C0 dX11_extendOn_5 (by decide) ?_
  refine r_iadd C0 dX11_extendOn_6 ?_
  refine r_nm hf (fun x2 hf => ?_)
  refine r_dup2 C0 dX11_extendOn_7 rfl rfl ?_
  refine r_iald C0 hk_p0 hf dX11_extendOn_8 (fun hf => ?_)
  refine r_iload_n C0 dX11_extendOn_9 rfl 2 rfl ?_
  refine r_iadd C0 dX11_extendOn_10 ?_
  refine r_iast C0 hk_p0 hf dX11_extendOn_11 (fun M3 hf => ?_)
  refine r_aload_n C0 dX11_extendOn_12 rfl 0 rfl ?_
  refine r_bipush (v := 21) C0 dX11_extendOn_13 (by decide) ?_
  refine r_dup2 C0 dX11_extendOn_15 rfl rfl ?_
  refine r_iald' (j := 21) C0 hk_p0 rfl rfl dX11_extendOn_16 ?_
  refine r_bipush (v := 50) C0 dX11_extendOn_17 (by decide) ?_
  refine r_iload_n C0 dX11_extendOn_19 rfl 2 rfl ?_
  refine r_imul C0 dX11_extendOn_20 ?_
  refine r_iadd C0 dX11_extendOn_21 ?_
  refine r_iast' (j := 21) C0 hk_p0 rfl rfl hf dX11_extendOn_22 (fun M4 hf => ?_)
  obtain rfl := Option.some.inj hf
  exact r_vret C0 dX11_extendOn_23
set_option maxHeartbeats 4000000 in
set_option maxRecDepth 100000 in
theorem g_X11_extend_49 {Γ : zCx} {E : zEn} {S : zSk} {X : zMl} (C0 : zCt Γ E RX11 cX11_extend 3 (Option.some Jvm.ClassFile.FieldType.int) [] { frames := 2, cells := 0, slots := 0, locals := 46 }) (F : Nat) (p0 : Nat) (p1 : Int32) (p2 : Int32) (hk_p0 : K_X11 S p0) (s0 : Int32) (M : zMi) (r : Int32 × zMi)  (hf : f_X11_extend_49 F p0 p1 p2 s0 M = some r) : zG Γ (zQ Γ E 0 0 S ZT (some (.int r.1)) r.2 X) E 3 0 0 S ZT M X 49 [(0, .ref p0), (1, .int p1), (2, .int p2)] [.int s0, .ref p0] := by
  unfold f_X11_extend_49 at hf
  refine r_callVim C0 (st := []) [.int s0] p0 hf vs_93 (fun hl r1 hr1 => c_X11_refused hl F p0 s0 hk_p0 M r1 hr1) (K_X11_o hk_p0) rfl rfl rfl rfl (Nat.le_of_ble_eq_true rfl) dX11_extend_49 (zrm_ok rfl) (fun r1 hr1 hf => ?_)
  refine r_if_eq C0 57 dX11_extend_52 (by decide) hf (fun hf => ?_) (fun hf => ?_)
  · refine r_aload_n C0 dX11_extend_57 rfl 0 rfl ?_
    refine r_callVm C0 (st := []) [] p0 hf vs_102 (fun hl r2 hr2 => c_X11_note hl F p0 hk_p0 r1.2 r2 hr2) (K_X11_o hk_p0) rfl rfl rfl rfl (Nat.le_of_ble_eq_true rfl) dX11_extend_58 (zrm_ok rfl) (fun r2 hr2 hf => ?_)
    refine r_aload_n C0 dX11_extend_61 rfl 0 rfl ?_
    refine r_getR C0 (C := RX11) (T := TX11) cl_X11 (K_X11_o hk_p0) (k := 5) (by decide) qw_448 rfl (K_X11_now_r hk_p0) dX11_extend_62 ?_
    refine r_iload_n C0 dX11_extend_65 rfl 1 rfl ?_
    refine r_iload_n C0 dX11_extend_66 rfl 2 rfl ?_
    refine r_callSm C0 (st := []) [.ref (p0 + 3), .int p1, .int p2] hf vs_107 (fun hl r3 hr3 => c_X11_extendOn hl F (p0 + 3) p1 p2 (K_X11_now_k hk_p0) r2 r3 hr3) rfl rfl (Nat.le_of_ble_eq_true rfl) dX11_extend_67 (zrm_ok rfl) (fun r3 hr3 hf => ?_)
    refine r_aload_n C0 dX11_extend_70 rfl 0 rfl ?_
    refine r_getR C0 (C := RX11) (T := TX11) cl_X11 (K_X11_o hk_p0) (k := 5) (by decide) qw_448 rfl (K_X11_now_r hk_p0) dX11_extend_71 ?_
    refine r_iload_n C0 dX11_extend_74 rfl 1 rfl ?_
    refine r_callSi C0 (st := [.ref (p0 + 3)]) [.int p1] hf vs_75 (fun hl r4 hr4 => c_X11_zoneAt hl F p1 r3 r4 hr4) rfl rfl (Nat.le_of_ble_eq_true rfl) dX11_extend_75 (zrm_ok rfl) (fun r4 hr4 hf => ?_)
    refine r_iconst (v := 2) C0 dX11_extend_78 (by decide) ?_
    refine r_iadd C0 dX11_extend_79 ?_
    refine r_iald C0 (K_X11_now_k hk_p0) hf dX11_extend_80 (fun hf => ?_)
    obtain rfl := Option.some.inj hf
    exact r_iret C0 dX11_extend_81
  · refine r_iconst (v := 0) C0 dX11_extend_55 (by decide) ?_
    obtain rfl := Option.some.inj hf
    exact r_iret C0 dX11_extend_56
set_option maxHeartbeats 4000000 in
set_option maxRecDepth 100000 in
theorem c_X11_extend {l : Launch} {E : zEn} {S : zSk} {X : zMl} (hl : l.stackTraces = false) (F : Nat) (p0 : Nat) (p1 : Int32) (p2 : Int32) (hk_p0 : K_X11 S p0) (M : zMi) (r : Int32 × zMi) (hf : f_X11_extend F p0 p1 p2 M = some r) : zM l E yX11_extend cX11_extend 3 (Option.some Jvm.ClassFile.FieldType.int) { frames := 2, cells := 0, slots := 0, locals := 46 } 0 0 [.ref p0, .int p1, .int p2] S ZT M X S ZT (some (.int r.1)) r.2 X := by
  refine zM.intro (L0 := [(0, .ref p0), (1, .int p1), (2, .int p2)]) hl (by decide) (Nat.le_of_ble_eq_true rfl) rfl (fun Γ C0 _ => ?_)
  unfold f_X11_extend at hf
  refine r_aload_n C0 dX11_extend_0 rfl 0 rfl ?_
  refine r_aload_n C0 dX11_extend_1 rfl 0 rfl ?_
  refine r_getR C0 (C := RX11) (T := TX11) cl_X11 (K_X11_o hk_p0) (k := 5) (by decide) qw_448 rfl (K_X11_now_r hk_p0) dX11_extend_2 ?_
  refine r_iload_n C0 dX11_extend_5 rfl 1 rfl ?_
  refine r_callSi C0 (st := [.ref p0]) [.ref (p0 + 3), .int p1] hf vs_100 (fun hl r1 hr1 => c_X11_isZone hl F (p0 + 3) p1 (K_X11_now_k hk_p0) M r1 hr1) rfl rfl (Nat.le_of_ble_eq_true rfl) dX11_extend_6 (zrm_ok rfl) (fun r1 hr1 hf => ?_)
  refine r_if_ne C0 16 dX11_extend_9 (by decide) hf (fun hf => ?_) (fun hf => ?_)
  · refine r_iload_n C0 dX11_extend_16 rfl 2 rfl ?_
    refine r_i2l C0 dX11_extend_17 ?_
    refine r_lconst (v := 1) C0 dX11_extend_18 (by decide) ?_
    refine r_ldc2 (v := 99) C0 qw_485 dX11_extend_19 ?_
    refine r_callSi C0 (st := [.ref p0]) [.long ((p2).toInt64), .long (1 : Int64), .long (99 : Int64)] hf vs_74 (fun hl r2 hr2 => c_X11_in hl F ((p2).toInt64) (1 : Int64) (99 : Int64) M r2 hr2) rfl rfl (Nat.le_of_ble_eq_true rfl) dX11_extend_22 (zrm_ok rfl) (fun r2 hr2 hf => ?_)
    refine r_if_ne C0 32 dX11_extend_25 (by decide) hf (fun hf => ?_) (fun hf => ?_)
    · refine r_aload_n C0 dX11_extend_32 rfl 0 rfl ?_
      refine r_getR C0 (C := RX11) (T := TX11) cl_X11 (K_X11_o hk_p0) (k := 5) (by decide) qw_448 rfl (K_X11_now_r hk_p0) dX11_extend_33 ?_
      refine r_iload_n C0 dX11_extend_36 rfl 1 rfl ?_
      refine r_iload_n C0 dX11_extend_37 rfl 2 rfl ?_
      refine r_callSi C0 (st := [.ref p0]) [.ref (p0 + 3), .int p1, .int p2] hf vs_108 (fun hl r3 hr3 => c_X11_canExtend hl F (p0 + 3) p1 p2 (K_X11_now_k hk_p0) M r3 hr3) rfl rfl (Nat.le_of_ble_eq_true rfl) dX11_extend_38 (zrm_ok rfl) (fun r3 hr3 hf => ?_)
      refine r_if_ne C0 48 dX11_extend_41 (by decide) hf (fun hf => ?_) (fun hf => ?_)
      · refine r_iconst (v := 0) C0 dX11_extend_48 (by decide) ?_
        refine r_sub (L' := [(0, .ref p0), (1, .int p1), (2, .int p2)]) [0, 1, 2] rfl ?_
        exact g_X11_extend_49 C0 F p0 p1 p2 hk_p0 (0 : Int32) M _  hf
      · refine r_iconst (v := 3) C0 dX11_extend_44 (by decide) ?_
        refine r_goto C0 49 dX11_extend_45 (by decide) ?_
        refine r_sub (L' := [(0, .ref p0), (1, .int p1), (2, .int p2)]) [0, 1, 2] rfl ?_
        exact g_X11_extend_49 C0 F p0 p1 p2 hk_p0 (3 : Int32) M _  hf
    · refine r_iconst (v := 2) C0 dX11_extend_28 (by decide) ?_
      refine r_goto C0 49 dX11_extend_29 (by decide) ?_
      refine r_sub (L' := [(0, .ref p0), (1, .int p1), (2, .int p2)]) [0, 1, 2] rfl ?_
      exact g_X11_extend_49 C0 F p0 p1 p2 hk_p0 (2 : Int32) M _  hf
  · refine r_iconst (v := 1) C0 dX11_extend_12 (by decide) ?_
    refine r_goto C0 49 dX11_extend_13 (by decide) ?_
    refine r_sub (L' := [(0, .ref p0), (1, .int p1), (2, .int p2)]) [0, 1, 2] rfl ?_
    exact g_X11_extend_49 C0 F p0 p1 p2 hk_p0 (1 : Int32) M _  hf
set_option maxHeartbeats 4000000 in
set_option maxRecDepth 100000 in
theorem c_X11_buyOn {l : Launch} {E : zEn} {S : zSk} {X : zMl} (hl : l.stackTraces = false) (F : Nat) (p0 : Nat) (p1 : Int32) (hk_p0 : S.1 p0 = some (.inr (0, 121))) (M : zMi) (r : zMi) (hf : f_X11_buyOn F p0 p1 M = some r) : zM l E yX11_buyOn cX11_buyOn 2 (Option.none : Option Jvm.ClassFile.FieldType) { frames := 0, cells := 0, slots := 0, locals := 0 } 0 0 [.ref p0, .int p1] S ZT M X S ZT none r X := by
  refine zM.intro (L0 := [(0, .ref p0), (1, .int p1)]) hl (by decide) (Nat.le_of_ble_eq_true rfl) rfl (fun Γ C0 _ => ?_)
  unfold f_X11_buyOn at hf
  refine r_aload_n C0 dX11_buyOn_0 rfl 0 rfl ?_
  refine r_iconst (v := 2) C0 dX11_buyOn_1 (by decide) ?_
  refine r_dup2 C0 dX11_buyOn_2 rfl rfl ?_
  refine r_iald' (j := 2) C0 hk_p0 rfl rfl dX11_buyOn_3 ?_
  refine r_iload_n C0 dX11_buyOn_4 rfl 1 rfl ?_
  refine r_iadd C0 dX11_buyOn_5 ?_
  refine r_iast' (j := 2) C0 hk_p0 rfl rfl hf dX11_buyOn_6 (fun M1 hf => ?_)
  refine r_aload_n C0 dX11_buyOn_7 rfl 0 rfl ?_
  refine r_bipush (v := 16) C0 dX11_buyOn_8 (by decide) ?_
  refine r_dup2 C0 dX11_buyOn_10 rfl rfl ?_
  refine r_iald' (j := 16) C0 hk_p0 rfl rfl dX11_buyOn_11 ?_
  refine r_iload_n C0 dX11_buyOn_12 rfl 1 rfl ?_
  refine r_iadd C0 dX11_buyOn_13 ?_
  refine r_iast' (j := 16) C0 hk_p0 rfl rfl hf dX11_buyOn_14 (fun M2 hf => ?_)
  refine r_aload_n C0 dX11_buyOn_15 rfl 0 rfl ?_
  refine r_bipush (v := 22) C0 dX11_buyOn_16 (by decide) ?_
  refine r_dup2 C0 dX11_buyOn_18 rfl rfl ?_
  refine r_iald' (j := 22) C0 hk_p0 rfl rfl dX11_buyOn_19 ?_
  refine r_iconst (v := 3) C0 dX11_buyOn_20 (by decide) ?_
  refine r_iload_n C0 dX11_buyOn_21 rfl 1 rfl ?_
  refine r_imul C0 dX11_buyOn_22 ?_
  refine r_iadd C0 dX11_buyOn_23 ?_
  refine r_iast' (j := 22) C0 hk_p0 rfl rfl hf dX11_buyOn_24 (fun M3 hf => ?_)
  obtain rfl := Option.some.inj hf
  exact r_vret C0 dX11_buyOn_25
set_option maxHeartbeats 4000000 in
set_option maxRecDepth 100000 in
theorem g_X11_buy_38 {Γ : zCx} {E : zEn} {S : zSk} {X : zMl} (C0 : zCt Γ E RX11 cX11_buy 3 (Option.some Jvm.ClassFile.FieldType.int) [] { frames := 2, cells := 0, slots := 0, locals := 45 }) (F : Nat) (p0 : Nat) (p1 : Int32) (hk_p0 : K_X11 S p0) (s0 : Int32) (M : zMi) (r : Int32 × zMi)  (hf : f_X11_buy_38 F p0 p1 s0 M = some r) : zG Γ (zQ Γ E 0 0 S ZT (some (.int r.1)) r.2 X) E 3 0 0 S ZT M X 38 [(0, .ref p0), (1, .int p1)] [.int s0, .ref p0] := by
  unfold f_X11_buy_38 at hf
  refine r_callVim C0 (st := []) [.int s0] p0 hf vs_93 (fun hl r1 hr1 => c_X11_refused hl F p0 s0 hk_p0 M r1 hr1) (K_X11_o hk_p0) rfl rfl rfl rfl (Nat.le_of_ble_eq_true rfl) dX11_buy_38 (zrm_ok rfl) (fun r1 hr1 hf => ?_)
  refine r_if_eq C0 46 dX11_buy_41 (by decide) hf (fun hf => ?_) (fun hf => ?_)
  · refine r_aload_n C0 dX11_buy_46 rfl 0 rfl ?_
    refine r_callVm C0 (st := []) [] p0 hf vs_102 (fun hl r2 hr2 => c_X11_note hl F p0 hk_p0 r1.2 r2 hr2) (K_X11_o hk_p0) rfl rfl rfl rfl (Nat.le_of_ble_eq_true rfl) dX11_buy_47 (zrm_ok rfl) (fun r2 hr2 hf => ?_)
    refine r_aload_n C0 dX11_buy_50 rfl 0 rfl ?_
    refine r_getR C0 (C := RX11) (T := TX11) cl_X11 (K_X11_o hk_p0) (k := 5) (by decide) qw_448 rfl (K_X11_now_r hk_p0) dX11_buy_51 ?_
    refine r_iload_n C0 dX11_buy_54 rfl 1 rfl ?_
    refine r_callSm C0 (st := []) [.ref (p0 + 3), .int p1] hf vs_109 (fun hl r3 hr3 => c_X11_buyOn hl F (p0 + 3) p1 (K_X11_now_k hk_p0) r2 r3 hr3) rfl rfl (Nat.le_of_ble_eq_true rfl) dX11_buy_55 (zrm_ok rfl) (fun r3 hr3 hf => ?_)
    refine r_aload_n C0 dX11_buy_58 rfl 0 rfl ?_
    refine r_getR C0 (C := RX11) (T := TX11) cl_X11 (K_X11_o hk_p0) (k := 5) (by decide) qw_448 rfl (K_X11_now_r hk_p0) dX11_buy_59 ?_
    refine r_iconst (v := 2) C0 dX11_buy_62 (by decide) ?_
    refine r_iald' (j := 2) C0 (K_X11_now_k hk_p0) rfl rfl dX11_buy_63 ?_
    obtain rfl := Option.some.inj hf
    exact r_iret C0 dX11_buy_64
  · refine r_iconst (v := 0) C0 dX11_buy_44 (by decide) ?_
    obtain rfl := Option.some.inj hf
    exact r_iret C0 dX11_buy_45
set_option maxHeartbeats 4000000 in
set_option maxRecDepth 100000 in
theorem c_X11_buy {l : Launch} {E : zEn} {S : zSk} {X : zMl} (hl : l.stackTraces = false) (F : Nat) (p0 : Nat) (p1 : Int32) (hk_p0 : K_X11 S p0) (M : zMi) (r : Int32 × zMi) (hf : f_X11_buy F p0 p1 M = some r) : zM l E yX11_buy cX11_buy 3 (Option.some Jvm.ClassFile.FieldType.int) { frames := 2, cells := 0, slots := 0, locals := 45 } 0 0 [.ref p0, .int p1] S ZT M X S ZT (some (.int r.1)) r.2 X := by
  refine zM.intro (L0 := [(0, .ref p0), (1, .int p1)]) hl (by decide) (Nat.le_of_ble_eq_true rfl) rfl (fun Γ C0 _ => ?_)
  unfold f_X11_buy at hf
  refine r_iload_n C0 dX11_buy_0 rfl 1 rfl ?_
  refine r_i2l C0 dX11_buy_1 ?_
  refine r_lconst (v := 1) C0 dX11_buy_2 (by decide) ?_
  refine r_ldc2 (v := 999) C0 qw_469 dX11_buy_3 ?_
  refine r_callSi C0 (st := []) [.long ((p1).toInt64), .long (1 : Int64), .long (999 : Int64)] hf vs_74 (fun hl r1 hr1 => c_X11_in hl F ((p1).toInt64) (1 : Int64) (999 : Int64) M r1 hr1) rfl rfl (Nat.le_of_ble_eq_true rfl) dX11_buy_6 (zrm_ok rfl) (fun r1 hr1 hf => ?_)
  refine r_istore_n (L' := [(2, .int r1), (0, .ref p0), (1, .int p1)]) C0 dX11_buy_9 rfl (by decide) rfl ?_
  refine r_aload_n C0 dX11_buy_10 rfl 1 rfl ?_
  refine r_iload_n C0 dX11_buy_11 rfl 0 rfl ?_
  refine r_if_ne C0 19 dX11_buy_12 (by decide) hf (fun hf => ?_) (fun hf => ?_)
  · refine r_aload_n C0 dX11_buy_19 rfl 1 rfl ?_
    refine r_getR C0 (C := RX11) (T := TX11) cl_X11 (K_X11_o hk_p0) (k := 5) (by decide) qw_448 rfl (K_X11_now_r hk_p0) dX11_buy_20 ?_
    refine r_iconst (v := 2) C0 dX11_buy_23 (by decide) ?_
    refine r_iald' (j := 2) C0 (K_X11_now_k hk_p0) rfl rfl dX11_buy_24 ?_
    refine r_iload_n C0 dX11_buy_25 rfl 2 rfl ?_
    refine r_iadd C0 dX11_buy_26 ?_
    refine r_sipush (v := 9999) C0 dX11_buy_27 (by decide) ?_
    refine r_icmp_le C0 37 dX11_buy_30 (by decide) hf (fun hf => ?_) (fun hf => ?_)
    · refine r_iconst (v := 0) C0 dX11_buy_37 (by decide) ?_
      refine r_sub (L' := [(0, .ref p0), (1, .int p1)]) [1, 2] rfl ?_
      exact g_X11_buy_38 C0 F p0 p1 hk_p0 (0 : Int32) M _  hf
    · refine r_iconst (v := 2) C0 dX11_buy_33 (by decide) ?_
      refine r_goto C0 38 dX11_buy_34 (by decide) ?_
      refine r_sub (L' := [(0, .ref p0), (1, .int p1)]) [1, 2] rfl ?_
      exact g_X11_buy_38 C0 F p0 p1 hk_p0 (2 : Int32) M _  hf
  · refine r_iconst (v := 1) C0 dX11_buy_15 (by decide) ?_
    refine r_goto C0 38 dX11_buy_16 (by decide) ?_
    refine r_sub (L' := [(0, .ref p0), (1, .int p1)]) [1, 2] rfl ?_
    exact g_X11_buy_38 C0 F p0 p1 hk_p0 (1 : Int32) M _  hf
set_option maxHeartbeats 4000000 in
set_option maxRecDepth 100000 in
theorem g_X11_setWaves_37 {Γ : zCx} {E : zEn} {S : zSk} {X : zMl} (C0 : zCt Γ E RX11 cX11_setWaves 4 (Option.some Jvm.ClassFile.FieldType.int) [] { frames := 2, cells := 0, slots := 0, locals := 45 }) (F : Nat) (p0 : Nat) (p1 : Int32) (p2 : Int32) (hk_p0 : K_X11 S p0) (s0 : Int32) (M : zMi) (r : Int32 × zMi)  (hf : f_X11_setWaves_37 F p0 p1 p2 s0 M = some r) : zG Γ (zQ Γ E 0 0 S ZT (some (.int r.1)) r.2 X) E 4 0 0 S ZT M X 37 [(0, .ref p0), (1, .int p1), (2, .int p2)] [.int s0, .ref p0] := by
  unfold f_X11_setWaves_37 at hf
  refine r_callVim C0 (st := []) [.int s0] p0 hf vs_93 (fun hl r1 hr1 => c_X11_refused hl F p0 s0 hk_p0 M r1 hr1) (K_X11_o hk_p0) rfl rfl rfl rfl (Nat.le_of_ble_eq_true rfl) dX11_setWaves_37 (zrm_ok rfl) (fun r1 hr1 hf => ?_)
  refine r_if_eq C0 45 dX11_setWaves_40 (by decide) hf (fun hf => ?_) (fun hf => ?_)
  · refine r_aload_n C0 dX11_setWaves_45 rfl 0 rfl ?_
    refine r_callVm C0 (st := []) [] p0 hf vs_102 (fun hl r2 hr2 => c_X11_note hl F p0 hk_p0 r1.2 r2 hr2) (K_X11_o hk_p0) rfl rfl rfl rfl (Nat.le_of_ble_eq_true rfl) dX11_setWaves_46 (zrm_ok rfl) (fun r2 hr2 hf => ?_)
    refine r_aload_n C0 dX11_setWaves_49 rfl 0 rfl ?_
    refine r_getR C0 (C := RX11) (T := TX11) cl_X11 (K_X11_o hk_p0) (k := 5) (by decide) qw_448 rfl (K_X11_now_r hk_p0) dX11_setWaves_50 ?_
    refine r_bipush (v := 91) C0 dX11_setWaves_53 (by decide) ?_
    refine r_iload_n C0 dX11_setWaves_55 rfl 1 rfl ?_
    refine r_iadd C0 dX11_setWaves_56 ?_
    refine r_iald C0 (K_X11_now_k hk_p0) hf dX11_setWaves_57 (fun hf => ?_)
    refine r_nm hf (fun x3 hf => ?_)
    refine r_istore_n (L' := [(3, .int x3), (0, .ref p0), (1, .int p1), (2, .int p2)]) C0 dX11_setWaves_58 rfl (by decide) rfl ?_
    refine r_aload_n C0 dX11_setWaves_59 rfl 1 rfl ?_
    refine r_getR C0 (C := RX11) (T := TX11) cl_X11 (K_X11_o hk_p0) (k := 5) (by decide) qw_448 rfl (K_X11_now_r hk_p0) dX11_setWaves_60 ?_
    refine r_bipush (v := 91) C0 dX11_setWaves_63 (by decide) ?_
    refine r_iload_n C0 dX11_setWaves_65 rfl 2 rfl ?_
    refine r_iadd C0 dX11_setWaves_66 ?_
    refine r_iload_n C0 dX11_setWaves_67 rfl 3 rfl ?_
    refine r_iast C0 (K_X11_now_k hk_p0) hf dX11_setWaves_68 (fun M4 hf => ?_)
    refine r_iload_n C0 dX11_setWaves_69 rfl 0 rfl ?_
    obtain rfl := Option.some.inj hf
    exact r_iret C0 dX11_setWaves_70
  · refine r_iconst (v := 0) C0 dX11_setWaves_43 (by decide) ?_
    obtain rfl := Option.some.inj hf
    exact r_iret C0 dX11_setWaves_44
set_option maxHeartbeats 4000000 in
set_option maxRecDepth 100000 in
theorem c_X11_setWaves {l : Launch} {E : zEn} {S : zSk} {X : zMl} (hl : l.stackTraces = false) (F : Nat) (p0 : Nat) (p1 : Int32) (p2 : Int32) (hk_p0 : K_X11 S p0) (M : zMi) (r : Int32 × zMi) (hf : f_X11_setWaves F p0 p1 p2 M = some r) : zM l E yX11_setWaves cX11_setWaves 4 (Option.some Jvm.ClassFile.FieldType.int) { frames := 2, cells := 0, slots := 0, locals := 45 } 0 0 [.ref p0, .int p1, .int p2] S ZT M X S ZT (some (.int r.1)) r.2 X := by
  refine zM.intro (L0 := [(0, .ref p0), (1, .int p1), (2, .int p2)]) hl (by decide) (Nat.le_of_ble_eq_true rfl) rfl (fun Γ C0 _ => ?_)
  unfold f_X11_setWaves at hf
  refine r_aload_n C0 dX11_setWaves_0 rfl 0 rfl ?_
  refine r_iload_n C0 dX11_setWaves_1 rfl 1 rfl ?_
  refine r_i2l C0 dX11_setWaves_2 ?_
  refine r_lconst (v := 0) C0 dX11_setWaves_3 (by decide) ?_
  refine r_aload_n C0 dX11_setWaves_4 rfl 0 rfl ?_
  refine r_getR C0 (C := RX11) (T := TX11) cl_X11 (K_X11_o hk_p0) (k := 5) (by decide) qw_448 rfl (K_X11_now_r hk_p0) dX11_setWaves_5 ?_
  refine r_bipush (v := 6) C0 dX11_setWaves_8 (by decide) ?_
  refine r_iald' (j := 6) C0 (K_X11_now_k hk_p0) rfl rfl dX11_setWaves_10 ?_
  refine r_iconst (v := 1) C0 dX11_setWaves_11 (by decide) ?_
  refine r_isub C0 dX11_setWaves_12 ?_
  refine r_i2l C0 dX11_setWaves_13 ?_
  refine r_callSi C0 (st := [.ref p0]) [.long ((p1).toInt64), .long (0 : Int64), .long ((((M (p0 + 3) 6) - (1 : Int32))).toInt64)] hf vs_74 (fun hl r1 hr1 => c_X11_in hl F ((p1).toInt64) (0 : Int64) ((((M (p0 + 3) 6) - (1 : Int32))).toInt64) M r1 hr1) rfl rfl (Nat.le_of_ble_eq_true rfl) dX11_setWaves_14 (zrm_ok rfl) (fun r1 hr1 hf => ?_)
  refine r_if_eq C0 36 dX11_setWaves_17 (by decide) hf (fun hf => ?_) (fun hf => ?_)
  · refine r_iconst (v := 1) C0 dX11_setWaves_36 (by decide) ?_
    refine r_sub (L' := [(0, .ref p0), (1, .int p1), (2, .int p2)]) [0, 1, 2] rfl ?_
    exact g_X11_setWaves_37 C0 F p0 p1 p2 hk_p0 (1 : Int32) M _  hf
  · refine r_iload_n C0 dX11_setWaves_20 rfl 2 rfl ?_
    refine r_i2l C0 dX11_setWaves_21 ?_
    refine r_lconst (v := 0) C0 dX11_setWaves_22 (by decide) ?_
    refine r_ldc2 (v := 9) C0 qw_426 dX11_setWaves_23 ?_
    refine r_callSi C0 (st := [.ref p0]) [.long ((p2).toInt64), .long (0 : Int64), .long (9 : Int64)] hf vs_74 (fun hl r2 hr2 => c_X11_in hl F ((p2).toInt64) (0 : Int64) (9 : Int64) M r2 hr2) rfl rfl (Nat.le_of_ble_eq_true rfl) dX11_setWaves_26 (zrm_ok rfl) (fun r2 hr2 hf => ?_)
    refine r_if_eq C0 36 dX11_setWaves_29 (by decide) hf (fun hf => ?_) (fun hf => ?_)
    · refine r_iconst (v := 1) C0 dX11_setWaves_36 (by decide) ?_
      refine r_sub (L' := [(0, .ref p0), (1, .int p1), (2, .int p2)]) [0, 1, 2] rfl ?_
      exact g_X11_setWaves_37 C0 F p0 p1 p2 hk_p0 (1 : Int32) M _  hf
    · refine r_iconst (v := 0) C0 dX11_setWaves_32 (by decide) ?_
      refine r_goto C0 37 dX11_setWaves_33 (by decide) ?_
      refine r_sub (L' := [(0, .ref p0), (1, .int p1), (2, .int p2)]) [0, 1, 2] rfl ?_
      exact g_X11_setWaves_37 C0 F p0 p1 p2 hk_p0 (0 : Int32) M _  hf
