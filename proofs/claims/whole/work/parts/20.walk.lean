set_option maxHeartbeats 4000000 in
set_option maxRecDepth 100000 in
theorem g_X11_restore_29 {Γ : zCx} {E : zEn} {S : zSk} {X : zMl} {Z : Nat → Prop} (C0 : zCt Γ E RX11 cX11_restore 2 (Option.some Jvm.ClassFile.FieldType.int) [] { frames := 1, cells := 0, slots := 0, locals := 25 }) (F : Nat) (p0 : Nat) (p1 : Int32) (hk_p0 : K_X11 S p0) (s0 : Int32) (M : zMi) (r : Int32 × zMi)  (hf : f_X11_restore_29 F p0 p1 s0 M = some r) : zG Γ (zQ Γ E 0 0 S Z (some (.int r.1)) r.2 X) E 2 0 0 S Z M X 29 [(0, .ref p0), (1, .int p1)] [.int s0, .ref p0] := by
  unfold f_X11_restore_29 at hf
  refine r_callVim C0 (st := []) [.int s0] p0 hf vs_131 (fun hl r1 hr1 => c_X11_refused hl F p0 s0 hk_p0 M r1 hr1) (K_X11_o hk_p0) rfl rfl rfl rfl (Nat.le_of_ble_eq_true rfl) dX11_restore_29 (zrm_ok rfl) (fun r1 hr1 hf => ?_)
  refine r_if_eq C0 37 dX11_restore_32 (by decide) hf (fun hf => ?_) (fun hf => ?_)
  · refine r_aload_n C0 dX11_restore_37 rfl 0 rfl ?_
    refine r_getR C0 (C := RX11) (T := TX11) cl_X11 (K_X11_o hk_p0) (k := 9) (by decide) qw_642 rfl (K_X11_kept_r hk_p0) dX11_restore_38 ?_
    refine r_bipush (v := 121) C0 dX11_restore_41 (by decide) ?_
    refine r_iload_n C0 dX11_restore_43 rfl 1 rfl ?_
    refine r_imul C0 dX11_restore_44 ?_
    refine r_aload_n C0 dX11_restore_45 rfl 0 rfl ?_
    refine r_getR C0 (C := RX11) (T := TX11) cl_X11 (K_X11_o hk_p0) (k := 5) (by decide) qw_578 rfl (K_X11_now_r hk_p0) dX11_restore_46 ?_
    refine r_iconst (v := 0) C0 dX11_restore_49 (by decide) ?_
    refine r_callSm C0 (st := []) [.ref (p0 + 6), .int ((121 : Int32) * p1), .ref (p0 + 3), .int (0 : Int32)] hf vs_137 (fun hl r2 hr2 => c_X11_copyPage hl F (p0 + 6) 242 ((121 : Int32) * p1) (p0 + 3) 121 (0 : Int32) (K_X11_kept_k hk_p0) (K_X11_now_k hk_p0) r1.2 r2 hr2) rfl rfl (Nat.le_of_ble_eq_true rfl) dX11_restore_50 (zrm_ok rfl) (fun r2 hr2 hf => ?_)
    refine r_aload_n C0 dX11_restore_53 rfl 0 rfl ?_
    refine r_iconst (v := 0) C0 dX11_restore_54 (by decide) ?_
    refine r_putI C0 (C := RX11) (T := TX11) cl_X11 (K_X11_o hk_p0) (k := 8) (by decide) qw_582 rfl rfl rfl rfl hf dX11_restore_55 (fun M3 hf => ?_)
    refine r_aload_n C0 dX11_restore_58 rfl 0 rfl ?_
    refine r_getR C0 (C := RX11) (T := TX11) cl_X11 (K_X11_o hk_p0) (k := 5) (by decide) qw_578 rfl (K_X11_now_r hk_p0) dX11_restore_59 ?_
    refine r_iconst (v := 3) C0 dX11_restore_62 (by decide) ?_
    refine r_iald' (j := 3) C0 (K_X11_now_k hk_p0) rfl rfl dX11_restore_63 ?_
    obtain rfl := Option.some.inj hf
    exact r_iret C0 dX11_restore_64
  · refine r_iconst (v := 0) C0 dX11_restore_35 (by decide) ?_
    obtain rfl := Option.some.inj hf
    exact r_iret C0 dX11_restore_36
set_option maxHeartbeats 4000000 in
set_option maxRecDepth 100000 in
theorem c_X11_restore {l : Launch} {E : zEn} {S : zSk} {X : zMl} {Z : Nat → Prop} (hl : l.stackTraces = false) (F : Nat) (p0 : Nat) (p1 : Int32) (hk_p0 : K_X11 S p0) (M : zMi) (r : Int32 × zMi) (hf : f_X11_restore F p0 p1 M = some r) : zM l E yX11_restore cX11_restore 2 (Option.some Jvm.ClassFile.FieldType.int) { frames := 1, cells := 0, slots := 0, locals := 25 } 0 0 [.ref p0, .int p1] S Z M X S Z (some (.int r.1)) r.2 X := by
  refine zM.intro (L0 := [(0, .ref p0), (1, .int p1)]) hl (by decide) (Nat.le_of_ble_eq_true rfl) rfl (fun Γ C0 _ => ?_)
  unfold f_X11_restore at hf
  refine r_aload_n C0 dX11_restore_0 rfl 0 rfl ?_
  refine r_iload_n C0 dX11_restore_1 rfl 1 rfl ?_
  refine r_i2l C0 dX11_restore_2 ?_
  refine r_lconst (v := 0) C0 dX11_restore_3 (by decide) ?_
  refine r_lconst (v := 1) C0 dX11_restore_4 (by decide) ?_
  refine r_callSi C0 (st := [.ref p0]) [.long ((p1).toInt64), .long (0 : Int64), .long (1 : Int64)] hf vs_112 (fun hl r1 hr1 => c_X11_in hl F ((p1).toInt64) (0 : Int64) (1 : Int64) M r1 hr1) rfl rfl (Nat.le_of_ble_eq_true rfl) dX11_restore_5 (zrm_ok rfl) (fun r1 hr1 hf => ?_)
  refine r_if_ne C0 15 dX11_restore_8 (by decide) hf (fun hf => ?_) (fun hf => ?_)
  · refine r_aload_n C0 dX11_restore_15 rfl 0 rfl ?_
    refine r_getR C0 (C := RX11) (T := TX11) cl_X11 (K_X11_o hk_p0) (k := 10) (by decide) qw_583 rfl (K_X11_isKept_r hk_p0) dX11_restore_16 ?_
    refine r_iload_n C0 dX11_restore_19 rfl 1 rfl ?_
    refine r_zald C0 (K_X11_isKept_k hk_p0) hf dX11_restore_20 (fun hf => ?_)
    refine r_if_ne C0 28 dX11_restore_21 (by decide) hf (fun hf => ?_) (fun hf => ?_)
    · refine r_iconst (v := 0) C0 dX11_restore_28 (by decide) ?_
      refine r_sub (L' := [(0, .ref p0), (1, .int p1)]) [0, 1] rfl ?_
      exact g_X11_restore_29 C0 F p0 p1 hk_p0 (0 : Int32) M _  hf
    · refine r_iconst (v := 2) C0 dX11_restore_24 (by decide) ?_
      refine r_goto C0 29 dX11_restore_25 (by decide) ?_
      refine r_sub (L' := [(0, .ref p0), (1, .int p1)]) [0, 1] rfl ?_
      exact g_X11_restore_29 C0 F p0 p1 hk_p0 (2 : Int32) M _  hf
  · refine r_iconst (v := 1) C0 dX11_restore_11 (by decide) ?_
    refine r_goto C0 29 dX11_restore_12 (by decide) ?_
    refine r_sub (L' := [(0, .ref p0), (1, .int p1)]) [0, 1] rfl ?_
    exact g_X11_restore_29 C0 F p0 p1 hk_p0 (1 : Int32) M _  hf
