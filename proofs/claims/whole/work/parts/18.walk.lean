set_option maxHeartbeats 4000000 in
set_option maxRecDepth 100000 in
theorem g_X11_account_30 {Γ : zCx} {E : zEn} {S : zSk} {X : zMl} {Z : Nat → Prop} (C0 : zCt Γ E RX11 cX11_account 4 (Option.some Jvm.ClassFile.FieldType.int) [] { frames := 1, cells := 0, slots := 0, locals := 25 }) (F : Nat) (p0 : Nat) (p1 : Int32) (hk_p0 : K_X11 S p0) : ∀ (n : Nat) (v2 : Int32) (v3 : Int32) (M : zMi) (r : Int32 × zMi) , f_X11_account_30 F p0 p1 n v2 v3 M = some r → zG Γ (zQ Γ E 0 0 S Z (some (.int r.1)) r.2 X) E 4 0 0 S Z M X 30 [(0, .ref p0), (1, .int p1), (2, .int v2), (3, .int v3)] [] := by
  intro n
  induction n with
  | zero => intro v2 v3 M r; intro hf; cases hf
  | succ n ih =>
    intro v2 v3 M r hf
    refine r_iload_n C0 dX11_account_30 rfl 3 rfl ?_
    refine r_aload_n C0 dX11_account_31 rfl 0 rfl ?_
    refine r_getR C0 (C := RX11) (T := TX11) cl_X11 (K_X11_o hk_p0) (k := 5) (by decide) qw_578 rfl (K_X11_now_r hk_p0) dX11_account_32 ?_
    refine r_iconst (v := 5) C0 dX11_account_35 (by decide) ?_
    refine r_iald' (j := 5) C0 (K_X11_now_k hk_p0) rfl rfl dX11_account_36 ?_
    refine r_icmp_ge C0 60 dX11_account_37 (by decide) hf (fun hf => ?_) (fun hf => ?_)
    · refine r_iload_n C0 dX11_account_60 rfl 1 rfl ?_
      refine r_iconst (v := 3) C0 dX11_account_61 (by decide) ?_
      refine r_icmp_ne C0 69 dX11_account_62 (by decide) hf (fun hf => ?_) (fun hf => ?_)
      · refine r_aload_n C0 dX11_account_69 rfl 0 rfl ?_
        refine r_getR C0 (C := RX11) (T := TX11) cl_X11 (K_X11_o hk_p0) (k := 5) (by decide) qw_578 rfl (K_X11_now_r hk_p0) dX11_account_70 ?_
        refine r_bipush (v := 16) C0 dX11_account_73 (by decide) ?_
        refine r_iload_n C0 dX11_account_75 rfl 1 rfl ?_
        refine r_iconst (v := 3) C0 dX11_account_76 (by decide) ?_
        refine r_icmp_ge C0 84 dX11_account_77 (by decide) hf (fun hf => ?_) (fun hf => ?_)
        · refine r_iload_n C0 dX11_account_84 rfl 1 rfl ?_
          refine r_iconst (v := 1) C0 dX11_account_85 (by decide) ?_
          refine r_isub C0 dX11_account_86 ?_
          refine r_iadd C0 dX11_account_87 ?_
          refine r_iald C0 (K_X11_now_k hk_p0) hf dX11_account_88 (fun hf => ?_)
          obtain rfl := Option.some.inj hf
          exact r_iret C0 dX11_account_89
        · refine r_iload_n C0 dX11_account_80 rfl 1 rfl ?_
          refine r_goto C0 87 dX11_account_81 (by decide) ?_
          refine r_iadd C0 dX11_account_87 ?_
          refine r_iald C0 (K_X11_now_k hk_p0) hf dX11_account_88 (fun hf => ?_)
          obtain rfl := Option.some.inj hf
          exact r_iret C0 dX11_account_89
      · refine r_iload_n C0 dX11_account_65 rfl 2 rfl ?_
        refine r_goto C0 89 dX11_account_66 (by decide) ?_
        obtain rfl := Option.some.inj hf
        exact r_iret C0 dX11_account_89
    · refine r_iload_n C0 dX11_account_40 rfl 2 rfl ?_
      refine r_aload_n C0 dX11_account_41 rfl 0 rfl ?_
      refine r_getR C0 (C := RX11) (T := TX11) cl_X11 (K_X11_o hk_p0) (k := 5) (by decide) qw_578 rfl (K_X11_now_r hk_p0) dX11_account_42 ?_
      refine r_iload_n C0 dX11_account_45 rfl 3 rfl ?_
      refine r_callSi C0 (st := [.ref (p0 + 3), .int v2]) [.int v3] hf vs_115 (fun hl r1 hr1 => c_X11_shipAt hl F v3 M r1 hr1) rfl rfl (Nat.le_of_ble_eq_true rfl) dX11_account_46 (zrm_ok rfl) (fun r1 hr1 hf => ?_)
      refine r_iconst (v := 4) C0 dX11_account_49 (by decide) ?_
      refine r_iadd C0 dX11_account_50 ?_
      refine r_iald C0 (K_X11_now_k hk_p0) hf dX11_account_51 (fun hf => ?_)
      refine r_iadd C0 dX11_account_52 ?_
      refine r_nm hf (fun x2 hf => ?_)
      refine r_istore_n (L' := [(2, .int x2), (0, .ref p0), (1, .int p1), (3, .int v3)]) C0 dX11_account_53 rfl (by decide) rfl ?_
      refine r_iinc (j := 3) (v := (v3 + (1 : Int32))) (L' := [(3, .int (v3 + (1 : Int32))), (2, .int x2), (0, .ref p0), (1, .int p1)]) C0 dX11_account_54 rfl rfl (by decide) rfl ?_
      refine r_goto C0 30 dX11_account_57 (by decide) ?_
      refine r_sub (L' := [(0, .ref p0), (1, .int p1), (2, .int x2), (3, .int (v3 + (1 : Int32)))]) [2, 3, 1, 0] rfl ?_
      exact ih x2 (v3 + (1 : Int32)) M _  hf
set_option maxHeartbeats 4000000 in
set_option maxRecDepth 100000 in
theorem g_X11_account_18 {Γ : zCx} {E : zEn} {S : zSk} {X : zMl} {Z : Nat → Prop} (C0 : zCt Γ E RX11 cX11_account 4 (Option.some Jvm.ClassFile.FieldType.int) [] { frames := 1, cells := 0, slots := 0, locals := 25 }) (F : Nat) (p0 : Nat) (p1 : Int32) (hk_p0 : K_X11 S p0) (s0 : Int32) (M : zMi) (r : Int32 × zMi)  (hf : f_X11_account_18 F p0 p1 s0 M = some r) : zG Γ (zQ Γ E 0 0 S Z (some (.int r.1)) r.2 X) E 4 0 0 S Z M X 18 [(0, .ref p0), (1, .int p1)] [.int s0, .ref p0] := by
  unfold f_X11_account_18 at hf
  refine r_callVim C0 (st := []) [.int s0] p0 hf vs_131 (fun hl r1 hr1 => c_X11_refused hl F p0 s0 hk_p0 M r1 hr1) (K_X11_o hk_p0) rfl rfl rfl rfl (Nat.le_of_ble_eq_true rfl) dX11_account_18 (zrm_ok rfl) (fun r1 hr1 hf => ?_)
  refine r_if_eq C0 26 dX11_account_21 (by decide) hf (fun hf => ?_) (fun hf => ?_)
  · refine r_iconst (v := 0) C0 dX11_account_26 (by decide) ?_
    refine r_istore_n (L' := [(2, .int (0 : Int32)), (0, .ref p0), (1, .int p1)]) C0 dX11_account_27 rfl (by decide) rfl ?_
    refine r_iconst (v := 0) C0 dX11_account_28 (by decide) ?_
    refine r_istore_n (L' := [(3, .int (0 : Int32)), (2, .int (0 : Int32)), (0, .ref p0), (1, .int p1)]) C0 dX11_account_29 rfl (by decide) rfl ?_
    refine r_sub (L' := [(0, .ref p0), (1, .int p1), (2, .int (0 : Int32)), (3, .int (0 : Int32))]) [2, 3, 1, 0] rfl ?_
    exact g_X11_account_30 C0 F p0 p1 hk_p0 F (0 : Int32) (0 : Int32) r1.2 _  hf
  · refine r_iconst (v := 0) C0 dX11_account_24 (by decide) ?_
    obtain rfl := Option.some.inj hf
    exact r_iret C0 dX11_account_25
set_option maxHeartbeats 4000000 in
set_option maxRecDepth 100000 in
theorem c_X11_account {l : Launch} {E : zEn} {S : zSk} {X : zMl} {Z : Nat → Prop} (hl : l.stackTraces = false) (F : Nat) (p0 : Nat) (p1 : Int32) (hk_p0 : K_X11 S p0) (M : zMi) (r : Int32 × zMi) (hf : f_X11_account F p0 p1 M = some r) : zM l E yX11_account cX11_account 4 (Option.some Jvm.ClassFile.FieldType.int) { frames := 1, cells := 0, slots := 0, locals := 25 } 0 0 [.ref p0, .int p1] S Z M X S Z (some (.int r.1)) r.2 X := by
  refine zM.intro (L0 := [(0, .ref p0), (1, .int p1)]) hl (by decide) (Nat.le_of_ble_eq_true rfl) rfl (fun Γ C0 _ => ?_)
  unfold f_X11_account at hf
  refine r_aload_n C0 dX11_account_0 rfl 0 rfl ?_
  refine r_iload_n C0 dX11_account_1 rfl 1 rfl ?_
  refine r_i2l C0 dX11_account_2 ?_
  refine r_lconst (v := 0) C0 dX11_account_3 (by decide) ?_
  refine r_ldc2 (v := 7) C0 qw_592 dX11_account_4 ?_
  refine r_callSi C0 (st := [.ref p0]) [.long ((p1).toInt64), .long (0 : Int64), .long (7 : Int64)] hf vs_112 (fun hl r1 hr1 => c_X11_in hl F ((p1).toInt64) (0 : Int64) (7 : Int64) M r1 hr1) rfl rfl (Nat.le_of_ble_eq_true rfl) dX11_account_7 (zrm_ok rfl) (fun r1 hr1 hf => ?_)
  refine r_if_eq C0 17 dX11_account_10 (by decide) hf (fun hf => ?_) (fun hf => ?_)
  · refine r_iconst (v := 1) C0 dX11_account_17 (by decide) ?_
    refine r_sub (L' := [(0, .ref p0), (1, .int p1)]) [0, 1] rfl ?_
    exact g_X11_account_18 C0 F p0 p1 hk_p0 (1 : Int32) M _  hf
  · refine r_iconst (v := 0) C0 dX11_account_13 (by decide) ?_
    refine r_goto C0 18 dX11_account_14 (by decide) ?_
    refine r_sub (L' := [(0, .ref p0), (1, .int p1)]) [0, 1] rfl ?_
    exact g_X11_account_18 C0 F p0 p1 hk_p0 (0 : Int32) M _  hf
set_option maxHeartbeats 4000000 in
set_option maxRecDepth 100000 in
theorem g_X11_note_49 {Γ : zCx} {E : zEn} {S : zSk} {X : zMl} {Z : Nat → Prop} (C0 : zCt Γ E RX11 cX11_note 2 (Option.none : Option Jvm.ClassFile.FieldType) [] { frames := 1, cells := 0, slots := 0, locals := 24 }) (F : Nat) (p0 : Nat) (hk_p0 : K_X11 S p0)  (M : zMi) (r : zMi)  (hf : f_X11_note_49 F p0  M = some r) : zG Γ (zQ Γ E 0 0 S Z none r X) E 2 0 0 S Z M X 49 [(0, .ref p0)] [] := by
  unfold f_X11_note_49 at hf
  refine r_aload_n C0 dX11_note_49 rfl 0 rfl ?_
  refine r_getR C0 (C := RX11) (T := TX11) cl_X11 (K_X11_o hk_p0) (k := 5) (by decide) qw_578 rfl (K_X11_now_r hk_p0) dX11_note_50 ?_
  refine r_iconst (v := 0) C0 dX11_note_53 (by decide) ?_
  refine r_aload_n C0 dX11_note_54 rfl 0 rfl ?_
  refine r_getR C0 (C := RX11) (T := TX11) cl_X11 (K_X11_o hk_p0) (k := 7) (by decide) qw_594 rfl (K_X11_diary_r hk_p0) dX11_note_55 ?_
  refine r_bipush (v := 121) C0 dX11_note_58 (by decide) ?_
  refine r_aload_n C0 dX11_note_60 rfl 0 rfl ?_
  refine r_getI C0 (C := RX11) (T := TX11) cl_X11 (K_X11_o hk_p0) (k := 8) (by decide) qw_582 rfl dX11_note_61 ?_
  refine r_imul C0 dX11_note_64 ?_
  refine r_callSm C0 (st := []) [.ref (p0 + 3), .int (0 : Int32), .ref (p0 + 5), .int ((121 : Int32) * (M p0 8))] hf vs_137 (fun hl r1 hr1 => c_X11_copyPage hl F (p0 + 3) 121 (0 : Int32) (p0 + 5) 1694 ((121 : Int32) * (M p0 8)) (K_X11_now_k hk_p0) (K_X11_diary_k hk_p0) M r1 hr1) rfl rfl (Nat.le_of_ble_eq_true rfl) dX11_note_65 (zrm_ok rfl) (fun r1 hr1 hf => ?_)
  refine r_aload_n C0 dX11_note_68 rfl 0 rfl ?_
  refine r_dup C0 dX11_note_69 rfl ?_
  refine r_getI C0 (C := RX11) (T := TX11) cl_X11 (K_X11_o hk_p0) (k := 8) (by decide) qw_582 rfl dX11_note_70 ?_
  refine r_iconst (v := 1) C0 dX11_note_73 (by decide) ?_
  refine r_iadd C0 dX11_note_74 ?_
  refine r_putI C0 (C := RX11) (T := TX11) cl_X11 (K_X11_o hk_p0) (k := 8) (by decide) qw_582 rfl rfl rfl rfl hf dX11_note_75 (fun M2 hf => ?_)
  obtain rfl := Option.some.inj hf
  exact r_vret C0 dX11_note_78
set_option maxHeartbeats 4000000 in
set_option maxRecDepth 100000 in
theorem g_X11_note_11 {Γ : zCx} {E : zEn} {S : zSk} {X : zMl} {Z : Nat → Prop} (C0 : zCt Γ E RX11 cX11_note 2 (Option.none : Option Jvm.ClassFile.FieldType) [] { frames := 1, cells := 0, slots := 0, locals := 24 }) (F : Nat) (p0 : Nat) (hk_p0 : K_X11 S p0) : ∀ (n : Nat) (v1 : Int32) (M : zMi) (r : zMi) , f_X11_note_11 F p0 n v1 M = some r → zG Γ (zQ Γ E 0 0 S Z none r X) E 2 0 0 S Z M X 11 [(0, .ref p0), (1, .int v1)] [] := by
  intro n
  induction n with
  | zero => intro v1 M r; intro hf; cases hf
  | succ n ih =>
    intro v1 M r hf
    refine r_iload_n C0 dX11_note_11 rfl 1 rfl ?_
    refine r_sipush (v := 1573) C0 dX11_note_12 (by decide) ?_
    refine r_icmp_ge C0 39 dX11_note_15 (by decide) hf (fun hf => ?_) (fun hf => ?_)
    · refine r_aload_n C0 dX11_note_39 rfl 0 rfl ?_
      refine r_dup C0 dX11_note_40 rfl ?_
      refine r_getI C0 (C := RX11) (T := TX11) cl_X11 (K_X11_o hk_p0) (k := 8) (by decide) qw_582 rfl dX11_note_41 ?_
      refine r_iconst (v := 1) C0 dX11_note_44 (by decide) ?_
      refine r_isub C0 dX11_note_45 ?_
      refine r_putI C0 (C := RX11) (T := TX11) cl_X11 (K_X11_o hk_p0) (k := 8) (by decide) qw_582 rfl rfl rfl rfl hf dX11_note_46 (fun M1 hf => ?_)
      refine r_sub (L' := [(0, .ref p0)]) [0] rfl ?_
      exact g_X11_note_49 C0 F p0 hk_p0  M1 _  hf
    · refine r_aload_n C0 dX11_note_18 rfl 0 rfl ?_
      refine r_getR C0 (C := RX11) (T := TX11) cl_X11 (K_X11_o hk_p0) (k := 7) (by decide) qw_594 rfl (K_X11_diary_r hk_p0) dX11_note_19 ?_
      refine r_iload_n C0 dX11_note_22 rfl 1 rfl ?_
      refine r_aload_n C0 dX11_note_23 rfl 0 rfl ?_
      refine r_getR C0 (C := RX11) (T := TX11) cl_X11 (K_X11_o hk_p0) (k := 7) (by decide) qw_594 rfl (K_X11_diary_r hk_p0) dX11_note_24 ?_
      refine r_iload_n C0 dX11_note_27 rfl 1 rfl ?_
      refine r_bipush (v := 121) C0 dX11_note_28 (by decide) ?_
      refine r_iadd C0 dX11_note_30 ?_
      refine r_iald C0 (K_X11_diary_k hk_p0) hf dX11_note_31 (fun hf => ?_)
      refine r_iast C0 (K_X11_diary_k hk_p0) hf dX11_note_32 (fun M2 hf => ?_)
      refine r_iinc (j := 1) (v := (v1 + (1 : Int32))) (L' := [(1, .int (v1 + (1 : Int32))), (0, .ref p0)]) C0 dX11_note_33 rfl rfl (by decide) rfl ?_
      refine r_goto C0 11 dX11_note_36 (by decide) ?_
      refine r_sub (L' := [(0, .ref p0), (1, .int (v1 + (1 : Int32)))]) [1, 0] rfl ?_
      exact ih (v1 + (1 : Int32)) M2 _  hf
set_option maxHeartbeats 4000000 in
set_option maxRecDepth 100000 in
theorem c_X11_note {l : Launch} {E : zEn} {S : zSk} {X : zMl} {Z : Nat → Prop} (hl : l.stackTraces = false) (F : Nat) (p0 : Nat) (hk_p0 : K_X11 S p0) (M : zMi) (r : zMi) (hf : f_X11_note F p0 M = some r) : zM l E yX11_note cX11_note 2 (Option.none : Option Jvm.ClassFile.FieldType) { frames := 1, cells := 0, slots := 0, locals := 24 } 0 0 [.ref p0] S Z M X S Z none r X := by
  refine zM.intro (L0 := [(0, .ref p0)]) hl (by decide) (Nat.le_of_ble_eq_true rfl) rfl (fun Γ C0 _ => ?_)
  unfold f_X11_note at hf
  refine r_aload_n C0 dX11_note_0 rfl 0 rfl ?_
  refine r_getI C0 (C := RX11) (T := TX11) cl_X11 (K_X11_o hk_p0) (k := 8) (by decide) qw_582 rfl dX11_note_1 ?_
  refine r_bipush (v := 14) C0 dX11_note_4 (by decide) ?_
  refine r_icmp_ne C0 49 dX11_note_6 (by decide) hf (fun hf => ?_) (fun hf => ?_)
  · refine r_sub (L' := [(0, .ref p0)]) [0] rfl ?_
    exact g_X11_note_49 C0 F p0 hk_p0  M _  hf
  · refine r_iconst (v := 0) C0 dX11_note_9 (by decide) ?_
    refine r_istore_n (L' := [(1, .int (0 : Int32)), (0, .ref p0)]) C0 dX11_note_10 rfl (by decide) rfl ?_
    refine r_sub (L' := [(0, .ref p0), (1, .int (0 : Int32))]) [1, 0] rfl ?_
    exact g_X11_note_11 C0 F p0 hk_p0 F (0 : Int32) M _  hf
set_option maxHeartbeats 4000000 in
set_option maxRecDepth 100000 in
theorem g_X11_take_49 {Γ : zCx} {E : zEn} {S : zSk} {X : zMl} {Z : Nat → Prop} (C0 : zCt Γ E RX11 cX11_take 3 (Option.some Jvm.ClassFile.FieldType.int) [] { frames := 2, cells := 0, slots := 0, locals := 46 }) (F : Nat) (p0 : Nat) (p1 : Int32) (p2 : Int32) (hk_p0 : K_X11 S p0) (s0 : Int32) (M : zMi) (r : Int32 × zMi)  (hf : f_X11_take_49 F p0 p1 p2 s0 M = some r) : zG Γ (zQ Γ E 0 0 S Z (some (.int r.1)) r.2 X) E 3 0 0 S Z M X 49 [(0, .ref p0), (1, .int p1), (2, .int p2)] [.int s0, .ref p0] := by
  unfold f_X11_take_49 at hf
  refine r_callVim C0 (st := []) [.int s0] p0 hf vs_131 (fun hl r1 hr1 => c_X11_refused hl F p0 s0 hk_p0 M r1 hr1) (K_X11_o hk_p0) rfl rfl rfl rfl (Nat.le_of_ble_eq_true rfl) dX11_take_49 (zrm_ok rfl) (fun r1 hr1 hf => ?_)
  refine r_if_eq C0 57 dX11_take_52 (by decide) hf (fun hf => ?_) (fun hf => ?_)
  · refine r_aload_n C0 dX11_take_57 rfl 0 rfl ?_
    refine r_callVm C0 (st := []) [] p0 hf vs_140 (fun hl r2 hr2 => c_X11_note hl F p0 hk_p0 r1.2 r2 hr2) (K_X11_o hk_p0) rfl rfl rfl rfl (Nat.le_of_ble_eq_true rfl) dX11_take_58 (zrm_ok rfl) (fun r2 hr2 hf => ?_)
    refine r_aload_n C0 dX11_take_61 rfl 0 rfl ?_
    refine r_getR C0 (C := RX11) (T := TX11) cl_X11 (K_X11_o hk_p0) (k := 5) (by decide) qw_578 rfl (K_X11_now_r hk_p0) dX11_take_62 ?_
    refine r_iload_n C0 dX11_take_65 rfl 1 rfl ?_
    refine r_iload_n C0 dX11_take_66 rfl 2 rfl ?_
    refine r_callSm C0 (st := []) [.ref (p0 + 3), .int p1, .int p2] hf vs_129 (fun hl r3 hr3 => c_X11_takeOn hl F (p0 + 3) p1 p2 (K_X11_now_k hk_p0) r2 r3 hr3) rfl rfl (Nat.le_of_ble_eq_true rfl) dX11_take_67 (zrm_ok rfl) (fun r3 hr3 hf => ?_)
    refine r_aload_n C0 dX11_take_70 rfl 0 rfl ?_
    refine r_getR C0 (C := RX11) (T := TX11) cl_X11 (K_X11_o hk_p0) (k := 5) (by decide) qw_578 rfl (K_X11_now_r hk_p0) dX11_take_71 ?_
    refine r_iload_n C0 dX11_take_74 rfl 1 rfl ?_
    refine r_callSi C0 (st := [.ref (p0 + 3)]) [.int p1] hf vs_115 (fun hl r4 hr4 => c_X11_shipAt hl F p1 r3 r4 hr4) rfl rfl (Nat.le_of_ble_eq_true rfl) dX11_take_75 (zrm_ok rfl) (fun r4 hr4 hf => ?_)
    refine r_iconst (v := 4) C0 dX11_take_78 (by decide) ?_
    refine r_iadd C0 dX11_take_79 ?_
    refine r_iald C0 (K_X11_now_k hk_p0) hf dX11_take_80 (fun hf => ?_)
    obtain rfl := Option.some.inj hf
    exact r_iret C0 dX11_take_81
  · refine r_iconst (v := 0) C0 dX11_take_55 (by decide) ?_
    obtain rfl := Option.some.inj hf
    exact r_iret C0 dX11_take_56
set_option maxHeartbeats 4000000 in
set_option maxRecDepth 100000 in
theorem c_X11_take {l : Launch} {E : zEn} {S : zSk} {X : zMl} {Z : Nat → Prop} (hl : l.stackTraces = false) (F : Nat) (p0 : Nat) (p1 : Int32) (p2 : Int32) (hk_p0 : K_X11 S p0) (M : zMi) (r : Int32 × zMi) (hf : f_X11_take F p0 p1 p2 M = some r) : zM l E yX11_take cX11_take 3 (Option.some Jvm.ClassFile.FieldType.int) { frames := 2, cells := 0, slots := 0, locals := 46 } 0 0 [.ref p0, .int p1, .int p2] S Z M X S Z (some (.int r.1)) r.2 X := by
  refine zM.intro (L0 := [(0, .ref p0), (1, .int p1), (2, .int p2)]) hl (by decide) (Nat.le_of_ble_eq_true rfl) rfl (fun Γ C0 _ => ?_)
  unfold f_X11_take at hf
  refine r_aload_n C0 dX11_take_0 rfl 0 rfl ?_
  refine r_aload_n C0 dX11_take_1 rfl 0 rfl ?_
  refine r_getR C0 (C := RX11) (T := TX11) cl_X11 (K_X11_o hk_p0) (k := 5) (by decide) qw_578 rfl (K_X11_now_r hk_p0) dX11_take_2 ?_
  refine r_iload_n C0 dX11_take_5 rfl 1 rfl ?_
  refine r_callSi C0 (st := [.ref p0]) [.ref (p0 + 3), .int p1] hf vs_139 (fun hl r1 hr1 => c_X11_isShip hl F (p0 + 3) p1 (K_X11_now_k hk_p0) M r1 hr1) rfl rfl (Nat.le_of_ble_eq_true rfl) dX11_take_6 (zrm_ok rfl) (fun r1 hr1 hf => ?_)
  refine r_if_ne C0 16 dX11_take_9 (by decide) hf (fun hf => ?_) (fun hf => ?_)
  · refine r_iload_n C0 dX11_take_16 rfl 2 rfl ?_
    refine r_i2l C0 dX11_take_17 ?_
    refine r_lconst (v := 1) C0 dX11_take_18 (by decide) ?_
    refine r_ldc2 (v := 999) C0 qw_599 dX11_take_19 ?_
    refine r_callSi C0 (st := [.ref p0]) [.long ((p2).toInt64), .long (1 : Int64), .long (999 : Int64)] hf vs_112 (fun hl r2 hr2 => c_X11_in hl F ((p2).toInt64) (1 : Int64) (999 : Int64) M r2 hr2) rfl rfl (Nat.le_of_ble_eq_true rfl) dX11_take_22 (zrm_ok rfl) (fun r2 hr2 hf => ?_)
    refine r_if_ne C0 32 dX11_take_25 (by decide) hf (fun hf => ?_) (fun hf => ?_)
    · refine r_aload_n C0 dX11_take_32 rfl 0 rfl ?_
      refine r_getR C0 (C := RX11) (T := TX11) cl_X11 (K_X11_o hk_p0) (k := 5) (by decide) qw_578 rfl (K_X11_now_r hk_p0) dX11_take_33 ?_
      refine r_iload_n C0 dX11_take_36 rfl 1 rfl ?_
      refine r_iload_n C0 dX11_take_37 rfl 2 rfl ?_
      refine r_callSi C0 (st := [.ref p0]) [.ref (p0 + 3), .int p1, .int p2] hf vs_141 (fun hl r3 hr3 => c_X11_canTake hl F (p0 + 3) p1 p2 (K_X11_now_k hk_p0) M r3 hr3) rfl rfl (Nat.le_of_ble_eq_true rfl) dX11_take_38 (zrm_ok rfl) (fun r3 hr3 hf => ?_)
      refine r_if_ne C0 48 dX11_take_41 (by decide) hf (fun hf => ?_) (fun hf => ?_)
      · refine r_iconst (v := 0) C0 dX11_take_48 (by decide) ?_
        refine r_sub (L' := [(0, .ref p0), (1, .int p1), (2, .int p2)]) [0, 1, 2] rfl ?_
        exact g_X11_take_49 C0 F p0 p1 p2 hk_p0 (0 : Int32) M _  hf
      · refine r_iconst (v := 3) C0 dX11_take_44 (by decide) ?_
        refine r_goto C0 49 dX11_take_45 (by decide) ?_
        refine r_sub (L' := [(0, .ref p0), (1, .int p1), (2, .int p2)]) [0, 1, 2] rfl ?_
        exact g_X11_take_49 C0 F p0 p1 p2 hk_p0 (3 : Int32) M _  hf
    · refine r_iconst (v := 2) C0 dX11_take_28 (by decide) ?_
      refine r_goto C0 49 dX11_take_29 (by decide) ?_
      refine r_sub (L' := [(0, .ref p0), (1, .int p1), (2, .int p2)]) [0, 1, 2] rfl ?_
      exact g_X11_take_49 C0 F p0 p1 p2 hk_p0 (2 : Int32) M _  hf
  · refine r_iconst (v := 1) C0 dX11_take_12 (by decide) ?_
    refine r_goto C0 49 dX11_take_13 (by decide) ?_
    refine r_sub (L' := [(0, .ref p0), (1, .int p1), (2, .int p2)]) [0, 1, 2] rfl ?_
    exact g_X11_take_49 C0 F p0 p1 p2 hk_p0 (1 : Int32) M _  hf
set_option maxHeartbeats 4000000 in
set_option maxRecDepth 100000 in
theorem g_X11_send_32 {Γ : zCx} {E : zEn} {S : zSk} {X : zMl} {Z : Nat → Prop} (C0 : zCt Γ E RX11 cX11_send 2 (Option.some Jvm.ClassFile.FieldType.int) [] { frames := 2, cells := 0, slots := 0, locals := 46 }) (F : Nat) (p0 : Nat) (p1 : Int32) (hk_p0 : K_X11 S p0) (s0 : Int32) (M : zMi) (r : Int32 × zMi)  (hf : f_X11_send_32 F p0 p1 s0 M = some r) : zG Γ (zQ Γ E 0 0 S Z (some (.int r.1)) r.2 X) E 2 0 0 S Z M X 32 [(0, .ref p0), (1, .int p1)] [.int s0, .ref p0] := by
  unfold f_X11_send_32 at hf
  refine r_callVim C0 (st := []) [.int s0] p0 hf vs_131 (fun hl r1 hr1 => c_X11_refused hl F p0 s0 hk_p0 M r1 hr1) (K_X11_o hk_p0) rfl rfl rfl rfl (Nat.le_of_ble_eq_true rfl) dX11_send_32 (zrm_ok rfl) (fun r1 hr1 hf => ?_)
  refine r_if_eq C0 40 dX11_send_35 (by decide) hf (fun hf => ?_) (fun hf => ?_)
  · refine r_aload_n C0 dX11_send_40 rfl 0 rfl ?_
    refine r_callVm C0 (st := []) [] p0 hf vs_140 (fun hl r2 hr2 => c_X11_note hl F p0 hk_p0 r1.2 r2 hr2) (K_X11_o hk_p0) rfl rfl rfl rfl (Nat.le_of_ble_eq_true rfl) dX11_send_41 (zrm_ok rfl) (fun r2 hr2 hf => ?_)
    refine r_aload_n C0 dX11_send_44 rfl 0 rfl ?_
    refine r_getR C0 (C := RX11) (T := TX11) cl_X11 (K_X11_o hk_p0) (k := 5) (by decide) qw_578 rfl (K_X11_now_r hk_p0) dX11_send_45 ?_
    refine r_iload_n C0 dX11_send_48 rfl 1 rfl ?_
    refine r_callSim C0 (st := []) [.ref (p0 + 3), .int p1] hf vs_130 (fun hl r3 hr3 => c_X11_sendOn hl F (p0 + 3) p1 (K_X11_now_k hk_p0) r2 r3 hr3) rfl rfl (Nat.le_of_ble_eq_true rfl) dX11_send_49 (zrm_ok rfl) (fun r3 hr3 hf => ?_)
    obtain rfl := Option.some.inj hf
    exact r_iret C0 dX11_send_52
  · refine r_iconst (v := 0) C0 dX11_send_38 (by decide) ?_
    obtain rfl := Option.some.inj hf
    exact r_iret C0 dX11_send_39
set_option maxHeartbeats 4000000 in
set_option maxRecDepth 100000 in
theorem c_X11_send {l : Launch} {E : zEn} {S : zSk} {X : zMl} {Z : Nat → Prop} (hl : l.stackTraces = false) (F : Nat) (p0 : Nat) (p1 : Int32) (hk_p0 : K_X11 S p0) (M : zMi) (r : Int32 × zMi) (hf : f_X11_send F p0 p1 M = some r) : zM l E yX11_send cX11_send 2 (Option.some Jvm.ClassFile.FieldType.int) { frames := 2, cells := 0, slots := 0, locals := 46 } 0 0 [.ref p0, .int p1] S Z M X S Z (some (.int r.1)) r.2 X := by
  refine zM.intro (L0 := [(0, .ref p0), (1, .int p1)]) hl (by decide) (Nat.le_of_ble_eq_true rfl) rfl (fun Γ C0 _ => ?_)
  unfold f_X11_send at hf
  refine r_aload_n C0 dX11_send_0 rfl 0 rfl ?_
  refine r_aload_n C0 dX11_send_1 rfl 0 rfl ?_
  refine r_getR C0 (C := RX11) (T := TX11) cl_X11 (K_X11_o hk_p0) (k := 5) (by decide) qw_578 rfl (K_X11_now_r hk_p0) dX11_send_2 ?_
  refine r_iload_n C0 dX11_send_5 rfl 1 rfl ?_
  refine r_callSi C0 (st := [.ref p0]) [.ref (p0 + 3), .int p1] hf vs_139 (fun hl r1 hr1 => c_X11_isShip hl F (p0 + 3) p1 (K_X11_now_k hk_p0) M r1 hr1) rfl rfl (Nat.le_of_ble_eq_true rfl) dX11_send_6 (zrm_ok rfl) (fun r1 hr1 hf => ?_)
  refine r_if_ne C0 16 dX11_send_9 (by decide) hf (fun hf => ?_) (fun hf => ?_)
  · refine r_aload_n C0 dX11_send_16 rfl 0 rfl ?_
    refine r_getR C0 (C := RX11) (T := TX11) cl_X11 (K_X11_o hk_p0) (k := 5) (by decide) qw_578 rfl (K_X11_now_r hk_p0) dX11_send_17 ?_
    refine r_iload_n C0 dX11_send_20 rfl 1 rfl ?_
    refine r_callSi C0 (st := [.ref p0]) [.ref (p0 + 3), .int p1] hf vs_142 (fun hl r2 hr2 => c_X11_canSend hl F (p0 + 3) p1 (K_X11_now_k hk_p0) M r2 hr2) rfl rfl (Nat.le_of_ble_eq_true rfl) dX11_send_21 (zrm_ok rfl) (fun r2 hr2 hf => ?_)
    refine r_if_ne C0 31 dX11_send_24 (by decide) hf (fun hf => ?_) (fun hf => ?_)
    · refine r_iconst (v := 0) C0 dX11_send_31 (by decide) ?_
      refine r_sub (L' := [(0, .ref p0), (1, .int p1)]) [0, 1] rfl ?_
      exact g_X11_send_32 C0 F p0 p1 hk_p0 (0 : Int32) M _  hf
    · refine r_iconst (v := 2) C0 dX11_send_27 (by decide) ?_
      refine r_goto C0 32 dX11_send_28 (by decide) ?_
      refine r_sub (L' := [(0, .ref p0), (1, .int p1)]) [0, 1] rfl ?_
      exact g_X11_send_32 C0 F p0 p1 hk_p0 (2 : Int32) M _  hf
  · refine r_iconst (v := 1) C0 dX11_send_12 (by decide) ?_
    refine r_goto C0 32 dX11_send_13 (by decide) ?_
    refine r_sub (L' := [(0, .ref p0), (1, .int p1)]) [0, 1] rfl ?_
    exact g_X11_send_32 C0 F p0 p1 hk_p0 (1 : Int32) M _  hf
set_option maxHeartbeats 4000000 in
set_option maxRecDepth 100000 in
theorem g_X11_recall_32 {Γ : zCx} {E : zEn} {S : zSk} {X : zMl} {Z : Nat → Prop} (C0 : zCt Γ E RX11 cX11_recall 2 (Option.some Jvm.ClassFile.FieldType.int) [] { frames := 3, cells := 0, slots := 0, locals := 63 }) (F : Nat) (p0 : Nat) (p1 : Int32) (hk_p0 : K_X11 S p0) (s0 : Int32) (M : zMi) (r : Int32 × zMi)  (hf : f_X11_recall_32 F p0 p1 s0 M = some r) : zG Γ (zQ Γ E 0 0 S Z (some (.int r.1)) r.2 X) E 2 0 0 S Z M X 32 [(0, .ref p0), (1, .int p1)] [.int s0, .ref p0] := by
  unfold f_X11_recall_32 at hf
  refine r_callVim C0 (st := []) [.int s0] p0 hf vs_131 (fun hl r1 hr1 => c_X11_refused hl F p0 s0 hk_p0 M r1 hr1) (K_X11_o hk_p0) rfl rfl rfl rfl (Nat.le_of_ble_eq_true rfl) dX11_recall_32 (zrm_ok rfl) (fun r1 hr1 hf => ?_)
  refine r_if_eq C0 40 dX11_recall_35 (by decide) hf (fun hf => ?_) (fun hf => ?_)
  · refine r_aload_n C0 dX11_recall_40 rfl 0 rfl ?_
    refine r_callVm C0 (st := []) [] p0 hf vs_140 (fun hl r2 hr2 => c_X11_note hl F p0 hk_p0 r1.2 r2 hr2) (K_X11_o hk_p0) rfl rfl rfl rfl (Nat.le_of_ble_eq_true rfl) dX11_recall_41 (zrm_ok rfl) (fun r2 hr2 hf => ?_)
    refine r_aload_n C0 dX11_recall_44 rfl 0 rfl ?_
    refine r_getR C0 (C := RX11) (T := TX11) cl_X11 (K_X11_o hk_p0) (k := 5) (by decide) qw_578 rfl (K_X11_now_r hk_p0) dX11_recall_45 ?_
    refine r_iload_n C0 dX11_recall_48 rfl 1 rfl ?_
    refine r_callSim C0 (st := []) [.ref (p0 + 3), .int p1] hf vs_143 (fun hl r3 hr3 => c_X11_recallOn hl F (p0 + 3) p1 (K_X11_now_k hk_p0) r2 r3 hr3) rfl rfl (Nat.le_of_ble_eq_true rfl) dX11_recall_49 (zrm_ok rfl) (fun r3 hr3 hf => ?_)
    obtain rfl := Option.some.inj hf
    exact r_iret C0 dX11_recall_52
  · refine r_iconst (v := 0) C0 dX11_recall_38 (by decide) ?_
    obtain rfl := Option.some.inj hf
    exact r_iret C0 dX11_recall_39
set_option maxHeartbeats 4000000 in
set_option maxRecDepth 100000 in
theorem c_X11_recall {l : Launch} {E : zEn} {S : zSk} {X : zMl} {Z : Nat → Prop} (hl : l.stackTraces = false) (F : Nat) (p0 : Nat) (p1 : Int32) (hk_p0 : K_X11 S p0) (M : zMi) (r : Int32 × zMi) (hf : f_X11_recall F p0 p1 M = some r) : zM l E yX11_recall cX11_recall 2 (Option.some Jvm.ClassFile.FieldType.int) { frames := 3, cells := 0, slots := 0, locals := 63 } 0 0 [.ref p0, .int p1] S Z M X S Z (some (.int r.1)) r.2 X := by
  refine zM.intro (L0 := [(0, .ref p0), (1, .int p1)]) hl (by decide) (Nat.le_of_ble_eq_true rfl) rfl (fun Γ C0 _ => ?_)
  unfold f_X11_recall at hf
  refine r_aload_n C0 dX11_recall_0 rfl 0 rfl ?_
  refine r_aload_n C0 dX11_recall_1 rfl 0 rfl ?_
  refine r_getR C0 (C := RX11) (T := TX11) cl_X11 (K_X11_o hk_p0) (k := 5) (by decide) qw_578 rfl (K_X11_now_r hk_p0) dX11_recall_2 ?_
  refine r_iload_n C0 dX11_recall_5 rfl 1 rfl ?_
  refine r_callSi C0 (st := [.ref p0]) [.ref (p0 + 3), .int p1] hf vs_139 (fun hl r1 hr1 => c_X11_isShip hl F (p0 + 3) p1 (K_X11_now_k hk_p0) M r1 hr1) rfl rfl (Nat.le_of_ble_eq_true rfl) dX11_recall_6 (zrm_ok rfl) (fun r1 hr1 hf => ?_)
  refine r_if_ne C0 16 dX11_recall_9 (by decide) hf (fun hf => ?_) (fun hf => ?_)
  · refine r_aload_n C0 dX11_recall_16 rfl 0 rfl ?_
    refine r_getR C0 (C := RX11) (T := TX11) cl_X11 (K_X11_o hk_p0) (k := 5) (by decide) qw_578 rfl (K_X11_now_r hk_p0) dX11_recall_17 ?_
    refine r_iload_n C0 dX11_recall_20 rfl 1 rfl ?_
    refine r_callSi C0 (st := [.ref p0]) [.ref (p0 + 3), .int p1] hf vs_144 (fun hl r2 hr2 => c_X11_canRecall hl F (p0 + 3) p1 (K_X11_now_k hk_p0) M r2 hr2) rfl rfl (Nat.le_of_ble_eq_true rfl) dX11_recall_21 (zrm_ok rfl) (fun r2 hr2 hf => ?_)
    refine r_if_ne C0 31 dX11_recall_24 (by decide) hf (fun hf => ?_) (fun hf => ?_)
    · refine r_iconst (v := 0) C0 dX11_recall_31 (by decide) ?_
      refine r_sub (L' := [(0, .ref p0), (1, .int p1)]) [0, 1] rfl ?_
      exact g_X11_recall_32 C0 F p0 p1 hk_p0 (0 : Int32) M _  hf
    · refine r_iconst (v := 2) C0 dX11_recall_27 (by decide) ?_
      refine r_goto C0 32 dX11_recall_28 (by decide) ?_
      refine r_sub (L' := [(0, .ref p0), (1, .int p1)]) [0, 1] rfl ?_
      exact g_X11_recall_32 C0 F p0 p1 hk_p0 (2 : Int32) M _  hf
  · refine r_iconst (v := 1) C0 dX11_recall_12 (by decide) ?_
    refine r_goto C0 32 dX11_recall_13 (by decide) ?_
    refine r_sub (L' := [(0, .ref p0), (1, .int p1)]) [0, 1] rfl ?_
    exact g_X11_recall_32 C0 F p0 p1 hk_p0 (1 : Int32) M _  hf
set_option maxHeartbeats 4000000 in
set_option maxRecDepth 100000 in
theorem c_X11_canExtend {l : Launch} {E : zEn} {S : zSk} {X : zMl} {Z : Nat → Prop} (hl : l.stackTraces = false) (F : Nat) (p0 : Nat) (p1 : Int32) (p2 : Int32) (hk_p0 : S.1 p0 = some (.inr (0, 121))) (M : zMi) (r : Int32) (hf : f_X11_canExtend F p0 p1 p2 M = some r) : zM l E yX11_canExtend cX11_canExtend 3 (Option.some Jvm.ClassFile.FieldType.boolean) { frames := 1, cells := 0, slots := 0, locals := 20 } 0 0 [.ref p0, .int p1, .int p2] S Z M X S Z (some (.int r)) M X := by
  refine zM.intro (L0 := [(0, .ref p0), (1, .int p1), (2, .int p2)]) hl (by decide) (Nat.le_of_ble_eq_true rfl) rfl (fun Γ C0 _ => ?_)
  unfold f_X11_canExtend at hf
  refine r_aload_n C0 dX11_canExtend_0 rfl 0 rfl ?_
  refine r_iload_n C0 dX11_canExtend_1 rfl 1 rfl ?_
  refine r_callSi C0 (st := [.ref p0]) [.int p1] hf vs_113 (fun hl r1 hr1 => c_X11_zoneAt hl F p1 M r1 hr1) rfl rfl (Nat.le_of_ble_eq_true rfl) dX11_canExtend_2 (zrm_ok rfl) (fun r1 hr1 hf => ?_)
  refine r_iconst (v := 2) C0 dX11_canExtend_5 (by decide) ?_
  refine r_iadd C0 dX11_canExtend_6 ?_
  refine r_iald C0 hk_p0 hf dX11_canExtend_7 (fun hf => ?_)
  refine r_iload_n C0 dX11_canExtend_8 rfl 2 rfl ?_
  refine r_iadd C0 dX11_canExtend_9 ?_
  refine r_sipush (v := 999) C0 dX11_canExtend_10 (by decide) ?_
  refine r_icmp_gt C0 20 dX11_canExtend_13 (by decide) hf (fun hf => ?_) (fun hf => ?_)
  · refine r_iconst (v := 0) C0 dX11_canExtend_20 (by decide) ?_
    obtain rfl := Option.some.inj hf
    exact r_zret C0 rfl dX11_canExtend_21
  · refine r_iconst (v := 1) C0 dX11_canExtend_16 (by decide) ?_
    refine r_goto C0 21 dX11_canExtend_17 (by decide) ?_
    obtain rfl := Option.some.inj hf
    exact r_zret C0 rfl dX11_canExtend_21
set_option maxHeartbeats 4000000 in
set_option maxRecDepth 100000 in
theorem c_X11_extendOn {l : Launch} {E : zEn} {S : zSk} {X : zMl} {Z : Nat → Prop} (hl : l.stackTraces = false) (F : Nat) (p0 : Nat) (p1 : Int32) (p2 : Int32) (hk_p0 : S.1 p0 = some (.inr (0, 121))) (M : zMi) (r : zMi) (hf : f_X11_extendOn F p0 p1 p2 M = some r) : zM l E yX11_extendOn cX11_extendOn 3 (Option.none : Option Jvm.ClassFile.FieldType) { frames := 1, cells := 0, slots := 0, locals := 20 } 0 0 [.ref p0, .int p1, .int p2] S Z M X S Z none r X := by
  refine zM.intro (L0 := [(0, .ref p0), (1, .int p1), (2, .int p2)]) hl (by decide) (Nat.le_of_ble_eq_true rfl) rfl (fun Γ C0 _ => ?_)
  unfold f_X11_extendOn at hf
  refine r_aload_n C0 dX11_extendOn_0 rfl 0 rfl ?_
  refine r_iload_n C0 dX11_extendOn_1 rfl 1 rfl ?_
  refine r_callSi C0 (st := [.ref p0]) [.int p1] hf vs_113 (fun hl r1 hr1 => c_X11_zoneAt hl F p1 M r1 hr1) rfl rfl (Nat.le_of_ble_eq_true rfl) dX11_extendOn_2 (zrm_ok rfl) (fun r1 hr1 hf => ?_)
  refine r_iconst (v := 2) C0 dX11_extendOn_5 (by decide) ?_
  refine r_iadd C0 dX11_extendOn_6 ?_
  refine r_nm hf (fun x2 hf => ?_)
  refine r_dup2 C0 dX11_extendOn_7 rfl rfl ?_
  refine r_iald C0 hk_p0 hf dX11_extendOn_8 (fun hf => ?_)
  refine r_iload_n C0 dX11_extendOn_9 rfl 2 rfl ?_
  refine r_iadd C0 dX11_extendOn_10 ?_
  refine r_iast C0 hk_p0 hf dX11_extendOn_11 (fun M3 hf => ?_)
  refine r_aload_n C0 dX11_extendOn_12 rfl 0 rfl ?_
  refine r_bipush (v := 21) C0 dX11_extendOn_13 (by decide) ?_
  refine r_dup2 C0 dX11_extendOn_15 rfl rfl ?_
  refine r_iald' (j := 21) C0 hk_p0 rfl rfl dX11_extendOn_16 ?_
  refine r_bipush (v := 50) C0 dX11_extendOn_17 (by decide) ?_
  refine r_iload_n C0 dX11_extendOn_19 rfl 2 rfl ?_
  refine r_imul C0 dX11_extendOn_20 ?_
  refine r_iadd C0 dX11_extendOn_21 ?_
  refine r_iast' (j := 21) C0 hk_p0 rfl rfl hf dX11_extendOn_22 (fun M4 hf => ?_)
  obtain rfl := Option.some.inj hf
  exact r_vret C0 dX11_extendOn_23
set_option maxHeartbeats 4000000 in
set_option maxRecDepth 100000 in
theorem g_X11_extend_49 {Γ : zCx} {E : zEn} {S : zSk} {X : zMl} {Z : Nat → Prop} (C0 : zCt Γ E RX11 cX11_extend 3 (Option.some Jvm.ClassFile.FieldType.int) [] { frames := 2, cells := 0, slots := 0, locals := 46 }) (F : Nat) (p0 : Nat) (p1 : Int32) (p2 : Int32) (hk_p0 : K_X11 S p0) (s0 : Int32) (M : zMi) (r : Int32 × zMi)  (hf : f_X11_extend_49 F p0 p1 p2 s0 M = some r) : zG Γ (zQ Γ E 0 0 S Z (some (.int r.1)) r.2 X) E 3 0 0 S Z M X 49 [(0, .ref p0), (1, .int p1), (2, .int p2)] [.int s0, .ref p0] := by
  unfold f_X11_extend_49 at hf
  refine r_callVim C0 (st := []) [.int s0] p0 hf vs_131 (fun hl r1 hr1 => c_X11_refused hl F p0 s0 hk_p0 M r1 hr1) (K_X11_o hk_p0) rfl rfl rfl rfl (Nat.le_of_ble_eq_true rfl) dX11_extend_49 (zrm_ok rfl) (fun r1 hr1 hf => ?_)
  refine r_if_eq C0 57 dX11_extend_52 (by decide) hf (fun hf => ?_) (fun hf => ?_)
  · refine r_aload_n C0 dX11_extend_57 rfl 0 rfl ?_
    refine r_callVm C0 (st := []) [] p0 hf vs_140 (fun hl r2 hr2 => c_X11_note hl F p0 hk_p0 r1.2 r2 hr2) (K_X11_o hk_p0) rfl rfl rfl rfl (Nat.le_of_ble_eq_true rfl) dX11_extend_58 (zrm_ok rfl) (fun r2 hr2 hf => ?_)
    refine r_aload_n C0 dX11_extend_61 rfl 0 rfl ?_
    refine r_getR C0 (C := RX11) (T := TX11) cl_X11 (K_X11_o hk_p0) (k := 5) (by decide) qw_578 rfl (K_X11_now_r hk_p0) dX11_extend_62 ?_
    refine r_iload_n C0 dX11_extend_65 rfl 1 rfl ?_
    refine r_iload_n C0 dX11_extend_66 rfl 2 rfl ?_
    refine r_callSm C0 (st := []) [.ref (p0 + 3), .int p1, .int p2] hf vs_145 (fun hl r3 hr3 => c_X11_extendOn hl F (p0 + 3) p1 p2 (K_X11_now_k hk_p0) r2 r3 hr3) rfl rfl (Nat.le_of_ble_eq_true rfl) dX11_extend_67 (zrm_ok rfl) (fun r3 hr3 hf => ?_)
    refine r_aload_n C0 dX11_extend_70 rfl 0 rfl ?_
    refine r_getR C0 (C := RX11) (T := TX11) cl_X11 (K_X11_o hk_p0) (k := 5) (by decide) qw_578 rfl (K_X11_now_r hk_p0) dX11_extend_71 ?_
    refine r_iload_n C0 dX11_extend_74 rfl 1 rfl ?_
    refine r_callSi C0 (st := [.ref (p0 + 3)]) [.int p1] hf vs_113 (fun hl r4 hr4 => c_X11_zoneAt hl F p1 r3 r4 hr4) rfl rfl (Nat.le_of_ble_eq_true rfl) dX11_extend_75 (zrm_ok rfl) (fun r4 hr4 hf => ?_)
    refine r_iconst (v := 2) C0 dX11_extend_78 (by decide) ?_
    refine r_iadd C0 dX11_extend_79 ?_
    refine r_iald C0 (K_X11_now_k hk_p0) hf dX11_extend_80 (fun hf => ?_)
    obtain rfl := Option.some.inj hf
    exact r_iret C0 dX11_extend_81
  · refine r_iconst (v := 0) C0 dX11_extend_55 (by decide) ?_
    obtain rfl := Option.some.inj hf
    exact r_iret C0 dX11_extend_56
set_option maxHeartbeats 4000000 in
set_option maxRecDepth 100000 in
theorem c_X11_extend {l : Launch} {E : zEn} {S : zSk} {X : zMl} {Z : Nat → Prop} (hl : l.stackTraces = false) (F : Nat) (p0 : Nat) (p1 : Int32) (p2 : Int32) (hk_p0 : K_X11 S p0) (M : zMi) (r : Int32 × zMi) (hf : f_X11_extend F p0 p1 p2 M = some r) : zM l E yX11_extend cX11_extend 3 (Option.some Jvm.ClassFile.FieldType.int) { frames := 2, cells := 0, slots := 0, locals := 46 } 0 0 [.ref p0, .int p1, .int p2] S Z M X S Z (some (.int r.1)) r.2 X := by
  refine zM.intro (L0 := [(0, .ref p0), (1, .int p1), (2, .int p2)]) hl (by decide) (Nat.le_of_ble_eq_true rfl) rfl (fun Γ C0 _ => ?_)
  unfold f_X11_extend at hf
  refine r_aload_n C0 dX11_extend_0 rfl 0 rfl ?_
  refine r_aload_n C0 dX11_extend_1 rfl 0 rfl ?_
  refine r_getR C0 (C := RX11) (T := TX11) cl_X11 (K_X11_o hk_p0) (k := 5) (by decide) qw_578 rfl (K_X11_now_r hk_p0) dX11_extend_2 ?_
  refine r_iload_n C0 dX11_extend_5 rfl 1 rfl ?_
  refine r_callSi C0 (st := [.ref p0]) [.ref (p0 + 3), .int p1] hf vs_138 (fun hl r1 hr1 => c_X11_isZone hl F (p0 + 3) p1 (K_X11_now_k hk_p0) M r1 hr1) rfl rfl (Nat.le_of_ble_eq_true rfl) dX11_extend_6 (zrm_ok rfl) (fun r1 hr1 hf => ?_)
  refine r_if_ne C0 16 dX11_extend_9 (by decide) hf (fun hf => ?_) (fun hf => ?_)
  · refine r_iload_n C0 dX11_extend_16 rfl 2 rfl ?_
    refine r_i2l C0 dX11_extend_17 ?_
    refine r_lconst (v := 1) C0 dX11_extend_18 (by decide) ?_
    refine r_ldc2 (v := 99) C0 qw_615 dX11_extend_19 ?_
    refine r_callSi C0 (st := [.ref p0]) [.long ((p2).toInt64), .long (1 : Int64), .long (99 : Int64)] hf vs_112 (fun hl r2 hr2 => c_X11_in hl F ((p2).toInt64) (1 : Int64) (99 : Int64) M r2 hr2) rfl rfl (Nat.le_of_ble_eq_true rfl) dX11_extend_22 (zrm_ok rfl) (fun r2 hr2 hf => ?_)
    refine r_if_ne C0 32 dX11_extend_25 (by decide) hf (fun hf => ?_) (fun hf => ?_)
    · refine r_aload_n C0 dX11_extend_32 rfl 0 rfl ?_
      refine r_getR C0 (C := RX11) (T := TX11) cl_X11 (K_X11_o hk_p0) (k := 5) (by decide) qw_578 rfl (K_X11_now_r hk_p0) dX11_extend_33 ?_
      refine r_iload_n C0 dX11_extend_36 rfl 1 rfl ?_
      refine r_iload_n C0 dX11_extend_37 rfl 2 rfl ?_
      refine r_callSi C0 (st := [.ref p0]) [.ref (p0 + 3), .int p1, .int p2] hf vs_146 (fun hl r3 hr3 => c_X11_canExtend hl F (p0 + 3) p1 p2 (K_X11_now_k hk_p0) M r3 hr3) rfl rfl (Nat.le_of_ble_eq_true rfl) dX11_extend_38 (zrm_ok rfl) (fun r3 hr3 hf => ?_)
      refine r_if_ne C0 48 dX11_extend_41 (by decide) hf (fun hf => ?_) (fun hf => ?_)
      · refine r_iconst (v := 0) C0 dX11_extend_48 (by decide) ?_
        refine r_sub (L' := [(0, .ref p0), (1, .int p1), (2, .int p2)]) [0, 1, 2] rfl ?_
        exact g_X11_extend_49 C0 F p0 p1 p2 hk_p0 (0 : Int32) M _  hf
      · refine r_iconst (v := 3) C0 dX11_extend_44 (by decide) ?_
        refine r_goto C0 49 dX11_extend_45 (by decide) ?_
        refine r_sub (L' := [(0, .ref p0), (1, .int p1), (2, .int p2)]) [0, 1, 2] rfl ?_
        exact g_X11_extend_49 C0 F p0 p1 p2 hk_p0 (3 : Int32) M _  hf
    · refine r_iconst (v := 2) C0 dX11_extend_28 (by decide) ?_
      refine r_goto C0 49 dX11_extend_29 (by decide) ?_
      refine r_sub (L' := [(0, .ref p0), (1, .int p1), (2, .int p2)]) [0, 1, 2] rfl ?_
      exact g_X11_extend_49 C0 F p0 p1 p2 hk_p0 (2 : Int32) M _  hf
  · refine r_iconst (v := 1) C0 dX11_extend_12 (by decide) ?_
    refine r_goto C0 49 dX11_extend_13 (by decide) ?_
    refine r_sub (L' := [(0, .ref p0), (1, .int p1), (2, .int p2)]) [0, 1, 2] rfl ?_
    exact g_X11_extend_49 C0 F p0 p1 p2 hk_p0 (1 : Int32) M _  hf
set_option maxHeartbeats 4000000 in
set_option maxRecDepth 100000 in
theorem c_X11_buyOn {l : Launch} {E : zEn} {S : zSk} {X : zMl} {Z : Nat → Prop} (hl : l.stackTraces = false) (F : Nat) (p0 : Nat) (p1 : Int32) (hk_p0 : S.1 p0 = some (.inr (0, 121))) (M : zMi) (r : zMi) (hf : f_X11_buyOn F p0 p1 M = some r) : zM l E yX11_buyOn cX11_buyOn 2 (Option.none : Option Jvm.ClassFile.FieldType) { frames := 0, cells := 0, slots := 0, locals := 0 } 0 0 [.ref p0, .int p1] S Z M X S Z none r X := by
  refine zM.intro (L0 := [(0, .ref p0), (1, .int p1)]) hl (by decide) (Nat.le_of_ble_eq_true rfl) rfl (fun Γ C0 _ => ?_)
  unfold f_X11_buyOn at hf
  refine r_aload_n C0 dX11_buyOn_0 rfl 0 rfl ?_
  refine r_iconst (v := 2) C0 dX11_buyOn_1 (by decide) ?_
  refine r_dup2 C0 dX11_buyOn_2 rfl rfl ?_
  refine r_iald' (j := 2) C0 hk_p0 rfl rfl dX11_buyOn_3 ?_
  refine r_iload_n C0 dX11_buyOn_4 rfl 1 rfl ?_
  refine r_iadd C0 dX11_buyOn_5 ?_
  refine r_iast' (j := 2) C0 hk_p0 rfl rfl hf dX11_buyOn_6 (fun M1 hf => ?_)
  refine r_aload_n C0 dX11_buyOn_7 rfl 0 rfl ?_
  refine r_bipush (v := 16) C0 dX11_buyOn_8 (by decide) ?_
  refine r_dup2 C0 dX11_buyOn_10 rfl rfl ?_
  refine r_iald' (j := 16) C0 hk_p0 rfl rfl dX11_buyOn_11 ?_
  refine r_iload_n C0 dX11_buyOn_12 rfl 1 rfl ?_
  refine r_iadd C0 dX11_buyOn_13 ?_
  refine r_iast' (j := 16) C0 hk_p0 rfl rfl hf dX11_buyOn_14 (fun M2 hf => ?_)
  refine r_aload_n C0 dX11_buyOn_15 rfl 0 rfl ?_
  refine r_bipush (v := 22) C0 dX11_buyOn_16 (by decide) ?_
  refine r_dup2 C0 dX11_buyOn_18 rfl rfl ?_
  refine r_iald' (j := 22) C0 hk_p0 rfl rfl dX11_buyOn_19 ?_
  refine r_iconst (v := 3) C0 dX11_buyOn_20 (by decide) ?_
  refine r_iload_n C0 dX11_buyOn_21 rfl 1 rfl ?_
  refine r_imul C0 dX11_buyOn_22 ?_
  refine r_iadd C0 dX11_buyOn_23 ?_
  refine r_iast' (j := 22) C0 hk_p0 rfl rfl hf dX11_buyOn_24 (fun M3 hf => ?_)
  obtain rfl := Option.some.inj hf
  exact r_vret C0 dX11_buyOn_25
set_option maxHeartbeats 4000000 in
set_option maxRecDepth 100000 in
theorem g_X11_buy_38 {Γ : zCx} {E : zEn} {S : zSk} {X : zMl} {Z : Nat → Prop} (C0 : zCt Γ E RX11 cX11_buy 3 (Option.some Jvm.ClassFile.FieldType.int) [] { frames := 2, cells := 0, slots := 0, locals := 45 }) (F : Nat) (p0 : Nat) (p1 : Int32) (hk_p0 : K_X11 S p0) (s0 : Int32) (M : zMi) (r : Int32 × zMi)  (hf : f_X11_buy_38 F p0 p1 s0 M = some r) : zG Γ (zQ Γ E 0 0 S Z (some (.int r.1)) r.2 X) E 3 0 0 S Z M X 38 [(0, .ref p0), (1, .int p1)] [.int s0, .ref p0] := by
  unfold f_X11_buy_38 at hf
  refine r_callVim C0 (st := []) [.int s0] p0 hf vs_131 (fun hl r1 hr1 => c_X11_refused hl F p0 s0 hk_p0 M r1 hr1) (K_X11_o hk_p0) rfl rfl rfl rfl (Nat.le_of_ble_eq_true rfl) dX11_buy_38 (zrm_ok rfl) (fun r1 hr1 hf => ?_)
  refine r_if_eq C0 46 dX11_buy_41 (by decide) hf (fun hf => ?_) (fun hf => ?_)
  · refine r_aload_n C0 dX11_buy_46 rfl 0 rfl ?_
    refine r_callVm C0 (st := []) [] p0 hf vs_140 (fun hl r2 hr2 => c_X11_note hl F p0 hk_p0 r1.2 r2 hr2) (K_X11_o hk_p0) rfl rfl rfl rfl (Nat.le_of_ble_eq_true rfl) dX11_buy_47 (zrm_ok rfl) (fun r2 hr2 hf => ?_)
    refine r_aload_n C0 dX11_buy_50 rfl 0 rfl ?_
    refine r_getR C0 (C := RX11) (T := TX11) cl_X11 (K_X11_o hk_p0) (k := 5) (by decide) qw_578 rfl (K_X11_now_r hk_p0) dX11_buy_51 ?_
    refine r_iload_n C0 dX11_buy_54 rfl 1 rfl ?_
    refine r_callSm C0 (st := []) [.ref (p0 + 3), .int p1] hf vs_147 (fun hl r3 hr3 => c_X11_buyOn hl F (p0 + 3) p1 (K_X11_now_k hk_p0) r2 r3 hr3) rfl rfl (Nat.le_of_ble_eq_true rfl) dX11_buy_55 (zrm_ok rfl) (fun r3 hr3 hf => ?_)
    refine r_aload_n C0 dX11_buy_58 rfl 0 rfl ?_
    refine r_getR C0 (C := RX11) (T := TX11) cl_X11 (K_X11_o hk_p0) (k := 5) (by decide) qw_578 rfl (K_X11_now_r hk_p0) dX11_buy_59 ?_
    refine r_iconst (v := 2) C0 dX11_buy_62 (by decide) ?_
    refine r_iald' (j := 2) C0 (K_X11_now_k hk_p0) rfl rfl dX11_buy_63 ?_
    obtain rfl := Option.some.inj hf
    exact r_iret C0 dX11_buy_64
  · refine r_iconst (v := 0) C0 dX11_buy_44 (by decide) ?_
    obtain rfl := Option.some.inj hf
    exact r_iret C0 dX11_buy_45
set_option maxHeartbeats 4000000 in
set_option maxRecDepth 100000 in
theorem c_X11_buy {l : Launch} {E : zEn} {S : zSk} {X : zMl} {Z : Nat → Prop} (hl : l.stackTraces = false) (F : Nat) (p0 : Nat) (p1 : Int32) (hk_p0 : K_X11 S p0) (M : zMi) (r : Int32 × zMi) (hf : f_X11_buy F p0 p1 M = some r) : zM l E yX11_buy cX11_buy 3 (Option.some Jvm.ClassFile.FieldType.int) { frames := 2, cells := 0, slots := 0, locals := 45 } 0 0 [.ref p0, .int p1] S Z M X S Z (some (.int r.1)) r.2 X := by
  refine zM.intro (L0 := [(0, .ref p0), (1, .int p1)]) hl (by decide) (Nat.le_of_ble_eq_true rfl) rfl (fun Γ C0 _ => ?_)
  unfold f_X11_buy at hf
  refine r_iload_n C0 dX11_buy_0 rfl 1 rfl ?_
  refine r_i2l C0 dX11_buy_1 ?_
  refine r_lconst (v := 1) C0 dX11_buy_2 (by decide) ?_
  refine r_ldc2 (v := 999) C0 qw_599 dX11_buy_3 ?_
  refine r_callSi C0 (st := []) [.long ((p1).toInt64), .long (1 : Int64), .long (999 : Int64)] hf vs_112 (fun hl r1 hr1 => c_X11_in hl F ((p1).toInt64) (1 : Int64) (999 : Int64) M r1 hr1) rfl rfl (Nat.le_of_ble_eq_true rfl) dX11_buy_6 (zrm_ok rfl) (fun r1 hr1 hf => ?_)
  refine r_istore_n (L' := [(2, .int r1), (0, .ref p0), (1, .int p1)]) C0 dX11_buy_9 rfl (by decide) rfl ?_
  refine r_aload_n C0 dX11_buy_10 rfl 1 rfl ?_
  refine r_iload_n C0 dX11_buy_11 rfl 0 rfl ?_
  refine r_if_ne C0 19 dX11_buy_12 (by decide) hf (fun hf => ?_) (fun hf => ?_)
  · refine r_aload_n C0 dX11_buy_19 rfl 1 rfl ?_
    refine r_getR C0 (C := RX11) (T := TX11) cl_X11 (K_X11_o hk_p0) (k := 5) (by decide) qw_578 rfl (K_X11_now_r hk_p0) dX11_buy_20 ?_
    refine r_iconst (v := 2) C0 dX11_buy_23 (by decide) ?_
    refine r_iald' (j := 2) C0 (K_X11_now_k hk_p0) rfl rfl dX11_buy_24 ?_
    refine r_iload_n C0 dX11_buy_25 rfl 2 rfl ?_
    refine r_iadd C0 dX11_buy_26 ?_
    refine r_sipush (v := 9999) C0 dX11_buy_27 (by decide) ?_
    refine r_icmp_le C0 37 dX11_buy_30 (by decide) hf (fun hf => ?_) (fun hf => ?_)
    · refine r_iconst (v := 0) C0 dX11_buy_37 (by decide) ?_
      refine r_sub (L' := [(0, .ref p0), (1, .int p1)]) [1, 2] rfl ?_
      exact g_X11_buy_38 C0 F p0 p1 hk_p0 (0 : Int32) M _  hf
    · refine r_iconst (v := 2) C0 dX11_buy_33 (by decide) ?_
      refine r_goto C0 38 dX11_buy_34 (by decide) ?_
      refine r_sub (L' := [(0, .ref p0), (1, .int p1)]) [1, 2] rfl ?_
      exact g_X11_buy_38 C0 F p0 p1 hk_p0 (2 : Int32) M _  hf
  · refine r_iconst (v := 1) C0 dX11_buy_15 (by decide) ?_
    refine r_goto C0 38 dX11_buy_16 (by decide) ?_
    refine r_sub (L' := [(0, .ref p0), (1, .int p1)]) [1, 2] rfl ?_
    exact g_X11_buy_38 C0 F p0 p1 hk_p0 (1 : Int32) M _  hf
set_option maxHeartbeats 4000000 in
set_option maxRecDepth 100000 in
theorem g_X11_setWaves_37 {Γ : zCx} {E : zEn} {S : zSk} {X : zMl} {Z : Nat → Prop} (C0 : zCt Γ E RX11 cX11_setWaves 4 (Option.some Jvm.ClassFile.FieldType.int) [] { frames := 2, cells := 0, slots := 0, locals := 45 }) (F : Nat) (p0 : Nat) (p1 : Int32) (p2 : Int32) (hk_p0 : K_X11 S p0) (s0 : Int32) (M : zMi) (r : Int32 × zMi)  (hf : f_X11_setWaves_37 F p0 p1 p2 s0 M = some r) : zG Γ (zQ Γ E 0 0 S Z (some (.int r.1)) r.2 X) E 4 0 0 S Z M X 37 [(0, .ref p0), (1, .int p1), (2, .int p2)] [.int s0, .ref p0] := by
  unfold f_X11_setWaves_37 at hf
  refine r_callVim C0 (st := []) [.int s0] p0 hf vs_131 (fun hl r1 hr1 => c_X11_refused hl F p0 s0 hk_p0 M r1 hr1) (K_X11_o hk_p0) rfl rfl rfl rfl (Nat.le_of_ble_eq_true rfl) dX11_setWaves_37 (zrm_ok rfl) (fun r1 hr1 hf => ?_)
  refine r_if_eq C0 45 dX11_setWaves_40 (by decide) hf (fun hf => ?_) (fun hf => ?_)
  · refine r_aload_n C0 dX11_setWaves_45 rfl 0 rfl ?_
    refine r_callVm C0 (st := []) [] p0 hf vs_140 (fun hl r2 hr2 => c_X11_note hl F p0 hk_p0 r1.2 r2 hr2) (K_X11_o hk_p0) rfl rfl rfl rfl (Nat.le_of_ble_eq_true rfl) dX11_setWaves_46 (zrm_ok rfl) (fun r2 hr2 hf => ?_)
    refine r_aload_n C0 dX11_setWaves_49 rfl 0 rfl ?_
    refine r_getR C0 (C := RX11) (T := TX11) cl_X11 (K_X11_o hk_p0) (k := 5) (by decide) qw_578 rfl (K_X11_now_r hk_p0) dX11_setWaves_50 ?_
    refine r_bipush (v := 91) C0 dX11_setWaves_53 (by decide) ?_
    refine r_iload_n C0 dX11_setWaves_55 rfl 1 rfl ?_
    refine r_iadd C0 dX11_setWaves_56 ?_
    refine r_iald C0 (K_X11_now_k hk_p0) hf dX11_setWaves_57 (fun hf => ?_)
    refine r_nm hf (fun x3 hf => ?_)
    refine r_istore_n (L' := [(3, .int x3), (0, .ref p0), (1, .int p1), (2, .int p2)]) C0 dX11_setWaves_58 rfl (by decide) rfl ?_
    refine r_aload_n C0 dX11_setWaves_59 rfl 1 rfl ?_
    refine r_getR C0 (C := RX11) (T := TX11) cl_X11 (K_X11_o hk_p0) (k := 5) (by decide) qw_578 rfl (K_X11_now_r hk_p0) dX11_setWaves_60 ?_
    refine r_bipush (v := 91) C0 dX11_setWaves_63 (by decide) ?_
    refine r_iload_n C0 dX11_setWaves_65 rfl 2 rfl ?_
    refine r_iadd C0 dX11_setWaves_66 ?_
    refine r_iload_n C0 dX11_setWaves_67 rfl 3 rfl ?_
    refine r_iast C0 (K_X11_now_k hk_p0) hf dX11_setWaves_68 (fun M4 hf => ?_)
    refine r_iload_n C0 dX11_setWaves_69 rfl 0 rfl ?_
    obtain rfl := Option.some.inj hf
    exact r_iret C0 dX11_setWaves_70
  · refine r_iconst (v := 0) C0 dX11_setWaves_43 (by decide) ?_
    obtain rfl := Option.some.inj hf
    exact r_iret C0 dX11_setWaves_44
set_option maxHeartbeats 4000000 in
set_option maxRecDepth 100000 in
theorem c_X11_setWaves {l : Launch} {E : zEn} {S : zSk} {X : zMl} {Z : Nat → Prop} (hl : l.stackTraces = false) (F : Nat) (p0 : Nat) (p1 : Int32) (p2 : Int32) (hk_p0 : K_X11 S p0) (M : zMi) (r : Int32 × zMi) (hf : f_X11_setWaves F p0 p1 p2 M = some r) : zM l E yX11_setWaves cX11_setWaves 4 (Option.some Jvm.ClassFile.FieldType.int) { frames := 2, cells := 0, slots := 0, locals := 45 } 0 0 [.ref p0, .int p1, .int p2] S Z M X S Z (some (.int r.1)) r.2 X := by
  refine zM.intro (L0 := [(0, .ref p0), (1, .int p1), (2, .int p2)]) hl (by decide) (Nat.le_of_ble_eq_true rfl) rfl (fun Γ C0 _ => ?_)
  unfold f_X11_setWaves at hf
  refine r_aload_n C0 dX11_setWaves_0 rfl 0 rfl ?_
  refine r_iload_n C0 dX11_setWaves_1 rfl 1 rfl ?_
  refine r_i2l C0 dX11_setWaves_2 ?_
  refine r_lconst (v := 0) C0 dX11_setWaves_3 (by decide) ?_
  refine r_aload_n C0 dX11_setWaves_4 rfl 0 rfl ?_
  refine r_getR C0 (C := RX11) (T := TX11) cl_X11 (K_X11_o hk_p0) (k := 5) (by decide) qw_578 rfl (K_X11_now_r hk_p0) dX11_setWaves_5 ?_
  refine r_bipush (v := 6) C0 dX11_setWaves_8 (by decide) ?_
  refine r_iald' (j := 6) C0 (K_X11_now_k hk_p0) rfl rfl dX11_setWaves_10 ?_
  refine r_iconst (v := 1) C0 dX11_setWaves_11 (by decide) ?_
  refine r_isub C0 dX11_setWaves_12 ?_
  refine r_i2l C0 dX11_setWaves_13 ?_
  refine r_callSi C0 (st := [.ref p0]) [.long ((p1).toInt64), .long (0 : Int64), .long ((((M (p0 + 3) 6) - (1 : Int32))).toInt64)] hf vs_112 (fun hl r1 hr1 => c_X11_in hl F ((p1).toInt64) (0 : Int64) ((((M (p0 + 3) 6) - (1 : Int32))).toInt64) M r1 hr1) rfl rfl (Nat.le_of_ble_eq_true rfl) dX11_setWaves_14 (zrm_ok rfl) (fun r1 hr1 hf => ?_)
  refine r_if_eq C0 36 dX11_setWaves_17 (by decide) hf (fun hf => ?_) (fun hf => ?_)
  · refine r_iconst (v := 1) C0 dX11_setWaves_36 (by decide) ?_
    refine r_sub (L' := [(0, .ref p0), (1, .int p1), (2, .int p2)]) [0, 1, 2] rfl ?_
    exact g_X11_setWaves_37 C0 F p0 p1 p2 hk_p0 (1 : Int32) M _  hf
  · refine r_iload_n C0 dX11_setWaves_20 rfl 2 rfl ?_
    refine r_i2l C0 dX11_setWaves_21 ?_
    refine r_lconst (v := 0) C0 dX11_setWaves_22 (by decide) ?_
    refine r_ldc2 (v := 9) C0 qw_556 dX11_setWaves_23 ?_
    refine r_callSi C0 (st := [.ref p0]) [.long ((p2).toInt64), .long (0 : Int64), .long (9 : Int64)] hf vs_112 (fun hl r2 hr2 => c_X11_in hl F ((p2).toInt64) (0 : Int64) (9 : Int64) M r2 hr2) rfl rfl (Nat.le_of_ble_eq_true rfl) dX11_setWaves_26 (zrm_ok rfl) (fun r2 hr2 hf => ?_)
    refine r_if_eq C0 36 dX11_setWaves_29 (by decide) hf (fun hf => ?_) (fun hf => ?_)
    · refine r_iconst (v := 1) C0 dX11_setWaves_36 (by decide) ?_
      refine r_sub (L' := [(0, .ref p0), (1, .int p1), (2, .int p2)]) [0, 1, 2] rfl ?_
      exact g_X11_setWaves_37 C0 F p0 p1 p2 hk_p0 (1 : Int32) M _  hf
    · refine r_iconst (v := 0) C0 dX11_setWaves_32 (by decide) ?_
      refine r_goto C0 37 dX11_setWaves_33 (by decide) ?_
      refine r_sub (L' := [(0, .ref p0), (1, .int p1), (2, .int p2)]) [0, 1, 2] rfl ?_
      exact g_X11_setWaves_37 C0 F p0 p1 p2 hk_p0 (0 : Int32) M _  hf
set_option maxHeartbeats 4000000 in
set_option maxRecDepth 100000 in
theorem g_X11_pass_18 {Γ : zCx} {E : zEn} {S : zSk} {X : zMl} {Z : Nat → Prop} (C0 : zCt Γ E RX11 cX11_pass 2 (Option.some Jvm.ClassFile.FieldType.int) [] { frames := 7, cells := 0, slots := 0, locals := 166 }) (F : Nat) (p0 : Nat) (p1 : Int32) (hk_p0 : K_X11 S p0) (s0 : Int32) (M : zMi) (r : Int32 × zMi)  (hf : f_X11_pass_18 F p0 p1 s0 M = some r) : zG Γ (zQ Γ E 0 0 S Z (some (.int r.1)) r.2 X) E 2 0 0 S Z M X 18 [(0, .ref p0), (1, .int p1)] [.int s0, .ref p0] := by
  unfold f_X11_pass_18 at hf
  refine r_callVim C0 (st := []) [.int s0] p0 hf vs_131 (fun hl r1 hr1 => c_X11_refused hl F p0 s0 hk_p0 M r1 hr1) (K_X11_o hk_p0) rfl rfl rfl rfl (Nat.le_of_ble_eq_true rfl) dX11_pass_18 (zrm_ok rfl) (fun r1 hr1 hf => ?_)
  refine r_if_eq C0 26 dX11_pass_21 (by decide) hf (fun hf => ?_) (fun hf => ?_)
  · refine r_aload_n C0 dX11_pass_26 rfl 0 rfl ?_
    refine r_callVm C0 (st := []) [] p0 hf vs_140 (fun hl r2 hr2 => c_X11_note hl F p0 hk_p0 r1.2 r2 hr2) (K_X11_o hk_p0) rfl rfl rfl rfl (Nat.le_of_ble_eq_true rfl) dX11_pass_27 (zrm_ok rfl) (fun r2 hr2 hf => ?_)
    refine r_aload_n C0 dX11_pass_30 rfl 0 rfl ?_
    refine r_getR C0 (C := RX11) (T := TX11) cl_X11 (K_X11_o hk_p0) (k := 5) (by decide) qw_578 rfl (K_X11_now_r hk_p0) dX11_pass_31 ?_
    refine r_iload_n C0 dX11_pass_34 rfl 1 rfl ?_
    refine r_callSim C0 (st := []) [.ref (p0 + 3), .int p1] hf vs_148 (fun hl r3 hr3 => c_X11_daysOn hl F (p0 + 3) p1 (K_X11_now_k hk_p0) r2 r3 hr3) rfl rfl (Nat.le_of_ble_eq_true rfl) dX11_pass_35 (zrm_ok rfl) (fun r3 hr3 hf => ?_)
    obtain rfl := Option.some.inj hf
    exact r_iret C0 dX11_pass_38
  · refine r_iconst (v := 0) C0 dX11_pass_24 (by decide) ?_
    obtain rfl := Option.some.inj hf
    exact r_iret C0 dX11_pass_25
set_option maxHeartbeats 4000000 in
set_option maxRecDepth 100000 in
theorem c_X11_pass {l : Launch} {E : zEn} {S : zSk} {X : zMl} {Z : Nat → Prop} (hl : l.stackTraces = false) (F : Nat) (p0 : Nat) (p1 : Int32) (hk_p0 : K_X11 S p0) (M : zMi) (r : Int32 × zMi) (hf : f_X11_pass F p0 p1 M = some r) : zM l E yX11_pass cX11_pass 2 (Option.some Jvm.ClassFile.FieldType.int) { frames := 7, cells := 0, slots := 0, locals := 166 } 0 0 [.ref p0, .int p1] S Z M X S Z (some (.int r.1)) r.2 X := by
  refine zM.intro (L0 := [(0, .ref p0), (1, .int p1)]) hl (by decide) (Nat.le_of_ble_eq_true rfl) rfl (fun Γ C0 _ => ?_)
  unfold f_X11_pass at hf
  refine r_aload_n C0 dX11_pass_0 rfl 0 rfl ?_
  refine r_iload_n C0 dX11_pass_1 rfl 1 rfl ?_
  refine r_i2l C0 dX11_pass_2 ?_
  refine r_lconst (v := 1) C0 dX11_pass_3 (by decide) ?_
  refine r_ldc2 (v := 99) C0 qw_615 dX11_pass_4 ?_
  refine r_callSi C0 (st := [.ref p0]) [.long ((p1).toInt64), .long (1 : Int64), .long (99 : Int64)] hf vs_112 (fun hl r1 hr1 => c_X11_in hl F ((p1).toInt64) (1 : Int64) (99 : Int64) M r1 hr1) rfl rfl (Nat.le_of_ble_eq_true rfl) dX11_pass_7 (zrm_ok rfl) (fun r1 hr1 hf => ?_)
  refine r_if_eq C0 17 dX11_pass_10 (by decide) hf (fun hf => ?_) (fun hf => ?_)
  · refine r_iconst (v := 1) C0 dX11_pass_17 (by decide) ?_
    refine r_sub (L' := [(0, .ref p0), (1, .int p1)]) [0, 1] rfl ?_
    exact g_X11_pass_18 C0 F p0 p1 hk_p0 (1 : Int32) M _  hf
  · refine r_iconst (v := 0) C0 dX11_pass_13 (by decide) ?_
    refine r_goto C0 18 dX11_pass_14 (by decide) ?_
    refine r_sub (L' := [(0, .ref p0), (1, .int p1)]) [0, 1] rfl ?_
    exact g_X11_pass_18 C0 F p0 p1 hk_p0 (0 : Int32) M _  hf
set_option maxHeartbeats 4000000 in
set_option maxRecDepth 100000 in
theorem g_X11_undo_13 {Γ : zCx} {E : zEn} {S : zSk} {X : zMl} {Z : Nat → Prop} (C0 : zCt Γ E RX11 cX11_undo 1 (Option.some Jvm.ClassFile.FieldType.int) [] { frames := 1, cells := 0, slots := 0, locals := 24 }) (F : Nat) (p0 : Nat) (hk_p0 : K_X11 S p0) (s0 : Int32) (M : zMi) (r : Int32 × zMi)  (hf : f_X11_undo_13 F p0 s0 M = some r) : zG Γ (zQ Γ E 0 0 S Z (some (.int r.1)) r.2 X) E 1 0 0 S Z M X 13 [(0, .ref p0)] [.int s0, .ref p0] := by
  unfold f_X11_undo_13 at hf
  refine r_callVim C0 (st := []) [.int s0] p0 hf vs_131 (fun hl r1 hr1 => c_X11_refused hl F p0 s0 hk_p0 M r1 hr1) (K_X11_o hk_p0) rfl rfl rfl rfl (Nat.le_of_ble_eq_true rfl) dX11_undo_13 (zrm_ok rfl) (fun r1 hr1 hf => ?_)
  refine r_if_eq C0 21 dX11_undo_16 (by decide) hf (fun hf => ?_) (fun hf => ?_)
  · refine r_aload_n C0 dX11_undo_21 rfl 0 rfl ?_
    refine r_dup C0 dX11_undo_22 rfl ?_
    refine r_getI C0 (C := RX11) (T := TX11) cl_X11 (K_X11_o hk_p0) (k := 8) (by decide) qw_582 rfl dX11_undo_23 ?_
    refine r_iconst (v := 1) C0 dX11_undo_26 (by decide) ?_
    refine r_isub C0 dX11_undo_27 ?_
    refine r_putI C0 (C := RX11) (T := TX11) cl_X11 (K_X11_o hk_p0) (k := 8) (by decide) qw_582 rfl rfl rfl rfl hf dX11_undo_28 (fun M2 hf => ?_)
    refine r_aload_n C0 dX11_undo_31 rfl 0 rfl ?_
    refine r_getR C0 (C := RX11) (T := TX11) cl_X11 (K_X11_o hk_p0) (k := 7) (by decide) qw_594 rfl (K_X11_diary_r hk_p0) dX11_undo_32 ?_
    refine r_bipush (v := 121) C0 dX11_undo_35 (by decide) ?_
    refine r_aload_n C0 dX11_undo_37 rfl 0 rfl ?_
    refine r_getI C0 (C := RX11) (T := TX11) cl_X11 (K_X11_o hk_p0) (k := 8) (by decide) qw_582 rfl dX11_undo_38 ?_
    refine r_imul C0 dX11_undo_41 ?_
    refine r_aload_n C0 dX11_undo_42 rfl 0 rfl ?_
    refine r_getR C0 (C := RX11) (T := TX11) cl_X11 (K_X11_o hk_p0) (k := 5) (by decide) qw_578 rfl (K_X11_now_r hk_p0) dX11_undo_43 ?_
    refine r_iconst (v := 0) C0 dX11_undo_46 (by decide) ?_
    refine r_callSm C0 (st := []) [.ref (p0 + 5), .int ((121 : Int32) * (M2 p0 8)), .ref (p0 + 3), .int (0 : Int32)] hf vs_137 (fun hl r3 hr3 => c_X11_copyPage hl F (p0 + 5) 1694 ((121 : Int32) * (M2 p0 8)) (p0 + 3) 121 (0 : Int32) (K_X11_diary_k hk_p0) (K_X11_now_k hk_p0) M2 r3 hr3) rfl rfl (Nat.le_of_ble_eq_true rfl) dX11_undo_47 (zrm_ok rfl) (fun r3 hr3 hf => ?_)
    refine r_aload_n C0 dX11_undo_50 rfl 0 rfl ?_
    refine r_getI C0 (C := RX11) (T := TX11) cl_X11 (K_X11_o hk_p0) (k := 8) (by decide) qw_582 rfl dX11_undo_51 ?_
    obtain rfl := Option.some.inj hf
    exact r_iret C0 dX11_undo_54
  · refine r_iconst (v := 0) C0 dX11_undo_19 (by decide) ?_
    obtain rfl := Option.some.inj hf
    exact r_iret C0 dX11_undo_20
set_option maxHeartbeats 4000000 in
set_option maxRecDepth 100000 in
theorem c_X11_undo {l : Launch} {E : zEn} {S : zSk} {X : zMl} {Z : Nat → Prop} (hl : l.stackTraces = false) (F : Nat) (p0 : Nat) (hk_p0 : K_X11 S p0) (M : zMi) (r : Int32 × zMi) (hf : f_X11_undo F p0 M = some r) : zM l E yX11_undo cX11_undo 1 (Option.some Jvm.ClassFile.FieldType.int) { frames := 1, cells := 0, slots := 0, locals := 24 } 0 0 [.ref p0] S Z M X S Z (some (.int r.1)) r.2 X := by
  refine zM.intro (L0 := [(0, .ref p0)]) hl (by decide) (Nat.le_of_ble_eq_true rfl) rfl (fun Γ C0 _ => ?_)
  unfold f_X11_undo at hf
  refine r_aload_n C0 dX11_undo_0 rfl 0 rfl ?_
  refine r_aload_n C0 dX11_undo_1 rfl 0 rfl ?_
  refine r_getI C0 (C := RX11) (T := TX11) cl_X11 (K_X11_o hk_p0) (k := 8) (by decide) qw_582 rfl dX11_undo_2 ?_
  refine r_if_ne C0 12 dX11_undo_5 (by decide) hf (fun hf => ?_) (fun hf => ?_)
  · refine r_iconst (v := 0) C0 dX11_undo_12 (by decide) ?_
    refine r_sub (L' := [(0, .ref p0)]) [0] rfl ?_
    exact g_X11_undo_13 C0 F p0 hk_p0 (0 : Int32) M _  hf
  · refine r_iconst (v := 1) C0 dX11_undo_8 (by decide) ?_
    refine r_goto C0 13 dX11_undo_9 (by decide) ?_
    refine r_sub (L' := [(0, .ref p0)]) [0] rfl ?_
    exact g_X11_undo_13 C0 F p0 hk_p0 (1 : Int32) M _  hf
set_option maxHeartbeats 4000000 in
set_option maxRecDepth 100000 in
theorem g_X11_needs_33 {Γ : zCx} {E : zEn} {S : zSk} {X : zMl} {Z : Nat → Prop} (C0 : zCt Γ E RX11 cX11_needs 3 (Option.some Jvm.ClassFile.FieldType.int) [] { frames := 2, cells := 0, slots := 0, locals := 46 }) (F : Nat) (p0 : Nat) (p1 : Int32) (p2 : Int32) (hk_p0 : K_X11 S p0) (s0 : Int32) (M : zMi) (r : Int32 × zMi)  (hf : f_X11_needs_33 F p0 p1 p2 s0 M = some r) : zG Γ (zQ Γ E 0 0 S Z (some (.int r.1)) r.2 X) E 3 0 0 S Z M X 33 [(0, .ref p0), (1, .int p1), (2, .int p2)] [.int s0, .ref p0] := by
  unfold f_X11_needs_33 at hf
  refine r_callVim C0 (st := []) [.int s0] p0 hf vs_131 (fun hl r1 hr1 => c_X11_refused hl F p0 s0 hk_p0 M r1 hr1) (K_X11_o hk_p0) rfl rfl rfl rfl (Nat.le_of_ble_eq_true rfl) dX11_needs_33 (zrm_ok rfl) (fun r1 hr1 hf => ?_)
  refine r_if_eq C0 43 dX11_needs_36 (by decide) hf (fun hf => ?_) (fun hf => ?_)
  · refine r_aload_n C0 dX11_needs_43 rfl 0 rfl ?_
    refine r_getR C0 (C := RX11) (T := TX11) cl_X11 (K_X11_o hk_p0) (k := 5) (by decide) qw_578 rfl (K_X11_now_r hk_p0) dX11_needs_44 ?_
    refine r_iload_n C0 dX11_needs_47 rfl 1 rfl ?_
    refine r_iload_n C0 dX11_needs_48 rfl 2 rfl ?_
    refine r_callSi C0 (st := []) [.ref (p0 + 3), .int p1, .int p2] hf vs_114 (fun hl r2 hr2 => c_X11_needOf hl F (p0 + 3) p1 p2 (K_X11_now_k hk_p0) r1.2 r2 hr2) rfl rfl (Nat.le_of_ble_eq_true rfl) dX11_needs_49 (zrm_ok rfl) (fun r2 hr2 hf => ?_)
    obtain rfl := Option.some.inj hf
    exact r_iret C0 dX11_needs_52
  · refine r_iconst (v := 0) C0 dX11_needs_39 (by decide) ?_
    refine r_goto C0 52 dX11_needs_40 (by decide) ?_
    obtain rfl := Option.some.inj hf
    exact r_iret C0 dX11_needs_52
set_option maxHeartbeats 4000000 in
set_option maxRecDepth 100000 in
theorem c_X11_needs {l : Launch} {E : zEn} {S : zSk} {X : zMl} {Z : Nat → Prop} (hl : l.stackTraces = false) (F : Nat) (p0 : Nat) (p1 : Int32) (p2 : Int32) (hk_p0 : K_X11 S p0) (M : zMi) (r : Int32 × zMi) (hf : f_X11_needs F p0 p1 p2 M = some r) : zM l E yX11_needs cX11_needs 3 (Option.some Jvm.ClassFile.FieldType.int) { frames := 2, cells := 0, slots := 0, locals := 46 } 0 0 [.ref p0, .int p1, .int p2] S Z M X S Z (some (.int r.1)) r.2 X := by
  refine zM.intro (L0 := [(0, .ref p0), (1, .int p1), (2, .int p2)]) hl (by decide) (Nat.le_of_ble_eq_true rfl) rfl (fun Γ C0 _ => ?_)
  unfold f_X11_needs at hf
  refine r_aload_n C0 dX11_needs_0 rfl 0 rfl ?_
  refine r_aload_n C0 dX11_needs_1 rfl 0 rfl ?_
  refine r_getR C0 (C := RX11) (T := TX11) cl_X11 (K_X11_o hk_p0) (k := 5) (by decide) qw_578 rfl (K_X11_now_r hk_p0) dX11_needs_2 ?_
  refine r_iload_n C0 dX11_needs_5 rfl 1 rfl ?_
  refine r_callSi C0 (st := [.ref p0]) [.ref (p0 + 3), .int p1] hf vs_138 (fun hl r1 hr1 => c_X11_isZone hl F (p0 + 3) p1 (K_X11_now_k hk_p0) M r1 hr1) rfl rfl (Nat.le_of_ble_eq_true rfl) dX11_needs_6 (zrm_ok rfl) (fun r1 hr1 hf => ?_)
  refine r_if_ne C0 16 dX11_needs_9 (by decide) hf (fun hf => ?_) (fun hf => ?_)
  · refine r_iload_n C0 dX11_needs_16 rfl 2 rfl ?_
    refine r_i2l C0 dX11_needs_17 ?_
    refine r_lconst (v := 0) C0 dX11_needs_18 (by decide) ?_
    refine r_ldc2 (v := 99) C0 qw_615 dX11_needs_19 ?_
    refine r_callSi C0 (st := [.ref p0]) [.long ((p2).toInt64), .long (0 : Int64), .long (99 : Int64)] hf vs_112 (fun hl r2 hr2 => c_X11_in hl F ((p2).toInt64) (0 : Int64) (99 : Int64) M r2 hr2) rfl rfl (Nat.le_of_ble_eq_true rfl) dX11_needs_22 (zrm_ok rfl) (fun r2 hr2 hf => ?_)
    refine r_if_ne C0 32 dX11_needs_25 (by decide) hf (fun hf => ?_) (fun hf => ?_)
    · refine r_iconst (v := 0) C0 dX11_needs_32 (by decide) ?_
      refine r_sub (L' := [(0, .ref p0), (1, .int p1), (2, .int p2)]) [0, 1, 2] rfl ?_
      exact g_X11_needs_33 C0 F p0 p1 p2 hk_p0 (0 : Int32) M _  hf
    · refine r_iconst (v := 2) C0 dX11_needs_28 (by decide) ?_
      refine r_goto C0 33 dX11_needs_29 (by decide) ?_
      refine r_sub (L' := [(0, .ref p0), (1, .int p1), (2, .int p2)]) [0, 1, 2] rfl ?_
      exact g_X11_needs_33 C0 F p0 p1 p2 hk_p0 (2 : Int32) M _  hf
  · refine r_iconst (v := 1) C0 dX11_needs_12 (by decide) ?_
    refine r_goto C0 33 dX11_needs_13 (by decide) ?_
    refine r_sub (L' := [(0, .ref p0), (1, .int p1), (2, .int p2)]) [0, 1, 2] rfl ?_
    exact g_X11_needs_33 C0 F p0 p1 p2 hk_p0 (1 : Int32) M _  hf
set_option maxHeartbeats 4000000 in
set_option maxRecDepth 100000 in
theorem g_X11_reach_28 {Γ : zCx} {E : zEn} {S : zSk} {X : zMl} {Z : Nat → Prop} (C0 : zCt Γ E RX11 cX11_reach 3 (Option.some Jvm.ClassFile.FieldType.int) [] { frames := 3, cells := 0, slots := 0, locals := 66 }) (F : Nat) (p0 : Nat) (p1 : Int32) (p2 : Int32) (hk_p0 : K_X11 S p0) (s0 : Int32) (M : zMi) (r : Int32 × zMi)  (hf : f_X11_reach_28 F p0 p1 p2 s0 M = some r) : zG Γ (zQ Γ E 0 0 S Z (some (.int r.1)) r.2 X) E 3 0 0 S Z M X 28 [(0, .ref p0), (1, .int p1), (2, .int p2)] [.int s0, .ref p0] := by
  unfold f_X11_reach_28 at hf
  refine r_callVim C0 (st := []) [.int s0] p0 hf vs_131 (fun hl r1 hr1 => c_X11_refused hl F p0 s0 hk_p0 M r1 hr1) (K_X11_o hk_p0) rfl rfl rfl rfl (Nat.le_of_ble_eq_true rfl) dX11_reach_28 (zrm_ok rfl) (fun r1 hr1 hf => ?_)
  refine r_if_eq C0 38 dX11_reach_31 (by decide) hf (fun hf => ?_) (fun hf => ?_)
  · refine r_aload_n C0 dX11_reach_38 rfl 0 rfl ?_
    refine r_getR C0 (C := RX11) (T := TX11) cl_X11 (K_X11_o hk_p0) (k := 5) (by decide) qw_578 rfl (K_X11_now_r hk_p0) dX11_reach_39 ?_
    refine r_iload_n C0 dX11_reach_42 rfl 1 rfl ?_
    refine r_iload_n C0 dX11_reach_43 rfl 2 rfl ?_
    refine r_aload_n C0 dX11_reach_44 rfl 0 rfl ?_
    refine r_getR C0 (C := RX11) (T := TX11) cl_X11 (K_X11_o hk_p0) (k := 5) (by decide) qw_578 rfl (K_X11_now_r hk_p0) dX11_reach_45 ?_
    refine r_iload_n C0 dX11_reach_48 rfl 2 rfl ?_
    refine r_callSi C0 (st := [.ref (p0 + 3), .int p2, .int p1, .ref (p0 + 3)]) [.int p2] hf vs_113 (fun hl r2 hr2 => c_X11_zoneAt hl F p2 r1.2 r2 hr2) rfl rfl (Nat.le_of_ble_eq_true rfl) dX11_reach_49 (zrm_ok rfl) (fun r2 hr2 hf => ?_)
    refine r_iald C0 (K_X11_now_k hk_p0) hf dX11_reach_52 (fun hf => ?_)
    refine r_callSi C0 (st := []) [.ref (p0 + 3), .int p1, .int p2, .int (r1.2 (p0 + 3) (ix r2))] hf vs_118 (fun hl r3 hr3 => c_X11_mostOf hl F (p0 + 3) p1 p2 (r1.2 (p0 + 3) (ix r2)) (K_X11_now_k hk_p0) r1.2 r3 hr3) rfl rfl (Nat.le_of_ble_eq_true rfl) dX11_reach_53 (zrm_ok rfl) (fun r3 hr3 hf => ?_)
    obtain rfl := Option.some.inj hf
    exact r_iret C0 dX11_reach_56
  · refine r_iconst (v := 0) C0 dX11_reach_34 (by decide) ?_
    refine r_goto C0 56 dX11_reach_35 (by decide) ?_
    obtain rfl := Option.some.inj hf
    exact r_iret C0 dX11_reach_56
set_option maxHeartbeats 4000000 in
set_option maxRecDepth 100000 in
theorem c_X11_reach {l : Launch} {E : zEn} {S : zSk} {X : zMl} {Z : Nat → Prop} (hl : l.stackTraces = false) (F : Nat) (p0 : Nat) (p1 : Int32) (p2 : Int32) (hk_p0 : K_X11 S p0) (M : zMi) (r : Int32 × zMi) (hf : f_X11_reach F p0 p1 p2 M = some r) : zM l E yX11_reach cX11_reach 3 (Option.some Jvm.ClassFile.FieldType.int) { frames := 3, cells := 0, slots := 0, locals := 66 } 0 0 [.ref p0, .int p1, .int p2] S Z M X S Z (some (.int r.1)) r.2 X := by
  refine zM.intro (L0 := [(0, .ref p0), (1, .int p1), (2, .int p2)]) hl (by decide) (Nat.le_of_ble_eq_true rfl) rfl (fun Γ C0 _ => ?_)
  unfold f_X11_reach at hf
  refine r_aload_n C0 dX11_reach_0 rfl 0 rfl ?_
  refine r_aload_n C0 dX11_reach_1 rfl 0 rfl ?_
  refine r_getR C0 (C := RX11) (T := TX11) cl_X11 (K_X11_o hk_p0) (k := 5) (by decide) qw_578 rfl (K_X11_now_r hk_p0) dX11_reach_2 ?_
  refine r_iload_n C0 dX11_reach_5 rfl 1 rfl ?_
  refine r_callSi C0 (st := [.ref p0]) [.ref (p0 + 3), .int p1] hf vs_139 (fun hl r1 hr1 => c_X11_isShip hl F (p0 + 3) p1 (K_X11_now_k hk_p0) M r1 hr1) rfl rfl (Nat.le_of_ble_eq_true rfl) dX11_reach_6 (zrm_ok rfl) (fun r1 hr1 hf => ?_)
  refine r_if_eq C0 27 dX11_reach_9 (by decide) hf (fun hf => ?_) (fun hf => ?_)
  · refine r_iconst (v := 1) C0 dX11_reach_27 (by decide) ?_
    refine r_sub (L' := [(0, .ref p0), (1, .int p1), (2, .int p2)]) [0, 1, 2] rfl ?_
    exact g_X11_reach_28 C0 F p0 p1 p2 hk_p0 (1 : Int32) M _  hf
  · refine r_aload_n C0 dX11_reach_12 rfl 0 rfl ?_
    refine r_getR C0 (C := RX11) (T := TX11) cl_X11 (K_X11_o hk_p0) (k := 5) (by decide) qw_578 rfl (K_X11_now_r hk_p0) dX11_reach_13 ?_
    refine r_iload_n C0 dX11_reach_16 rfl 2 rfl ?_
    refine r_callSi C0 (st := [.ref p0]) [.ref (p0 + 3), .int p2] hf vs_138 (fun hl r2 hr2 => c_X11_isZone hl F (p0 + 3) p2 (K_X11_now_k hk_p0) M r2 hr2) rfl rfl (Nat.le_of_ble_eq_true rfl) dX11_reach_17 (zrm_ok rfl) (fun r2 hr2 hf => ?_)
    refine r_if_eq C0 27 dX11_reach_20 (by decide) hf (fun hf => ?_) (fun hf => ?_)
    · refine r_iconst (v := 1) C0 dX11_reach_27 (by decide) ?_
      refine r_sub (L' := [(0, .ref p0), (1, .int p1), (2, .int p2)]) [0, 1, 2] rfl ?_
      exact g_X11_reach_28 C0 F p0 p1 p2 hk_p0 (1 : Int32) M _  hf
    · refine r_iconst (v := 0) C0 dX11_reach_23 (by decide) ?_
      refine r_goto C0 28 dX11_reach_24 (by decide) ?_
      refine r_sub (L' := [(0, .ref p0), (1, .int p1), (2, .int p2)]) [0, 1, 2] rfl ?_
      exact g_X11_reach_28 C0 F p0 p1 p2 hk_p0 (0 : Int32) M _  hf
set_option maxHeartbeats 4000000 in
set_option maxRecDepth 100000 in
theorem g_X11_calmDays_73 {Γ : zCx} {E : zEn} {S : zSk} {X : zMl} {Z : Nat → Prop} (C0 : zCt Γ E RX11 cX11_calmDays 6 (Option.some Jvm.ClassFile.FieldType.int) [] { frames := 2, cells := 0, slots := 0, locals := 46 }) (F : Nat) (p0 : Nat) (p1 : Int32) (p2 : Int32) (hk_p0 : K_X11 S p0) : ∀ (n : Nat) (v4 : Int32) (v5 : Int32) (M : zMi) (r : Int32 × zMi) , f_X11_calmDays_73 F p0 p1 p2 n v4 v5 M = some r → zG Γ (zQ Γ E 0 0 S Z (some (.int r.1)) r.2 X) E 6 0 0 S Z M X 73 [(0, .ref p0), (1, .int p1), (2, .int p2), (4, .int v4), (5, .int v5)] [] := by
  intro n
  induction n with
  | zero => intro v4 v5 M r; intro hf; cases hf
  | succ n ih =>
    intro v4 v5 M r hf
    refine r_iload C0 dX11_calmDays_73 4 rfl ?_
    refine r_aload_n C0 dX11_calmDays_75 rfl 0 rfl ?_
    refine r_getR C0 (C := RX11) (T := TX11) cl_X11 (K_X11_o hk_p0) (k := 5) (by decide) qw_578 rfl (K_X11_now_r hk_p0) dX11_calmDays_76 ?_
    refine r_iload_n C0 dX11_calmDays_79 rfl 2 rfl ?_
    refine r_callSi C0 (st := [.ref (p0 + 3), .int v5]) [.int p2] hf vs_113 (fun hl r1 hr1 => c_X11_zoneAt hl F p2 M r1 hr1) rfl rfl (Nat.le_of_ble_eq_true rfl) dX11_calmDays_80 (zrm_ok rfl) (fun r1 hr1 hf => ?_)
    refine r_iconst (v := 2) C0 dX11_calmDays_83 (by decide) ?_
    refine r_iadd C0 dX11_calmDays_84 ?_
    refine r_iald C0 (K_X11_now_k hk_p0) hf dX11_calmDays_85 (fun hf => ?_)
    refine r_icmp_gt C0 128 dX11_calmDays_86 (by decide) hf (fun hf => ?_) (fun hf => ?_)
    · refine r_iload C0 dX11_calmDays_128 3 rfl ?_
      obtain rfl := Option.some.inj hf
      exact r_iret C0 dX11_calmDays_130
    · refine r_iload C0 dX11_calmDays_89 3 rfl ?_
      refine r_aload_n C0 dX11_calmDays_91 rfl 0 rfl ?_
      refine r_getR C0 (C := RX11) (T := TX11) cl_X11 (K_X11_o hk_p0) (k := 5) (by decide) qw_578 rfl (K_X11_now_r hk_p0) dX11_calmDays_92 ?_
      refine r_iload C0 dX11_calmDays_95 4 rfl ?_
      refine r_callSi C0 (st := [.int v4]) [.ref (p0 + 3), .int v5] hf vs_121 (fun hl r2 hr2 => c_X11_wavesOf hl F (p0 + 3) v5 (K_X11_now_k hk_p0) M r2 hr2) rfl rfl (Nat.le_of_ble_eq_true rfl) dX11_calmDays_97 (zrm_ok rfl) (fun r2 hr2 hf => ?_)
      refine r_aload_n C0 dX11_calmDays_100 rfl 0 rfl ?_
      refine r_getR C0 (C := RX11) (T := TX11) cl_X11 (K_X11_o hk_p0) (k := 5) (by decide) qw_578 rfl (K_X11_now_r hk_p0) dX11_calmDays_101 ?_
      refine r_iload_n C0 dX11_calmDays_104 rfl 1 rfl ?_
      refine r_callSi C0 (st := [.ref (p0 + 3), .int r2, .int v4]) [.int p1] hf vs_115 (fun hl r3 hr3 => c_X11_shipAt hl F p1 M r3 hr3) rfl rfl (Nat.le_of_ble_eq_true rfl) dX11_calmDays_105 (zrm_ok rfl) (fun r3 hr3 hf => ?_)
      refine r_iconst (v := 2) C0 dX11_calmDays_108 (by decide) ?_
      refine r_iadd C0 dX11_calmDays_109 ?_
      refine r_iald C0 (K_X11_now_k hk_p0) hf dX11_calmDays_110 (fun hf => ?_)
      refine r_icmp_gt C0 118 dX11_calmDays_111 (by decide) hf (fun hf => ?_) (fun hf => ?_)
      · refine r_iconst (v := 0) C0 dX11_calmDays_118 (by decide) ?_
        refine r_iadd C0 dX11_calmDays_119 ?_
        refine r_nm hf (fun x4 hf => ?_)
        refine r_istore (L' := [(4, .int x4), (0, .ref p0), (1, .int p1), (2, .int p2), (5, .int v5)]) C0 dX11_calmDays_120 (by decide) rfl ?_
        refine r_iinc (j := 4) (v := (v5 + (1 : Int32))) (L' := [(5, .int (v5 + (1 : Int32))), (4, .int x4), (0, .ref p0), (1, .int p1), (2, .int p2)]) C0 dX11_calmDays_122 rfl rfl (by decide) rfl ?_
        refine r_goto C0 73 dX11_calmDays_125 (by decide) ?_
        refine r_sub (L' := [(0, .ref p0), (1, .int p1), (2, .int p2), (4, .int x4), (5, .int (v5 + (1 : Int32)))]) [2, 3, 4, 1, 0] rfl ?_
        exact ih x4 (v5 + (1 : Int32)) M _  hf
      · refine r_iconst (v := 1) C0 dX11_calmDays_114 (by decide) ?_
        refine r_goto C0 119 dX11_calmDays_115 (by decide) ?_
        refine r_iadd C0 dX11_calmDays_119 ?_
        refine r_nm hf (fun x5 hf => ?_)
        refine r_istore (L' := [(4, .int x5), (0, .ref p0), (1, .int p1), (2, .int p2), (5, .int v5)]) C0 dX11_calmDays_120 (by decide) rfl ?_
        refine r_iinc (j := 4) (v := (v5 + (1 : Int32))) (L' := [(5, .int (v5 + (1 : Int32))), (4, .int x5), (0, .ref p0), (1, .int p1), (2, .int p2)]) C0 dX11_calmDays_122 rfl rfl (by decide) rfl ?_
        refine r_goto C0 73 dX11_calmDays_125 (by decide) ?_
        refine r_sub (L' := [(0, .ref p0), (1, .int p1), (2, .int p2), (4, .int x5), (5, .int (v5 + (1 : Int32)))]) [2, 3, 4, 1, 0] rfl ?_
        exact ih x5 (v5 + (1 : Int32)) M _  hf
set_option maxHeartbeats 4000000 in
set_option maxRecDepth 100000 in
theorem g_X11_calmDays_28 {Γ : zCx} {E : zEn} {S : zSk} {X : zMl} {Z : Nat → Prop} (C0 : zCt Γ E RX11 cX11_calmDays 6 (Option.some Jvm.ClassFile.FieldType.int) [] { frames := 2, cells := 0, slots := 0, locals := 46 }) (F : Nat) (p0 : Nat) (p1 : Int32) (p2 : Int32) (hk_p0 : K_X11 S p0) (s0 : Int32) (M : zMi) (r : Int32 × zMi)  (hf : f_X11_calmDays_28 F p0 p1 p2 s0 M = some r) : zG Γ (zQ Γ E 0 0 S Z (some (.int r.1)) r.2 X) E 6 0 0 S Z M X 28 [(0, .ref p0), (1, .int p1), (2, .int p2)] [.int s0, .ref p0] := by
  unfold f_X11_calmDays_28 at hf
  refine r_callVim C0 (st := []) [.int s0] p0 hf vs_131 (fun hl r1 hr1 => c_X11_refused hl F p0 s0 hk_p0 M r1 hr1) (K_X11_o hk_p0) rfl rfl rfl rfl (Nat.le_of_ble_eq_true rfl) dX11_calmDays_28 (zrm_ok rfl) (fun r1 hr1 hf => ?_)
  refine r_if_eq C0 36 dX11_calmDays_31 (by decide) hf (fun hf => ?_) (fun hf => ?_)
  · refine r_aload_n C0 dX11_calmDays_36 rfl 0 rfl ?_
    refine r_getR C0 (C := RX11) (T := TX11) cl_X11 (K_X11_o hk_p0) (k := 5) (by decide) qw_578 rfl (K_X11_now_r hk_p0) dX11_calmDays_37 ?_
    refine r_iload_n C0 dX11_calmDays_40 rfl 2 rfl ?_
    refine r_callSi C0 (st := [.ref (p0 + 3)]) [.int p2] hf vs_113 (fun hl r2 hr2 => c_X11_zoneAt hl F p2 r1.2 r2 hr2) rfl rfl (Nat.le_of_ble_eq_true rfl) dX11_calmDays_41 (zrm_ok rfl) (fun r2 hr2 hf => ?_)
    refine r_iconst (v := 1) C0 dX11_calmDays_44 (by decide) ?_
    refine r_iadd C0 dX11_calmDays_45 ?_
    refine r_iald C0 (K_X11_now_k hk_p0) hf dX11_calmDays_46 (fun hf => ?_)
    refine r_nm hf (fun x3 hf => ?_)
    refine r_istore_n (L' := [(3, .int x3), (0, .ref p0), (1, .int p1), (2, .int p2)]) C0 dX11_calmDays_47 rfl (by decide) rfl ?_
    refine r_iconst (v := 0) C0 dX11_calmDays_48 (by decide) ?_
    refine r_istore (L' := [(4, .int (0 : Int32)), (3, .int x3), (0, .ref p0), (1, .int p1), (2, .int p2)]) C0 dX11_calmDays_49 (by decide) rfl ?_
    refine r_iload_n C0 dX11_calmDays_51 rfl 1 rfl ?_
    refine r_aload_n C0 dX11_calmDays_52 rfl 2 rfl ?_
    refine r_getR C0 (C := RX11) (T := TX11) cl_X11 (K_X11_o hk_p0) (k := 5) (by decide) qw_578 rfl (K_X11_now_r hk_p0) dX11_calmDays_53 ?_
    refine r_iconst (v := 3) C0 dX11_calmDays_56 (by decide) ?_
    refine r_iald' (j := 3) C0 (K_X11_now_k hk_p0) rfl rfl dX11_calmDays_57 ?_
    refine r_icmp_ge C0 70 dX11_calmDays_58 (by decide) hf (fun hf => ?_) (fun hf => ?_)
    · refine r_iload_n C0 dX11_calmDays_70 rfl 1 rfl ?_
      refine r_istore (L' := [(5, .int x3), (4, .int (0 : Int32)), (3, .int x3), (0, .ref p0), (1, .int p1), (2, .int p2)]) C0 dX11_calmDays_71 (by decide) rfl ?_
      refine r_sub (L' := [(0, .ref p0), (1, .int p1), (2, .int p2), (4, .int (0 : Int32)), (5, .int x3)]) [3, 4, 5, 1, 0] rfl ?_
      exact g_X11_calmDays_73 C0 F p0 p1 p2 hk_p0 F (0 : Int32) x3 r1.2 _  hf
    · refine r_aload_n C0 dX11_calmDays_61 rfl 2 rfl ?_
      refine r_getR C0 (C := RX11) (T := TX11) cl_X11 (K_X11_o hk_p0) (k := 5) (by decide) qw_578 rfl (K_X11_now_r hk_p0) dX11_calmDays_62 ?_
      refine r_iconst (v := 3) C0 dX11_calmDays_65 (by decide) ?_
      refine r_iald' (j := 3) C0 (K_X11_now_k hk_p0) rfl rfl dX11_calmDays_66 ?_
      refine r_goto C0 71 dX11_calmDays_67 (by decide) ?_
      refine r_nm hf (fun x4 hf => ?_)
      refine r_istore (L' := [(5, .int x4), (4, .int (0 : Int32)), (3, .int x3), (0, .ref p0), (1, .int p1), (2, .int p2)]) C0 dX11_calmDays_71 (by decide) rfl ?_
      refine r_sub (L' := [(0, .ref p0), (1, .int p1), (2, .int p2), (4, .int (0 : Int32)), (5, .int x4)]) [3, 4, 5, 1, 0] rfl ?_
      exact g_X11_calmDays_73 C0 F p0 p1 p2 hk_p0 F (0 : Int32) x4 r1.2 _  hf
  · refine r_iconst (v := 0) C0 dX11_calmDays_34 (by decide) ?_
    obtain rfl := Option.some.inj hf
    exact r_iret C0 dX11_calmDays_35
set_option maxHeartbeats 4000000 in
set_option maxRecDepth 100000 in
theorem c_X11_calmDays {l : Launch} {E : zEn} {S : zSk} {X : zMl} {Z : Nat → Prop} (hl : l.stackTraces = false) (F : Nat) (p0 : Nat) (p1 : Int32) (p2 : Int32) (hk_p0 : K_X11 S p0) (M : zMi) (r : Int32 × zMi) (hf : f_X11_calmDays F p0 p1 p2 M = some r) : zM l E yX11_calmDays cX11_calmDays 6 (Option.some Jvm.ClassFile.FieldType.int) { frames := 2, cells := 0, slots := 0, locals := 46 } 0 0 [.ref p0, .int p1, .int p2] S Z M X S Z (some (.int r.1)) r.2 X := by
  refine zM.intro (L0 := [(0, .ref p0), (1, .int p1), (2, .int p2)]) hl (by decide) (Nat.le_of_ble_eq_true rfl) rfl (fun Γ C0 _ => ?_)
  unfold f_X11_calmDays at hf
  refine r_aload_n C0 dX11_calmDays_0 rfl 0 rfl ?_
  refine r_aload_n C0 dX11_calmDays_1 rfl 0 rfl ?_
  refine r_getR C0 (C := RX11) (T := TX11) cl_X11 (K_X11_o hk_p0) (k := 5) (by decide) qw_578 rfl (K_X11_now_r hk_p0) dX11_calmDays_2 ?_
  refine r_iload_n C0 dX11_calmDays_5 rfl 1 rfl ?_
  refine r_callSi C0 (st := [.ref p0]) [.ref (p0 + 3), .int p1] hf vs_139 (fun hl r1 hr1 => c_X11_isShip hl F (p0 + 3) p1 (K_X11_now_k hk_p0) M r1 hr1) rfl rfl (Nat.le_of_ble_eq_true rfl) dX11_calmDays_6 (zrm_ok rfl) (fun r1 hr1 hf => ?_)
  refine r_if_eq C0 27 dX11_calmDays_9 (by decide) hf (fun hf => ?_) (fun hf => ?_)
  · refine r_iconst (v := 1) C0 dX11_calmDays_27 (by decide) ?_
    refine r_sub (L' := [(0, .ref p0), (1, .int p1), (2, .int p2)]) [0, 1, 2] rfl ?_
    exact g_X11_calmDays_28 C0 F p0 p1 p2 hk_p0 (1 : Int32) M _  hf
  · refine r_aload_n C0 dX11_calmDays_12 rfl 0 rfl ?_
    refine r_getR C0 (C := RX11) (T := TX11) cl_X11 (K_X11_o hk_p0) (k := 5) (by decide) qw_578 rfl (K_X11_now_r hk_p0) dX11_calmDays_13 ?_
    refine r_iload_n C0 dX11_calmDays_16 rfl 2 rfl ?_
    refine r_callSi C0 (st := [.ref p0]) [.ref (p0 + 3), .int p2] hf vs_138 (fun hl r2 hr2 => c_X11_isZone hl F (p0 + 3) p2 (K_X11_now_k hk_p0) M r2 hr2) rfl rfl (Nat.le_of_ble_eq_true rfl) dX11_calmDays_17 (zrm_ok rfl) (fun r2 hr2 hf => ?_)
    refine r_if_eq C0 27 dX11_calmDays_20 (by decide) hf (fun hf => ?_) (fun hf => ?_)
    · refine r_iconst (v := 1) C0 dX11_calmDays_27 (by decide) ?_
      refine r_sub (L' := [(0, .ref p0), (1, .int p1), (2, .int p2)]) [0, 1, 2] rfl ?_
      exact g_X11_calmDays_28 C0 F p0 p1 p2 hk_p0 (1 : Int32) M _  hf
    · refine r_iconst (v := 0) C0 dX11_calmDays_23 (by decide) ?_
      refine r_goto C0 28 dX11_calmDays_24 (by decide) ?_
      refine r_sub (L' := [(0, .ref p0), (1, .int p1), (2, .int p2)]) [0, 1, 2] rfl ?_
      exact g_X11_calmDays_28 C0 F p0 p1 p2 hk_p0 (0 : Int32) M _  hf
set_option maxHeartbeats 4000000 in
set_option maxRecDepth 100000 in
theorem g_X11_ahead_30 {Γ : zCx} {E : zEn} {S : zSk} {X : zMl} {Z : Nat → Prop} (C0 : zCt Γ E RX11 cX11_ahead 4 (Option.some Jvm.ClassFile.FieldType.int) [] { frames := 7, cells := 0, slots := 0, locals := 166 }) (F : Nat) (p0 : Nat) (p1 : Int32) (p2 : Int32) (hk_p0 : K_X11 S p0) (s0 : Int32) (M : zMi) (r : Int32 × zMi)  (hf : f_X11_ahead_30 F p0 p1 p2 s0 M = some r) : zG Γ (zQ Γ E 0 0 S Z (some (.int r.1)) r.2 X) E 4 0 0 S Z M X 30 [(0, .ref p0), (1, .int p1), (2, .int p2)] [.int s0, .ref p0] := by
  unfold f_X11_ahead_30 at hf
  refine r_callVim C0 (st := []) [.int s0] p0 hf vs_131 (fun hl r1 hr1 => c_X11_refused hl F p0 s0 hk_p0 M r1 hr1) (K_X11_o hk_p0) rfl rfl rfl rfl (Nat.le_of_ble_eq_true rfl) dX11_ahead_30 (zrm_ok rfl) (fun r1 hr1 hf => ?_)
  refine r_if_eq C0 38 dX11_ahead_33 (by decide) hf (fun hf => ?_) (fun hf => ?_)
  · refine r_aload_n C0 dX11_ahead_38 rfl 0 rfl ?_
    refine r_getR C0 (C := RX11) (T := TX11) cl_X11 (K_X11_o hk_p0) (k := 5) (by decide) qw_578 rfl (K_X11_now_r hk_p0) dX11_ahead_39 ?_
    refine r_iconst (v := 0) C0 dX11_ahead_42 (by decide) ?_
    refine r_aload_n C0 dX11_ahead_43 rfl 0 rfl ?_
    refine r_getR C0 (C := RX11) (T := TX11) cl_X11 (K_X11_o hk_p0) (k := 6) (by decide) qw_625 rfl (K_X11_trial_r hk_p0) dX11_ahead_44 ?_
    refine r_iconst (v := 0) C0 dX11_ahead_47 (by decide) ?_
    refine r_callSm C0 (st := []) [.ref (p0 + 3), .int (0 : Int32), .ref (p0 + 4), .int (0 : Int32)] hf vs_137 (fun hl r2 hr2 => c_X11_copyPage hl F (p0 + 3) 121 (0 : Int32) (p0 + 4) 121 (0 : Int32) (K_X11_now_k hk_p0) (K_X11_trial_k hk_p0) r1.2 r2 hr2) rfl rfl (Nat.le_of_ble_eq_true rfl) dX11_ahead_48 (zrm_ok rfl) (fun r2 hr2 hf => ?_)
    refine r_aload_n C0 dX11_ahead_51 rfl 0 rfl ?_
    refine r_getR C0 (C := RX11) (T := TX11) cl_X11 (K_X11_o hk_p0) (k := 6) (by decide) qw_625 rfl (K_X11_trial_r hk_p0) dX11_ahead_52 ?_
    refine r_iload_n C0 dX11_ahead_55 rfl 1 rfl ?_
    refine r_callSim C0 (st := []) [.ref (p0 + 4), .int p1] hf vs_148 (fun hl r3 hr3 => c_X11_daysOn hl F (p0 + 4) p1 (K_X11_trial_k hk_p0) r2 r3 hr3) rfl rfl (Nat.le_of_ble_eq_true rfl) dX11_ahead_56 (zrm_ok rfl) (fun r3 hr3 hf => ?_)
    refine r_istore_n (L' := [(3, .int r3.1), (0, .ref p0), (1, .int p1), (2, .int p2)]) C0 dX11_ahead_59 rfl (by decide) rfl ?_
    refine r_iload_n C0 dX11_ahead_60 rfl 3 rfl ?_
    refine r_if_ne C0 68 dX11_ahead_61 (by decide) hf (fun hf => ?_) (fun hf => ?_)
    · refine r_iload_n C0 dX11_ahead_68 rfl 3 rfl ?_
      refine r_iconst (v := 1) C0 dX11_ahead_69 (by decide) ?_
      refine r_icmp_ne C0 83 dX11_ahead_70 (by decide) hf (fun hf => ?_) (fun hf => ?_)
      · refine r_iload_n C0 dX11_ahead_83 rfl 3 rfl ?_
        refine r_iconst (v := 2) C0 dX11_ahead_84 (by decide) ?_
        refine r_icmp_ne C0 106 dX11_ahead_85 (by decide) hf (fun hf => ?_) (fun hf => ?_)
        · refine r_iload_n C0 dX11_ahead_106 rfl 3 rfl ?_
          refine r_iconst (v := 3) C0 dX11_ahead_107 (by decide) ?_
          refine r_icmp_ne C0 129 dX11_ahead_108 (by decide) hf (fun hf => ?_) (fun hf => ?_)
          · refine r_aload_n C0 dX11_ahead_129 rfl 1 rfl ?_
            refine r_getR C0 (C := RX11) (T := TX11) cl_X11 (K_X11_o hk_p0) (k := 6) (by decide) qw_625 rfl (K_X11_trial_r hk_p0) dX11_ahead_130 ?_
            refine r_bipush (v := 9) C0 dX11_ahead_133 (by decide) ?_
            refine r_iald' (j := 9) C0 (K_X11_trial_k hk_p0) rfl rfl dX11_ahead_135 ?_
            obtain rfl := Option.some.inj hf
            exact r_iret C0 dX11_ahead_136
          · refine r_aload_n C0 dX11_ahead_111 rfl 1 rfl ?_
            refine r_getR C0 (C := RX11) (T := TX11) cl_X11 (K_X11_o hk_p0) (k := 6) (by decide) qw_625 rfl (K_X11_trial_r hk_p0) dX11_ahead_112 ?_
            refine r_bipush (v := 20) C0 dX11_ahead_115 (by decide) ?_
            refine r_iald' (j := 20) C0 (K_X11_trial_k hk_p0) rfl rfl dX11_ahead_117 ?_
            refine r_aload_n C0 dX11_ahead_118 rfl 1 rfl ?_
            refine r_getR C0 (C := RX11) (T := TX11) cl_X11 (K_X11_o hk_p0) (k := 5) (by decide) qw_578 rfl (K_X11_now_r hk_p0) dX11_ahead_119 ?_
            refine r_bipush (v := 20) C0 dX11_ahead_122 (by decide) ?_
            refine r_iald' (j := 20) C0 (K_X11_now_k hk_p0) rfl rfl dX11_ahead_124 ?_
            refine r_isub C0 dX11_ahead_125 ?_
            refine r_goto C0 136 dX11_ahead_126 (by decide) ?_
            obtain rfl := Option.some.inj hf
            exact r_iret C0 dX11_ahead_136
        · refine r_aload_n C0 dX11_ahead_88 rfl 1 rfl ?_
          refine r_getR C0 (C := RX11) (T := TX11) cl_X11 (K_X11_o hk_p0) (k := 6) (by decide) qw_625 rfl (K_X11_trial_r hk_p0) dX11_ahead_89 ?_
          refine r_bipush (v := 19) C0 dX11_ahead_92 (by decide) ?_
          refine r_iald' (j := 19) C0 (K_X11_trial_k hk_p0) rfl rfl dX11_ahead_94 ?_
          refine r_aload_n C0 dX11_ahead_95 rfl 1 rfl ?_
          refine r_getR C0 (C := RX11) (T := TX11) cl_X11 (K_X11_o hk_p0) (k := 5) (by decide) qw_578 rfl (K_X11_now_r hk_p0) dX11_ahead_96 ?_
          refine r_bipush (v := 19) C0 dX11_ahead_99 (by decide) ?_
          refine r_iald' (j := 19) C0 (K_X11_now_k hk_p0) rfl rfl dX11_ahead_101 ?_
          refine r_isub C0 dX11_ahead_102 ?_
          refine r_goto C0 136 dX11_ahead_103 (by decide) ?_
          obtain rfl := Option.some.inj hf
          exact r_iret C0 dX11_ahead_136
      · refine r_aload_n C0 dX11_ahead_73 rfl 1 rfl ?_
        refine r_getR C0 (C := RX11) (T := TX11) cl_X11 (K_X11_o hk_p0) (k := 6) (by decide) qw_625 rfl (K_X11_trial_r hk_p0) dX11_ahead_74 ?_
        refine r_bipush (v := 7) C0 dX11_ahead_77 (by decide) ?_
        refine r_iald' (j := 7) C0 (K_X11_trial_k hk_p0) rfl rfl dX11_ahead_79 ?_
        refine r_goto C0 136 dX11_ahead_80 (by decide) ?_
        obtain rfl := Option.some.inj hf
        exact r_iret C0 dX11_ahead_136
    · refine r_iload_n C0 dX11_ahead_64 rfl 0 rfl ?_
      refine r_goto C0 136 dX11_ahead_65 (by decide) ?_
      obtain rfl := Option.some.inj hf
      exact r_iret C0 dX11_ahead_136
  · refine r_iconst (v := 0) C0 dX11_ahead_36 (by decide) ?_
    obtain rfl := Option.some.inj hf
    exact r_iret C0 dX11_ahead_37
set_option maxHeartbeats 4000000 in
set_option maxRecDepth 100000 in
theorem c_X11_ahead {l : Launch} {E : zEn} {S : zSk} {X : zMl} {Z : Nat → Prop} (hl : l.stackTraces = false) (F : Nat) (p0 : Nat) (p1 : Int32) (p2 : Int32) (hk_p0 : K_X11 S p0) (M : zMi) (r : Int32 × zMi) (hf : f_X11_ahead F p0 p1 p2 M = some r) : zM l E yX11_ahead cX11_ahead 4 (Option.some Jvm.ClassFile.FieldType.int) { frames := 7, cells := 0, slots := 0, locals := 166 } 0 0 [.ref p0, .int p1, .int p2] S Z M X S Z (some (.int r.1)) r.2 X := by
  refine zM.intro (L0 := [(0, .ref p0), (1, .int p1), (2, .int p2)]) hl (by decide) (Nat.le_of_ble_eq_true rfl) rfl (fun Γ C0 _ => ?_)
  unfold f_X11_ahead at hf
  refine r_aload_n C0 dX11_ahead_0 rfl 0 rfl ?_
  refine r_iload_n C0 dX11_ahead_1 rfl 1 rfl ?_
  refine r_i2l C0 dX11_ahead_2 ?_
  refine r_lconst (v := 0) C0 dX11_ahead_3 (by decide) ?_
  refine r_ldc2 (v := 99) C0 qw_615 dX11_ahead_4 ?_
  refine r_callSi C0 (st := [.ref p0]) [.long ((p1).toInt64), .long (0 : Int64), .long (99 : Int64)] hf vs_112 (fun hl r1 hr1 => c_X11_in hl F ((p1).toInt64) (0 : Int64) (99 : Int64) M r1 hr1) rfl rfl (Nat.le_of_ble_eq_true rfl) dX11_ahead_7 (zrm_ok rfl) (fun r1 hr1 hf => ?_)
  refine r_if_eq C0 29 dX11_ahead_10 (by decide) hf (fun hf => ?_) (fun hf => ?_)
  · refine r_iconst (v := 1) C0 dX11_ahead_29 (by decide) ?_
    refine r_sub (L' := [(0, .ref p0), (1, .int p1), (2, .int p2)]) [0, 1, 2] rfl ?_
    exact g_X11_ahead_30 C0 F p0 p1 p2 hk_p0 (1 : Int32) M _  hf
  · refine r_iload_n C0 dX11_ahead_13 rfl 2 rfl ?_
    refine r_i2l C0 dX11_ahead_14 ?_
    refine r_lconst (v := 0) C0 dX11_ahead_15 (by decide) ?_
    refine r_ldc2 (v := 4) C0 qw_588 dX11_ahead_16 ?_
    refine r_callSi C0 (st := [.ref p0]) [.long ((p2).toInt64), .long (0 : Int64), .long (4 : Int64)] hf vs_112 (fun hl r2 hr2 => c_X11_in hl F ((p2).toInt64) (0 : Int64) (4 : Int64) M r2 hr2) rfl rfl (Nat.le_of_ble_eq_true rfl) dX11_ahead_19 (zrm_ok rfl) (fun r2 hr2 hf => ?_)
    refine r_if_eq C0 29 dX11_ahead_22 (by decide) hf (fun hf => ?_) (fun hf => ?_)
    · refine r_iconst (v := 1) C0 dX11_ahead_29 (by decide) ?_
      refine r_sub (L' := [(0, .ref p0), (1, .int p1), (2, .int p2)]) [0, 1, 2] rfl ?_
      exact g_X11_ahead_30 C0 F p0 p1 p2 hk_p0 (1 : Int32) M _  hf
    · refine r_iconst (v := 0) C0 dX11_ahead_25 (by decide) ?_
      refine r_goto C0 30 dX11_ahead_26 (by decide) ?_
      refine r_sub (L' := [(0, .ref p0), (1, .int p1), (2, .int p2)]) [0, 1, 2] rfl ?_
      exact g_X11_ahead_30 C0 F p0 p1 p2 hk_p0 (0 : Int32) M _  hf
