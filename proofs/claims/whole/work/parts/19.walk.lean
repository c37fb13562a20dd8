set_option maxHeartbeats 4000000 in
set_option maxRecDepth 100000 in
theorem g_X11_doneOf_2 {Γ : zCx} {E : zEn} {S : zSk} {X : zMl} {Z : Nat → Prop} (C0 : zCt Γ E RX11 cX11_doneOf 3 (Option.some Jvm.ClassFile.FieldType.int) [] { frames := 6, cells := 0, slots := 0, locals := 143 }) (F : Nat) (p0 : Nat) (p1 : Int32) (hk_p0 : K_X11 S p0) : ∀ (n : Nat) (v2 : Int32) (M : zMi) (r : Int32 × zMi) , f_X11_doneOf_2 F p0 p1 n v2 M = some r → zG Γ (zQ Γ E 0 0 S Z (some (.int r.1)) r.2 X) E 3 0 0 S Z M X 2 [(0, .ref p0), (1, .int p1), (2, .int v2)] [] := by
  intro n
  induction n with
  | zero => intro v2 M r; intro hf; cases hf
  | succ n ih =>
    intro v2 M r hf
    refine r_iload_n C0 dX11_doneOf_2 rfl 2 rfl ?_
    refine r_sipush (v := 400) C0 dX11_doneOf_3 (by decide) ?_
    refine r_icmp_gt C0 35 dX11_doneOf_6 (by decide) hf (fun hf => ?_) (fun hf => ?_)
    · refine r_bipush (v := -9) C0 dX11_doneOf_35 (by decide) ?_
      obtain rfl := Option.some.inj hf
      exact r_iret C0 dX11_doneOf_37
    · refine r_aload_n C0 dX11_doneOf_9 rfl 0 rfl ?_
      refine r_getR C0 (C := RX11) (T := TX11) cl_X11 (K_X11_o hk_p0) (k := 6) (by decide) qw_625 rfl (K_X11_trial_r hk_p0) dX11_doneOf_10 ?_
      refine r_bipush (v := 7) C0 dX11_doneOf_13 (by decide) ?_
      refine r_iald' (j := 7) C0 (K_X11_trial_k hk_p0) rfl rfl dX11_doneOf_15 ?_
      refine r_iload_n C0 dX11_doneOf_16 rfl 1 rfl ?_
      refine r_icmp_le C0 22 dX11_doneOf_17 (by decide) hf (fun hf => ?_) (fun hf => ?_)
      · refine r_aload_n C0 dX11_doneOf_22 rfl 0 rfl ?_
        refine r_getR C0 (C := RX11) (T := TX11) cl_X11 (K_X11_o hk_p0) (k := 6) (by decide) qw_625 rfl (K_X11_trial_r hk_p0) dX11_doneOf_23 ?_
        refine r_callSm C0 (st := []) [.ref (p0 + 4)] hf vs_128 (fun hl r1 hr1 => c_X11_dayOn hl F (p0 + 4) (K_X11_trial_k hk_p0) M r1 hr1) rfl rfl (Nat.le_of_ble_eq_true rfl) dX11_doneOf_26 (zrm_ok rfl) (fun r1 hr1 hf => ?_)
        refine r_iinc (j := 2) (v := (v2 + (1 : Int32))) (L' := [(2, .int (v2 + (1 : Int32))), (0, .ref p0), (1, .int p1)]) C0 dX11_doneOf_29 rfl rfl (by decide) rfl ?_
        refine r_goto C0 2 dX11_doneOf_32 (by decide) ?_
        refine r_sub (L' := [(0, .ref p0), (1, .int p1), (2, .int (v2 + (1 : Int32)))]) [1, 2, 0] rfl ?_
        exact ih (v2 + (1 : Int32)) r1 _  hf
      · refine r_iload_n C0 dX11_doneOf_20 rfl 2 rfl ?_
        obtain rfl := Option.some.inj hf
        exact r_iret C0 dX11_doneOf_21
set_option maxHeartbeats 4000000 in
set_option maxRecDepth 100000 in
theorem c_X11_doneOf {l : Launch} {E : zEn} {S : zSk} {X : zMl} {Z : Nat → Prop} (hl : l.stackTraces = false) (F : Nat) (p0 : Nat) (p1 : Int32) (hk_p0 : K_X11 S p0) (M : zMi) (r : Int32 × zMi) (hf : f_X11_doneOf F p0 p1 M = some r) : zM l E yX11_doneOf cX11_doneOf 3 (Option.some Jvm.ClassFile.FieldType.int) { frames := 6, cells := 0, slots := 0, locals := 143 } 0 0 [.ref p0, .int p1] S Z M X S Z (some (.int r.1)) r.2 X := by
  refine zM.intro (L0 := [(0, .ref p0), (1, .int p1)]) hl (by decide) (Nat.le_of_ble_eq_true rfl) rfl (fun Γ C0 _ => ?_)
  unfold f_X11_doneOf at hf
  refine r_iconst (v := 0) C0 dX11_doneOf_0 (by decide) ?_
  refine r_istore_n (L' := [(2, .int (0 : Int32)), (0, .ref p0), (1, .int p1)]) C0 dX11_doneOf_1 rfl (by decide) rfl ?_
  refine r_sub (L' := [(0, .ref p0), (1, .int p1), (2, .int (0 : Int32))]) [1, 2, 0] rfl ?_
  exact g_X11_doneOf_2 C0 F p0 p1 hk_p0 F (0 : Int32) M _  hf
set_option maxHeartbeats 4000000 in
set_option maxRecDepth 100000 in
theorem g_X11_doneAfter_17 {Γ : zCx} {E : zEn} {S : zSk} {X : zMl} {Z : Nat → Prop} (C0 : zCt Γ E RX11 cX11_doneAfter 2 (Option.some Jvm.ClassFile.FieldType.int) [] { frames := 7, cells := 0, slots := 0, locals := 165 }) (F : Nat) (p0 : Nat) (p1 : Int32) (hk_p0 : K_X11 S p0) (s0 : Int32) (M : zMi) (r : Int32 × zMi)  (hf : f_X11_doneAfter_17 F p0 p1 s0 M = some r) : zG Γ (zQ Γ E 0 0 S Z (some (.int r.1)) r.2 X) E 2 0 0 S Z M X 17 [(0, .ref p0), (1, .int p1)] [.int s0, .ref p0] := by
  unfold f_X11_doneAfter_17 at hf
  refine r_callVim C0 (st := []) [.int s0] p0 hf vs_131 (fun hl r1 hr1 => c_X11_refused hl F p0 s0 hk_p0 M r1 hr1) (K_X11_o hk_p0) rfl rfl rfl rfl (Nat.le_of_ble_eq_true rfl) dX11_doneAfter_17 (zrm_ok rfl) (fun r1 hr1 hf => ?_)
  refine r_if_eq C0 25 dX11_doneAfter_20 (by decide) hf (fun hf => ?_) (fun hf => ?_)
  · refine r_aload_n C0 dX11_doneAfter_25 rfl 0 rfl ?_
    refine r_getR C0 (C := RX11) (T := TX11) cl_X11 (K_X11_o hk_p0) (k := 5) (by decide) qw_578 rfl (K_X11_now_r hk_p0) dX11_doneAfter_26 ?_
    refine r_iconst (v := 0) C0 dX11_doneAfter_29 (by decide) ?_
    refine r_aload_n C0 dX11_doneAfter_30 rfl 0 rfl ?_
    refine r_getR C0 (C := RX11) (T := TX11) cl_X11 (K_X11_o hk_p0) (k := 6) (by decide) qw_625 rfl (K_X11_trial_r hk_p0) dX11_doneAfter_31 ?_
    refine r_iconst (v := 0) C0 dX11_doneAfter_34 (by decide) ?_
    refine r_callSm C0 (st := []) [.ref (p0 + 3), .int (0 : Int32), .ref (p0 + 4), .int (0 : Int32)] hf vs_137 (fun hl r2 hr2 => c_X11_copyPage hl F (p0 + 3) 121 (0 : Int32) (p0 + 4) 121 (0 : Int32) (K_X11_now_k hk_p0) (K_X11_trial_k hk_p0) r1.2 r2 hr2) rfl rfl (Nat.le_of_ble_eq_true rfl) dX11_doneAfter_35 (zrm_ok rfl) (fun r2 hr2 hf => ?_)
    refine r_aload_n C0 dX11_doneAfter_38 rfl 0 rfl ?_
    refine r_iload_n C0 dX11_doneAfter_39 rfl 1 rfl ?_
    refine r_callVim C0 (st := []) [.int p1] p0 hf vs_149 (fun hl r3 hr3 => c_X11_doneOf hl F p0 p1 hk_p0 r2 r3 hr3) (K_X11_o hk_p0) rfl rfl rfl rfl (Nat.le_of_ble_eq_true rfl) dX11_doneAfter_40 (zrm_ok rfl) (fun r3 hr3 hf => ?_)
    obtain rfl := Option.some.inj hf
    exact r_iret C0 dX11_doneAfter_43
  · refine r_iconst (v := 0) C0 dX11_doneAfter_23 (by decide) ?_
    obtain rfl := Option.some.inj hf
    exact r_iret C0 dX11_doneAfter_24
set_option maxHeartbeats 4000000 in
set_option maxRecDepth 100000 in
theorem c_X11_doneAfter {l : Launch} {E : zEn} {S : zSk} {X : zMl} {Z : Nat → Prop} (hl : l.stackTraces = false) (F : Nat) (p0 : Nat) (p1 : Int32) (hk_p0 : K_X11 S p0) (M : zMi) (r : Int32 × zMi) (hf : f_X11_doneAfter F p0 p1 M = some r) : zM l E yX11_doneAfter cX11_doneAfter 2 (Option.some Jvm.ClassFile.FieldType.int) { frames := 7, cells := 0, slots := 0, locals := 165 } 0 0 [.ref p0, .int p1] S Z M X S Z (some (.int r.1)) r.2 X := by
  refine zM.intro (L0 := [(0, .ref p0), (1, .int p1)]) hl (by decide) (Nat.le_of_ble_eq_true rfl) rfl (fun Γ C0 _ => ?_)
  unfold f_X11_doneAfter at hf
  refine r_aload_n C0 dX11_doneAfter_0 rfl 0 rfl ?_
  refine r_aload_n C0 dX11_doneAfter_1 rfl 0 rfl ?_
  refine r_getR C0 (C := RX11) (T := TX11) cl_X11 (K_X11_o hk_p0) (k := 5) (by decide) qw_578 rfl (K_X11_now_r hk_p0) dX11_doneAfter_2 ?_
  refine r_iload_n C0 dX11_doneAfter_5 rfl 1 rfl ?_
  refine r_callSi C0 (st := [.ref p0]) [.ref (p0 + 3), .int p1] hf vs_138 (fun hl r1 hr1 => c_X11_isZone hl F (p0 + 3) p1 (K_X11_now_k hk_p0) M r1 hr1) rfl rfl (Nat.le_of_ble_eq_true rfl) dX11_doneAfter_6 (zrm_ok rfl) (fun r1 hr1 hf => ?_)
  refine r_if_eq C0 16 dX11_doneAfter_9 (by decide) hf (fun hf => ?_) (fun hf => ?_)
  · refine r_iconst (v := 1) C0 dX11_doneAfter_16 (by decide) ?_
    refine r_sub (L' := [(0, .ref p0), (1, .int p1)]) [0, 1] rfl ?_
    exact g_X11_doneAfter_17 C0 F p0 p1 hk_p0 (1 : Int32) M _  hf
  · refine r_iconst (v := 0) C0 dX11_doneAfter_12 (by decide) ?_
    refine r_goto C0 17 dX11_doneAfter_13 (by decide) ?_
    refine r_sub (L' := [(0, .ref p0), (1, .int p1)]) [0, 1] rfl ?_
    exact g_X11_doneAfter_17 C0 F p0 p1 hk_p0 (0 : Int32) M _  hf
set_option maxHeartbeats 4000000 in
set_option maxRecDepth 100000 in
theorem g_X11_bestShip_130 {Γ : zCx} {E : zEn} {S : zSk} {X : zMl} {Z : Nat → Prop} (C0 : zCt Γ E RX11 cX11_bestShip 7 (Option.some Jvm.ClassFile.FieldType.int) [] { frames := 7, cells := 0, slots := 0, locals := 166 }) (F : Nat) (p0 : Nat) (k_15 : Int32 → Int32 → Int32 → Int32 → zMi → Option (Int32 × zMi)) (hk_p0 : K_X11 S p0) (hk_k_15 : ∀ (v1_ : Int32) (v2_ : Int32) (v3_ : Int32) (v4_ : Int32) (M : zMi) (r : Int32 × zMi), k_15 v1_ v2_ v3_ v4_ M = some r → zG Γ (zQ Γ E 0 0 S Z (some (.int r.1)) r.2 X) E 7 0 0 S Z M X 15 [(0, .ref p0), (1, .int v1_), (2, .int v2_), (3, .int v3_), (4, .int v4_)] []) (v1 : Int32) (v3 : Int32) (v4 : Int32) (v6 : Int32) (s0 : Int32) (M : zMi) (r : Int32 × zMi)  (hf : f_X11_bestShip_130 F p0 k_15 v1 v3 v4 v6 s0 M = some r) : zG Γ (zQ Γ E 0 0 S Z (some (.int r.1)) r.2 X) E 7 0 0 S Z M X 130 [(0, .ref p0), (1, .int v1), (3, .int v3), (4, .int v4), (6, .int v6)] [.int s0] := by
  unfold f_X11_bestShip_130 at hf
  refine r_istore_n (L' := [(2, .int s0), (0, .ref p0), (1, .int v1), (3, .int v3), (4, .int v4), (6, .int v6)]) C0 dX11_bestShip_130 rfl (by decide) rfl ?_
  refine r_iload C0 dX11_bestShip_131 5 rfl ?_
  refine r_if_eq C0 146 dX11_bestShip_133 (by decide) hf (fun hf => ?_) (fun hf => ?_)
  · refine r_iload_n C0 dX11_bestShip_146 rfl 3 rfl ?_
    refine r_istore_n (L' := [(3, .int v3), (2, .int s0), (0, .ref p0), (1, .int v1), (4, .int v4), (6, .int v6)]) C0 dX11_bestShip_147 rfl (by decide) rfl ?_
    refine r_iinc (j := 4) (v := (v4 + (1 : Int32))) (L' := [(4, .int (v4 + (1 : Int32))), (3, .int v3), (2, .int s0), (0, .ref p0), (1, .int v1), (6, .int v6)]) C0 dX11_bestShip_148 rfl rfl (by decide) rfl ?_
    refine r_goto C0 15 dX11_bestShip_151 (by decide) ?_
    refine r_sub (L' := [(0, .ref p0), (1, .int v1), (2, .int s0), (3, .int v3), (4, .int (v4 + (1 : Int32)))]) [3, 4, 2, 1, 0] rfl ?_
    exact hk_k_15 v1 s0 v3 (v4 + (1 : Int32)) M _  hf
  · refine r_aload_n C0 dX11_bestShip_136 rfl 1 rfl ?_
    refine r_getR C0 (C := RX11) (T := TX11) cl_X11 (K_X11_o hk_p0) (k := 6) (by decide) qw_625 rfl (K_X11_trial_r hk_p0) dX11_bestShip_137 ?_
    refine r_bipush (v := 19) C0 dX11_bestShip_140 (by decide) ?_
    refine r_iald' (j := 19) C0 (K_X11_trial_k hk_p0) rfl rfl dX11_bestShip_142 ?_
    refine r_goto C0 147 dX11_bestShip_143 (by decide) ?_
    refine r_nm hf (fun x1 hf => ?_)
    refine r_istore_n (L' := [(3, .int x1), (2, .int s0), (0, .ref p0), (1, .int v1), (4, .int v4), (6, .int v6)]) C0 dX11_bestShip_147 rfl (by decide) rfl ?_
    refine r_iinc (j := 4) (v := (v4 + (1 : Int32))) (L' := [(4, .int (v4 + (1 : Int32))), (3, .int x1), (2, .int s0), (0, .ref p0), (1, .int v1), (6, .int v6)]) C0 dX11_bestShip_148 rfl rfl (by decide) rfl ?_
    refine r_goto C0 15 dX11_bestShip_151 (by decide) ?_
    refine r_sub (L' := [(0, .ref p0), (1, .int v1), (2, .int s0), (3, .int x1), (4, .int (v4 + (1 : Int32)))]) [3, 4, 2, 1, 0] rfl ?_
    exact hk_k_15 v1 s0 x1 (v4 + (1 : Int32)) M _  hf
set_option maxHeartbeats 4000000 in
set_option maxRecDepth 100000 in
theorem g_X11_bestShip_118 {Γ : zCx} {E : zEn} {S : zSk} {X : zMl} {Z : Nat → Prop} (C0 : zCt Γ E RX11 cX11_bestShip 7 (Option.some Jvm.ClassFile.FieldType.int) [] { frames := 7, cells := 0, slots := 0, locals := 166 }) (F : Nat) (p0 : Nat) (k_15 : Int32 → Int32 → Int32 → Int32 → zMi → Option (Int32 × zMi)) (hk_p0 : K_X11 S p0) (hk_k_15 : ∀ (v1_ : Int32) (v2_ : Int32) (v3_ : Int32) (v4_ : Int32) (M : zMi) (r : Int32 × zMi), k_15 v1_ v2_ v3_ v4_ M = some r → zG Γ (zQ Γ E 0 0 S Z (some (.int r.1)) r.2 X) E 7 0 0 S Z M X 15 [(0, .ref p0), (1, .int v1_), (2, .int v2_), (3, .int v3_), (4, .int v4_)] []) (v2 : Int32) (v3 : Int32) (v4 : Int32) (v5 : Int32) (v6 : Int32) (s0 : Int32) (M : zMi) (r : Int32 × zMi)  (hf : f_X11_bestShip_118 F p0 k_15 v2 v3 v4 v5 v6 s0 M = some r) : zG Γ (zQ Γ E 0 0 S Z (some (.int r.1)) r.2 X) E 7 0 0 S Z M X 118 [(0, .ref p0), (2, .int v2), (3, .int v3), (4, .int v4), (5, .int v5), (6, .int v6)] [.int s0] := by
  unfold f_X11_bestShip_118 at hf
  refine r_istore_n (L' := [(1, .int s0), (0, .ref p0), (2, .int v2), (3, .int v3), (4, .int v4), (5, .int v5), (6, .int v6)]) C0 dX11_bestShip_118 rfl (by decide) rfl ?_
  refine r_iload C0 dX11_bestShip_119 6 rfl ?_
  refine r_if_eq C0 129 dX11_bestShip_121 (by decide) hf (fun hf => ?_) (fun hf => ?_)
  · refine r_iload_n C0 dX11_bestShip_129 rfl 2 rfl ?_
    refine r_sub (L' := [(0, .ref p0), (1, .int s0), (3, .int v3), (4, .int v4), (6, .int v6)]) [1, 0, 3, 4, 6] rfl ?_
    exact g_X11_bestShip_130 C0 F p0 k_15 hk_p0 hk_k_15 s0 v3 v4 v6 v2 M _  hf
  · refine r_iload C0 dX11_bestShip_124 5 rfl ?_
    refine r_goto C0 130 dX11_bestShip_126 (by decide) ?_
    refine r_sub (L' := [(0, .ref p0), (1, .int s0), (3, .int v3), (4, .int v4), (6, .int v6)]) [1, 0, 3, 4, 6] rfl ?_
    exact g_X11_bestShip_130 C0 F p0 k_15 hk_p0 hk_k_15 s0 v3 v4 v6 v5 M _  hf
set_option maxHeartbeats 4000000 in
set_option maxRecDepth 100000 in
theorem g_X11_bestShip_105 {Γ : zCx} {E : zEn} {S : zSk} {X : zMl} {Z : Nat → Prop} (C0 : zCt Γ E RX11 cX11_bestShip 7 (Option.some Jvm.ClassFile.FieldType.int) [] { frames := 7, cells := 0, slots := 0, locals := 166 }) (F : Nat) (p0 : Nat) (k_15 : Int32 → Int32 → Int32 → Int32 → zMi → Option (Int32 × zMi)) (hk_p0 : K_X11 S p0) (hk_k_15 : ∀ (v1_ : Int32) (v2_ : Int32) (v3_ : Int32) (v4_ : Int32) (M : zMi) (r : Int32 × zMi), k_15 v1_ v2_ v3_ v4_ M = some r → zG Γ (zQ Γ E 0 0 S Z (some (.int r.1)) r.2 X) E 7 0 0 S Z M X 15 [(0, .ref p0), (1, .int v1_), (2, .int v2_), (3, .int v3_), (4, .int v4_)] []) (v1 : Int32) (v2 : Int32) (v3 : Int32) (v4 : Int32) (v5 : Int32) (s0 : Int32) (M : zMi) (r : Int32 × zMi)  (hf : f_X11_bestShip_105 F p0 k_15 v1 v2 v3 v4 v5 s0 M = some r) : zG Γ (zQ Γ E 0 0 S Z (some (.int r.1)) r.2 X) E 7 0 0 S Z M X 105 [(0, .ref p0), (1, .int v1), (2, .int v2), (3, .int v3), (4, .int v4), (5, .int v5)] [.int s0] := by
  unfold f_X11_bestShip_105 at hf
  refine r_istore (L' := [(6, .int s0), (0, .ref p0), (1, .int v1), (2, .int v2), (3, .int v3), (4, .int v4), (5, .int v5)]) C0 dX11_bestShip_105 (by decide) rfl ?_
  refine r_iload C0 dX11_bestShip_107 0 rfl ?_
  refine r_if_eq C0 117 dX11_bestShip_109 (by decide) hf (fun hf => ?_) (fun hf => ?_)
  · refine r_iload_n C0 dX11_bestShip_117 rfl 2 rfl ?_
    refine r_sub (L' := [(0, .ref p0), (2, .int v2), (3, .int v3), (4, .int v4), (5, .int v5), (6, .int s0)]) [1, 3, 4, 5, 6, 0] rfl ?_
    exact g_X11_bestShip_118 C0 F p0 k_15 hk_p0 hk_k_15 v2 v3 v4 v5 s0 v1 M _  hf
  · refine r_iload C0 dX11_bestShip_112 5 rfl ?_
    refine r_goto C0 118 dX11_bestShip_114 (by decide) ?_
    refine r_sub (L' := [(0, .ref p0), (2, .int v2), (3, .int v3), (4, .int v4), (5, .int v5), (6, .int s0)]) [1, 3, 4, 5, 6, 0] rfl ?_
    exact g_X11_bestShip_118 C0 F p0 k_15 hk_p0 hk_k_15 v2 v3 v4 v5 s0 v4 M _  hf
set_option maxHeartbeats 4000000 in
set_option maxRecDepth 100000 in
theorem g_X11_bestShip_15 {Γ : zCx} {E : zEn} {S : zSk} {X : zMl} {Z : Nat → Prop} (C0 : zCt Γ E RX11 cX11_bestShip 7 (Option.some Jvm.ClassFile.FieldType.int) [] { frames := 7, cells := 0, slots := 0, locals := 166 }) (F : Nat) (p0 : Nat) (hk_p0 : K_X11 S p0) : ∀ (n : Nat) (v1 : Int32) (v2 : Int32) (v3 : Int32) (v4 : Int32) (M : zMi) (r : Int32 × zMi) , f_X11_bestShip_15 F p0 n v1 v2 v3 v4 M = some r → zG Γ (zQ Γ E 0 0 S Z (some (.int r.1)) r.2 X) E 7 0 0 S Z M X 15 [(0, .ref p0), (1, .int v1), (2, .int v2), (3, .int v3), (4, .int v4)] [] := by
  intro n
  induction n with
  | zero => intro v1 v2 v3 v4 M r; intro hf; cases hf
  | succ n ih =>
    intro v1 v2 v3 v4 M r hf
    refine r_iload C0 dX11_bestShip_15 4 rfl ?_
    refine r_aload_n C0 dX11_bestShip_17 rfl 0 rfl ?_
    refine r_getR C0 (C := RX11) (T := TX11) cl_X11 (K_X11_o hk_p0) (k := 5) (by decide) qw_578 rfl (K_X11_now_r hk_p0) dX11_bestShip_18 ?_
    refine r_iconst (v := 5) C0 dX11_bestShip_21 (by decide) ?_
    refine r_iald' (j := 5) C0 (K_X11_now_k hk_p0) rfl rfl dX11_bestShip_22 ?_
    refine r_icmp_ge C0 154 dX11_bestShip_23 (by decide) hf (fun hf => ?_) (fun hf => ?_)
    · refine r_iload_n C0 dX11_bestShip_154 rfl 1 rfl ?_
      obtain rfl := Option.some.inj hf
      exact r_iret C0 dX11_bestShip_155
    · refine r_aload_n C0 dX11_bestShip_26 rfl 0 rfl ?_
      refine r_getR C0 (C := RX11) (T := TX11) cl_X11 (K_X11_o hk_p0) (k := 5) (by decide) qw_578 rfl (K_X11_now_r hk_p0) dX11_bestShip_27 ?_
      refine r_iload C0 dX11_bestShip_30 4 rfl ?_
      refine r_callSi C0 (st := []) [.ref (p0 + 3), .int v4] hf vs_142 (fun hl r1 hr1 => c_X11_canSend hl F (p0 + 3) v4 (K_X11_now_k hk_p0) M r1 hr1) rfl rfl (Nat.le_of_ble_eq_true rfl) dX11_bestShip_32 (zrm_ok rfl) (fun r1 hr1 hf => ?_)
      refine r_if_eq C0 148 dX11_bestShip_35 (by decide) hf (fun hf => ?_) (fun hf => ?_)
      · refine r_iinc (j := 4) (v := (v4 + (1 : Int32))) (L' := [(4, .int (v4 + (1 : Int32))), (0, .ref p0), (1, .int v1), (2, .int v2), (3, .int v3)]) C0 dX11_bestShip_148 rfl rfl (by decide) rfl ?_
        refine r_goto C0 15 dX11_bestShip_151 (by decide) ?_
        refine r_sub (L' := [(0, .ref p0), (1, .int v1), (2, .int v2), (3, .int v3), (4, .int (v4 + (1 : Int32)))]) [1, 2, 3, 4, 0] rfl ?_
        exact ih v1 v2 v3 (v4 + (1 : Int32)) M _  hf
      · refine r_aload_n C0 dX11_bestShip_38 rfl 0 rfl ?_
        refine r_getR C0 (C := RX11) (T := TX11) cl_X11 (K_X11_o hk_p0) (k := 5) (by decide) qw_578 rfl (K_X11_now_r hk_p0) dX11_bestShip_39 ?_
        refine r_iconst (v := 0) C0 dX11_bestShip_42 (by decide) ?_
        refine r_aload_n C0 dX11_bestShip_43 rfl 0 rfl ?_
        refine r_getR C0 (C := RX11) (T := TX11) cl_X11 (K_X11_o hk_p0) (k := 6) (by decide) qw_625 rfl (K_X11_trial_r hk_p0) dX11_bestShip_44 ?_
        refine r_iconst (v := 0) C0 dX11_bestShip_47 (by decide) ?_
        refine r_callSm C0 (st := []) [.ref (p0 + 3), .int (0 : Int32), .ref (p0 + 4), .int (0 : Int32)] hf vs_137 (fun hl r2 hr2 => c_X11_copyPage hl F (p0 + 3) 121 (0 : Int32) (p0 + 4) 121 (0 : Int32) (K_X11_now_k hk_p0) (K_X11_trial_k hk_p0) M r2 hr2) rfl rfl (Nat.le_of_ble_eq_true rfl) dX11_bestShip_48 (zrm_ok rfl) (fun r2 hr2 hf => ?_)
        refine r_aload_n C0 dX11_bestShip_51 rfl 0 rfl ?_
        refine r_getR C0 (C := RX11) (T := TX11) cl_X11 (K_X11_o hk_p0) (k := 6) (by decide) qw_625 rfl (K_X11_trial_r hk_p0) dX11_bestShip_52 ?_
        refine r_iload C0 dX11_bestShip_55 4 rfl ?_
        refine r_callSm C0 (st := []) [.ref (p0 + 4), .int v4] hf vs_150 (fun hl r3 hr3 => c_X11_fillAndSend hl F (p0 + 4) v4 (K_X11_trial_k hk_p0) r2 r3 hr3) rfl rfl (Nat.le_of_ble_eq_true rfl) dX11_bestShip_57 (zrm_ok rfl) (fun r3 hr3 hf => ?_)
        refine r_aload_n C0 dX11_bestShip_60 rfl 0 rfl ?_
        refine r_getR C0 (C := RX11) (T := TX11) cl_X11 (K_X11_o hk_p0) (k := 6) (by decide) qw_625 rfl (K_X11_trial_r hk_p0) dX11_bestShip_61 ?_
        refine r_bipush (v := 60) C0 dX11_bestShip_64 (by decide) ?_
        refine r_callSim C0 (st := []) [.ref (p0 + 4), .int (60 : Int32)] hf vs_148 (fun hl r4 hr4 => c_X11_daysOn hl F (p0 + 4) (60 : Int32) (K_X11_trial_k hk_p0) r3 r4 hr4) rfl rfl (Nat.le_of_ble_eq_true rfl) dX11_bestShip_66 (zrm_ok rfl) (fun r4 hr4 hf => ?_)
        refine r_istore (L' := [(5, .int r4.1), (0, .ref p0), (1, .int v1), (2, .int v2), (3, .int v3), (4, .int v4)]) C0 dX11_bestShip_69 (by decide) rfl ?_
        refine r_iload_n C0 dX11_bestShip_71 rfl 2 rfl ?_
        refine r_bipush (v := -9) C0 dX11_bestShip_72 (by decide) ?_
        refine r_icmp_eq C0 100 dX11_bestShip_74 (by decide) hf (fun hf => ?_) (fun hf => ?_)
        · refine r_iconst (v := 1) C0 dX11_bestShip_100 (by decide) ?_
          refine r_goto C0 105 dX11_bestShip_101 (by decide) ?_
          refine r_sub (L' := [(0, .ref p0), (1, .int v1), (2, .int v2), (3, .int v3), (4, .int v4), (5, .int r4.1)]) [1, 2, 3, 4, 5, 0] rfl ?_
          exact g_X11_bestShip_105 C0 F p0 (f_X11_bestShip_15 F p0 n) hk_p0 ih v1 v2 v3 v4 r4.1 (1 : Int32) r4.2 _  hf
        · refine r_iload C0 dX11_bestShip_77 0 rfl ?_
          refine r_iload_n C0 dX11_bestShip_79 rfl 3 rfl ?_
          refine r_icmp_gt C0 100 dX11_bestShip_80 (by decide) hf (fun hf => ?_) (fun hf => ?_)
          · refine r_iconst (v := 1) C0 dX11_bestShip_100 (by decide) ?_
            refine r_goto C0 105 dX11_bestShip_101 (by decide) ?_
            refine r_sub (L' := [(0, .ref p0), (1, .int v1), (2, .int v2), (3, .int v3), (4, .int v4), (5, .int r4.1)]) [1, 2, 3, 4, 5, 0] rfl ?_
            exact g_X11_bestShip_105 C0 F p0 (f_X11_bestShip_15 F p0 n) hk_p0 ih v1 v2 v3 v4 r4.1 (1 : Int32) r4.2 _  hf
          · refine r_iload C0 dX11_bestShip_83 0 rfl ?_
            refine r_iload_n C0 dX11_bestShip_85 rfl 3 rfl ?_
            refine r_icmp_ne C0 104 dX11_bestShip_86 (by decide) hf (fun hf => ?_) (fun hf => ?_)
            · refine r_iconst (v := 0) C0 dX11_bestShip_104 (by decide) ?_
              refine r_sub (L' := [(0, .ref p0), (1, .int v1), (2, .int v2), (3, .int v3), (4, .int v4), (5, .int r4.1)]) [1, 2, 3, 4, 5, 0] rfl ?_
              exact g_X11_bestShip_105 C0 F p0 (f_X11_bestShip_15 F p0 n) hk_p0 ih v1 v2 v3 v4 r4.1 (0 : Int32) r4.2 _  hf
            · refine r_aload_n C0 dX11_bestShip_89 rfl 1 rfl ?_
              refine r_getR C0 (C := RX11) (T := TX11) cl_X11 (K_X11_o hk_p0) (k := 6) (by decide) qw_625 rfl (K_X11_trial_r hk_p0) dX11_bestShip_90 ?_
              refine r_bipush (v := 19) C0 dX11_bestShip_93 (by decide) ?_
              refine r_iald' (j := 19) C0 (K_X11_trial_k hk_p0) rfl rfl dX11_bestShip_95 ?_
              refine r_iload_n C0 dX11_bestShip_96 rfl 4 rfl ?_
              refine r_icmp_ge C0 104 dX11_bestShip_97 (by decide) hf (fun hf => ?_) (fun hf => ?_)
              · refine r_iconst (v := 0) C0 dX11_bestShip_104 (by decide) ?_
                refine r_sub (L' := [(0, .ref p0), (1, .int v1), (2, .int v2), (3, .int v3), (4, .int v4), (5, .int r4.1)]) [1, 2, 3, 4, 5, 0] rfl ?_
                exact g_X11_bestShip_105 C0 F p0 (f_X11_bestShip_15 F p0 n) hk_p0 ih v1 v2 v3 v4 r4.1 (0 : Int32) r4.2 _  hf
              · refine r_iconst (v := 1) C0 dX11_bestShip_100 (by decide) ?_
                refine r_goto C0 105 dX11_bestShip_101 (by decide) ?_
                refine r_sub (L' := [(0, .ref p0), (1, .int v1), (2, .int v2), (3, .int v3), (4, .int v4), (5, .int r4.1)]) [1, 2, 3, 4, 5, 0] rfl ?_
                exact g_X11_bestShip_105 C0 F p0 (f_X11_bestShip_15 F p0 n) hk_p0 ih v1 v2 v3 v4 r4.1 (1 : Int32) r4.2 _  hf
set_option maxHeartbeats 4000000 in
set_option maxRecDepth 100000 in
theorem c_X11_bestShip {l : Launch} {E : zEn} {S : zSk} {X : zMl} {Z : Nat → Prop} (hl : l.stackTraces = false) (F : Nat) (p0 : Nat) (hk_p0 : K_X11 S p0) (M : zMi) (r : Int32 × zMi) (hf : f_X11_bestShip F p0 M = some r) : zM l E yX11_bestShip cX11_bestShip 7 (Option.some Jvm.ClassFile.FieldType.int) { frames := 7, cells := 0, slots := 0, locals := 166 } 0 0 [.ref p0] S Z M X S Z (some (.int r.1)) r.2 X := by
  refine zM.intro (L0 := [(0, .ref p0)]) hl (by decide) (Nat.le_of_ble_eq_true rfl) rfl (fun Γ C0 _ => ?_)
  unfold f_X11_bestShip at hf
  refine r_aload_n C0 dX11_bestShip_0 rfl 0 rfl ?_
  refine r_iconst (v := 0) C0 dX11_bestShip_1 (by decide) ?_
  refine r_putI C0 (C := RX11) (T := TX11) cl_X11 (K_X11_o hk_p0) (k := 0) (by decide) qw_487 rfl rfl rfl rfl hf dX11_bestShip_2 (fun M1 hf => ?_)
  refine r_bipush (v := -9) C0 dX11_bestShip_5 (by decide) ?_
  refine r_istore_n (L' := [(1, .int (-9 : Int32)), (0, .ref p0)]) C0 dX11_bestShip_7 rfl (by decide) rfl ?_
  refine r_iconst (v := 0) C0 dX11_bestShip_8 (by decide) ?_
  refine r_istore_n (L' := [(2, .int (0 : Int32)), (1, .int (-9 : Int32)), (0, .ref p0)]) C0 dX11_bestShip_9 rfl (by decide) rfl ?_
  refine r_iconst (v := 0) C0 dX11_bestShip_10 (by decide) ?_
  refine r_istore_n (L' := [(3, .int (0 : Int32)), (2, .int (0 : Int32)), (1, .int (-9 : Int32)), (0, .ref p0)]) C0 dX11_bestShip_11 rfl (by decide) rfl ?_
  refine r_iconst (v := 0) C0 dX11_bestShip_12 (by decide) ?_
  refine r_istore (L' := [(4, .int (0 : Int32)), (3, .int (0 : Int32)), (2, .int (0 : Int32)), (1, .int (-9 : Int32)), (0, .ref p0)]) C0 dX11_bestShip_13 (by decide) rfl ?_
  refine r_sub (L' := [(0, .ref p0), (1, .int (-9 : Int32)), (2, .int (0 : Int32)), (3, .int (0 : Int32)), (4, .int (0 : Int32))]) [4, 3, 2, 1, 0] rfl ?_
  exact g_X11_bestShip_15 C0 F p0 hk_p0 F (-9 : Int32) (0 : Int32) (0 : Int32) (0 : Int32) M1 _  hf
set_option maxHeartbeats 4000000 in
set_option maxRecDepth 100000 in
theorem g_X11_extension_27 {Γ : zCx} {E : zEn} {S : zSk} {X : zMl} {Z : Nat → Prop} (C0 : zCt Γ E RX11 cX11_extension 3 (Option.some Jvm.ClassFile.FieldType.int) [] { frames := 7, cells := 0, slots := 0, locals := 165 }) (F : Nat) (p0 : Nat) (p1 : Int32) (hk_p0 : K_X11 S p0) : ∀ (n : Nat) (v2 : Int32) (M : zMi) (r : Int32 × zMi) , f_X11_extension_27 F p0 p1 n v2 M = some r → zG Γ (zQ Γ E 0 0 S Z (some (.int r.1)) r.2 X) E 3 0 0 S Z M X 27 [(0, .ref p0), (1, .int p1), (2, .int v2)] [] := by
  intro n
  induction n with
  | zero => intro v2 M r; intro hf; cases hf
  | succ n ih =>
    intro v2 M r hf
    refine r_iload_n C0 dX11_extension_27 rfl 2 rfl ?_
    refine r_bipush (v := 99) C0 dX11_extension_28 (by decide) ?_
    refine r_icmp_gt C0 85 dX11_extension_30 (by decide) hf (fun hf => ?_) (fun hf => ?_)
    · refine r_bipush (v := -9) C0 dX11_extension_85 (by decide) ?_
      obtain rfl := Option.some.inj hf
      exact r_iret C0 dX11_extension_87
    · refine r_aload_n C0 dX11_extension_33 rfl 0 rfl ?_
      refine r_getR C0 (C := RX11) (T := TX11) cl_X11 (K_X11_o hk_p0) (k := 5) (by decide) qw_578 rfl (K_X11_now_r hk_p0) dX11_extension_34 ?_
      refine r_iload_n C0 dX11_extension_37 rfl 1 rfl ?_
      refine r_iload_n C0 dX11_extension_38 rfl 2 rfl ?_
      refine r_callSi C0 (st := []) [.ref (p0 + 3), .int p1, .int v2] hf vs_146 (fun hl r1 hr1 => c_X11_canExtend hl F (p0 + 3) p1 v2 (K_X11_now_k hk_p0) M r1 hr1) rfl rfl (Nat.le_of_ble_eq_true rfl) dX11_extension_39 (zrm_ok rfl) (fun r1 hr1 hf => ?_)
      refine r_if_eq C0 85 dX11_extension_42 (by decide) hf (fun hf => ?_) (fun hf => ?_)
      · refine r_bipush (v := -9) C0 dX11_extension_85 (by decide) ?_
        obtain rfl := Option.some.inj hf
        exact r_iret C0 dX11_extension_87
      · refine r_aload_n C0 dX11_extension_45 rfl 0 rfl ?_
        refine r_getR C0 (C := RX11) (T := TX11) cl_X11 (K_X11_o hk_p0) (k := 5) (by decide) qw_578 rfl (K_X11_now_r hk_p0) dX11_extension_46 ?_
        refine r_iconst (v := 0) C0 dX11_extension_49 (by decide) ?_
        refine r_aload_n C0 dX11_extension_50 rfl 0 rfl ?_
        refine r_getR C0 (C := RX11) (T := TX11) cl_X11 (K_X11_o hk_p0) (k := 6) (by decide) qw_625 rfl (K_X11_trial_r hk_p0) dX11_extension_51 ?_
        refine r_iconst (v := 0) C0 dX11_extension_54 (by decide) ?_
        refine r_callSm C0 (st := []) [.ref (p0 + 3), .int (0 : Int32), .ref (p0 + 4), .int (0 : Int32)] hf vs_137 (fun hl r2 hr2 => c_X11_copyPage hl F (p0 + 3) 121 (0 : Int32) (p0 + 4) 121 (0 : Int32) (K_X11_now_k hk_p0) (K_X11_trial_k hk_p0) M r2 hr2) rfl rfl (Nat.le_of_ble_eq_true rfl) dX11_extension_55 (zrm_ok rfl) (fun r2 hr2 hf => ?_)
        refine r_aload_n C0 dX11_extension_58 rfl 0 rfl ?_
        refine r_getR C0 (C := RX11) (T := TX11) cl_X11 (K_X11_o hk_p0) (k := 6) (by decide) qw_625 rfl (K_X11_trial_r hk_p0) dX11_extension_59 ?_
        refine r_iload_n C0 dX11_extension_62 rfl 1 rfl ?_
        refine r_iload_n C0 dX11_extension_63 rfl 2 rfl ?_
        refine r_callSm C0 (st := []) [.ref (p0 + 4), .int p1, .int v2] hf vs_145 (fun hl r3 hr3 => c_X11_extendOn hl F (p0 + 4) p1 v2 (K_X11_trial_k hk_p0) r2 r3 hr3) rfl rfl (Nat.le_of_ble_eq_true rfl) dX11_extension_64 (zrm_ok rfl) (fun r3 hr3 hf => ?_)
        refine r_aload_n C0 dX11_extension_67 rfl 0 rfl ?_
        refine r_iload_n C0 dX11_extension_68 rfl 1 rfl ?_
        refine r_callVim C0 (st := []) [.int p1] p0 hf vs_149 (fun hl r4 hr4 => c_X11_doneOf hl F p0 p1 hk_p0 r3 r4 hr4) (K_X11_o hk_p0) rfl rfl rfl rfl (Nat.le_of_ble_eq_true rfl) dX11_extension_69 (zrm_ok rfl) (fun r4 hr4 hf => ?_)
        refine r_bipush (v := -9) C0 dX11_extension_72 (by decide) ?_
        refine r_icmp_eq C0 79 dX11_extension_74 (by decide) hf (fun hf => ?_) (fun hf => ?_)
        · refine r_iinc (j := 2) (v := (v2 + (1 : Int32))) (L' := [(2, .int (v2 + (1 : Int32))), (0, .ref p0), (1, .int p1)]) C0 dX11_extension_79 rfl rfl (by decide) rfl ?_
          refine r_goto C0 27 dX11_extension_82 (by decide) ?_
          refine r_sub (L' := [(0, .ref p0), (1, .int p1), (2, .int (v2 + (1 : Int32)))]) [1, 2, 0] rfl ?_
          exact ih (v2 + (1 : Int32)) r4.2 _  hf
        · refine r_iload_n C0 dX11_extension_77 rfl 2 rfl ?_
          obtain rfl := Option.some.inj hf
          exact r_iret C0 dX11_extension_78
set_option maxHeartbeats 4000000 in
set_option maxRecDepth 100000 in
theorem g_X11_extension_17 {Γ : zCx} {E : zEn} {S : zSk} {X : zMl} {Z : Nat → Prop} (C0 : zCt Γ E RX11 cX11_extension 3 (Option.some Jvm.ClassFile.FieldType.int) [] { frames := 7, cells := 0, slots := 0, locals := 165 }) (F : Nat) (p0 : Nat) (p1 : Int32) (hk_p0 : K_X11 S p0) (s0 : Int32) (M : zMi) (r : Int32 × zMi)  (hf : f_X11_extension_17 F p0 p1 s0 M = some r) : zG Γ (zQ Γ E 0 0 S Z (some (.int r.1)) r.2 X) E 3 0 0 S Z M X 17 [(0, .ref p0), (1, .int p1)] [.int s0, .ref p0] := by
  unfold f_X11_extension_17 at hf
  refine r_callVim C0 (st := []) [.int s0] p0 hf vs_131 (fun hl r1 hr1 => c_X11_refused hl F p0 s0 hk_p0 M r1 hr1) (K_X11_o hk_p0) rfl rfl rfl rfl (Nat.le_of_ble_eq_true rfl) dX11_extension_17 (zrm_ok rfl) (fun r1 hr1 hf => ?_)
  refine r_if_eq C0 25 dX11_extension_20 (by decide) hf (fun hf => ?_) (fun hf => ?_)
  · refine r_iconst (v := 0) C0 dX11_extension_25 (by decide) ?_
    refine r_istore_n (L' := [(2, .int (0 : Int32)), (0, .ref p0), (1, .int p1)]) C0 dX11_extension_26 rfl (by decide) rfl ?_
    refine r_sub (L' := [(0, .ref p0), (1, .int p1), (2, .int (0 : Int32))]) [1, 2, 0] rfl ?_
    exact g_X11_extension_27 C0 F p0 p1 hk_p0 F (0 : Int32) r1.2 _  hf
  · refine r_iconst (v := 0) C0 dX11_extension_23 (by decide) ?_
    obtain rfl := Option.some.inj hf
    exact r_iret C0 dX11_extension_24
set_option maxHeartbeats 4000000 in
set_option maxRecDepth 100000 in
theorem c_X11_extension {l : Launch} {E : zEn} {S : zSk} {X : zMl} {Z : Nat → Prop} (hl : l.stackTraces = false) (F : Nat) (p0 : Nat) (p1 : Int32) (hk_p0 : K_X11 S p0) (M : zMi) (r : Int32 × zMi) (hf : f_X11_extension F p0 p1 M = some r) : zM l E yX11_extension cX11_extension 3 (Option.some Jvm.ClassFile.FieldType.int) { frames := 7, cells := 0, slots := 0, locals := 165 } 0 0 [.ref p0, .int p1] S Z M X S Z (some (.int r.1)) r.2 X := by
  refine zM.intro (L0 := [(0, .ref p0), (1, .int p1)]) hl (by decide) (Nat.le_of_ble_eq_true rfl) rfl (fun Γ C0 _ => ?_)
  unfold f_X11_extension at hf
  refine r_aload_n C0 dX11_extension_0 rfl 0 rfl ?_
  refine r_aload_n C0 dX11_extension_1 rfl 0 rfl ?_
  refine r_getR C0 (C := RX11) (T := TX11) cl_X11 (K_X11_o hk_p0) (k := 5) (by decide) qw_578 rfl (K_X11_now_r hk_p0) dX11_extension_2 ?_
  refine r_iload_n C0 dX11_extension_5 rfl 1 rfl ?_
  refine r_callSi C0 (st := [.ref p0]) [.ref (p0 + 3), .int p1] hf vs_138 (fun hl r1 hr1 => c_X11_isZone hl F (p0 + 3) p1 (K_X11_now_k hk_p0) M r1 hr1) rfl rfl (Nat.le_of_ble_eq_true rfl) dX11_extension_6 (zrm_ok rfl) (fun r1 hr1 hf => ?_)
  refine r_if_eq C0 16 dX11_extension_9 (by decide) hf (fun hf => ?_) (fun hf => ?_)
  · refine r_iconst (v := 1) C0 dX11_extension_16 (by decide) ?_
    refine r_sub (L' := [(0, .ref p0), (1, .int p1)]) [0, 1] rfl ?_
    exact g_X11_extension_17 C0 F p0 p1 hk_p0 (1 : Int32) M _  hf
  · refine r_iconst (v := 0) C0 dX11_extension_12 (by decide) ?_
    refine r_goto C0 17 dX11_extension_13 (by decide) ?_
    refine r_sub (L' := [(0, .ref p0), (1, .int p1)]) [0, 1] rfl ?_
    exact g_X11_extension_17 C0 F p0 p1 hk_p0 (0 : Int32) M _  hf
set_option maxHeartbeats 4000000 in
set_option maxRecDepth 100000 in
theorem c_X11_does {l : Launch} {E : zEn} {S : zSk} {X : zMl} {Z : Nat → Prop} (hl : l.stackTraces = false) (F : Nat) (p0 : Nat) (p1 : Int32) (p2 : Int32) (p3 : Int32) (p4 : Int32) (hk_p0 : K_X11 S p0) (M : zMi) (r : Int32 × zMi) (hf : f_X11_does F p0 p1 p2 p3 p4 M = some r) : zM l E yX11_does cX11_does 7 (Option.some Jvm.ClassFile.FieldType.boolean) { frames := 7, cells := 0, slots := 0, locals := 166 } 0 0 [.ref p0, .int p1, .int p2, .int p3, .int p4] S Z M X S Z (some (.int r.1)) r.2 X := by
  refine zM.intro (L0 := [(0, .ref p0), (1, .int p1), (2, .int p2), (3, .int p3), (4, .int p4)]) hl (by decide) (Nat.le_of_ble_eq_true rfl) rfl (fun Γ C0 _ => ?_)
  unfold f_X11_does at hf
  refine r_bipush (v := 100) C0 dX11_does_0 (by decide) ?_
  refine r_iload_n C0 dX11_does_2 rfl 3 rfl ?_
  refine r_imul C0 dX11_does_3 ?_
  refine r_iload C0 dX11_does_4 4 rfl ?_
  refine r_iadd C0 dX11_does_6 ?_
  refine r_nm hf (fun x1 hf => ?_)
  refine r_istore (L' := [(5, .int x1), (0, .ref p0), (1, .int p1), (2, .int p2), (3, .int p3), (4, .int p4)]) C0 dX11_does_7 (by decide) rfl ?_
  refine r_aload_n C0 dX11_does_9 rfl 1 rfl ?_
  refine r_getR C0 (C := RX11) (T := TX11) cl_X11 (K_X11_o hk_p0) (k := 6) (by decide) qw_625 rfl (K_X11_trial_r hk_p0) dX11_does_10 ?_
  refine r_iload_n C0 dX11_does_13 rfl 3 rfl ?_
  refine r_callSi C0 (st := []) [.ref (p0 + 4), .int p2] hf vs_139 (fun hl r2 hr2 => c_X11_isShip hl F (p0 + 4) p2 (K_X11_trial_k hk_p0) M r2 hr2) rfl rfl (Nat.le_of_ble_eq_true rfl) dX11_does_14 (zrm_ok rfl) (fun r2 hr2 hf => ?_)
  refine r_istore (L' := [(6, .int r2), (5, .int x1), (0, .ref p0), (1, .int p1), (2, .int p2), (3, .int p3), (4, .int p4)]) C0 dX11_does_17 (by decide) rfl ?_
  refine r_iload_n C0 dX11_does_19 rfl 3 rfl ?_
  refine z_ite hf (fun hx hf => ?_) (fun hx1 hf => ?_)
  · refine r_tsIn (off := 52) C0 72 dX11_does_20 (by rw [hx]; decide) (by rw [hx]; decide) (by rw [hx]; decide) (by decide) ?_
    refine r_iload C0 dX11_does_72 0 rfl ?_
    refine r_if_eq C0 95 dX11_does_74 (by decide) hf (fun hf => ?_) (fun hf => ?_)
    · refine r_iconst (v := 0) C0 dX11_does_95 (by decide) ?_
      obtain rfl := Option.some.inj hf
      exact r_zret C0 rfl dX11_does_96
    · refine r_iload C0 dX11_does_77 1 rfl ?_
      refine r_if_eq C0 95 dX11_does_79 (by decide) hf (fun hf => ?_) (fun hf => ?_)
      · refine r_iconst (v := 0) C0 dX11_does_95 (by decide) ?_
        obtain rfl := Option.some.inj hf
        exact r_zret C0 rfl dX11_does_96
      · refine r_aload_n C0 dX11_does_82 rfl 2 rfl ?_
        refine r_getR C0 (C := RX11) (T := TX11) cl_X11 (K_X11_o hk_p0) (k := 6) (by decide) qw_625 rfl (K_X11_trial_r hk_p0) dX11_does_83 ?_
        refine r_iload_n C0 dX11_does_86 rfl 4 rfl ?_
        refine r_iload C0 dX11_does_87 1 rfl ?_
        refine r_callSi C0 (st := []) [.ref (p0 + 4), .int p2, .int x1] hf vs_141 (fun hl r3 hr3 => c_X11_canTake hl F (p0 + 4) p2 x1 (K_X11_trial_k hk_p0) M r3 hr3) rfl rfl (Nat.le_of_ble_eq_true rfl) dX11_does_89 (zrm_ok rfl) (fun r3 hr3 hf => ?_)
        refine r_if_ne C0 97 dX11_does_92 (by decide) hf (fun hf => ?_) (fun hf => ?_)
        · refine r_aload_n C0 dX11_does_97 rfl 2 rfl ?_
          refine r_getR C0 (C := RX11) (T := TX11) cl_X11 (K_X11_o hk_p0) (k := 6) (by decide) qw_625 rfl (K_X11_trial_r hk_p0) dX11_does_98 ?_
          refine r_iload_n C0 dX11_does_101 rfl 4 rfl ?_
          refine r_iload C0 dX11_does_102 1 rfl ?_
          refine r_callSm C0 (st := []) [.ref (p0 + 4), .int p2, .int x1] hf vs_129 (fun hl r4 hr4 => c_X11_takeOn hl F (p0 + 4) p2 x1 (K_X11_trial_k hk_p0) M r4 hr4) rfl rfl (Nat.le_of_ble_eq_true rfl) dX11_does_104 (zrm_ok rfl) (fun r4 hr4 hf => ?_)
          refine r_iconst (v := 1) C0 dX11_does_107 (by decide) ?_
          obtain rfl := Option.some.inj hf
          exact r_zret C0 rfl dX11_does_108
        · refine r_iconst (v := 0) C0 dX11_does_95 (by decide) ?_
          obtain rfl := Option.some.inj hf
          exact r_zret C0 rfl dX11_does_96
  refine z_ite hf (fun hx hf => ?_) (fun hx2 hf => ?_)
  · refine r_tsIn (off := 89) C0 109 dX11_does_20 (by rw [hx]; decide) (by rw [hx]; decide) (by rw [hx]; decide) (by decide) ?_
    refine r_iload C0 dX11_does_109 1 rfl ?_
    refine r_if_ne C0 145 dX11_does_111 (by decide) hf (fun hf => ?_) (fun hf => ?_)
    · refine r_iconst (v := 0) C0 dX11_does_145 (by decide) ?_
      obtain rfl := Option.some.inj hf
      exact r_zret C0 rfl dX11_does_146
    · refine r_iload C0 dX11_does_114 0 rfl ?_
      refine r_if_eq C0 145 dX11_does_116 (by decide) hf (fun hf => ?_) (fun hf => ?_)
      · refine r_iconst (v := 0) C0 dX11_does_145 (by decide) ?_
        obtain rfl := Option.some.inj hf
        exact r_zret C0 rfl dX11_does_146
      · refine r_aload_n C0 dX11_does_119 rfl 2 rfl ?_
        refine r_getR C0 (C := RX11) (T := TX11) cl_X11 (K_X11_o hk_p0) (k := 6) (by decide) qw_625 rfl (K_X11_trial_r hk_p0) dX11_does_120 ?_
        refine r_iload_n C0 dX11_does_123 rfl 4 rfl ?_
        refine r_callSi C0 (st := []) [.ref (p0 + 4), .int p2] hf vs_142 (fun hl r5 hr5 => c_X11_canSend hl F (p0 + 4) p2 (K_X11_trial_k hk_p0) M r5 hr5) rfl rfl (Nat.le_of_ble_eq_true rfl) dX11_does_124 (zrm_ok rfl) (fun r5 hr5 hf => ?_)
        refine r_if_eq C0 145 dX11_does_127 (by decide) hf (fun hf => ?_) (fun hf => ?_)
        · refine r_iconst (v := 0) C0 dX11_does_145 (by decide) ?_
          obtain rfl := Option.some.inj hf
          exact r_zret C0 rfl dX11_does_146
        · refine r_aload_n C0 dX11_does_130 rfl 2 rfl ?_
          refine r_getR C0 (C := RX11) (T := TX11) cl_X11 (K_X11_o hk_p0) (k := 6) (by decide) qw_625 rfl (K_X11_trial_r hk_p0) dX11_does_131 ?_
          refine r_iload_n C0 dX11_does_134 rfl 4 rfl ?_
          refine r_callSim C0 (st := []) [.ref (p0 + 4), .int p2] hf vs_130 (fun hl r6 hr6 => c_X11_sendOn hl F (p0 + 4) p2 (K_X11_trial_k hk_p0) M r6 hr6) rfl rfl (Nat.le_of_ble_eq_true rfl) dX11_does_135 (zrm_ok rfl) (fun r6 hr6 hf => ?_)
          refine r_if_le C0 145 dX11_does_138 (by decide) hf (fun hf => ?_) (fun hf => ?_)
          · refine r_iconst (v := 0) C0 dX11_does_145 (by decide) ?_
            obtain rfl := Option.some.inj hf
            exact r_zret C0 rfl dX11_does_146
          · refine r_iconst (v := 1) C0 dX11_does_141 (by decide) ?_
            refine r_goto C0 146 dX11_does_142 (by decide) ?_
            obtain rfl := Option.some.inj hf
            exact r_zret C0 rfl dX11_does_146
  refine z_ite hf (fun hx hf => ?_) (fun hx3 hf => ?_)
  · refine r_tsIn (off := 127) C0 147 dX11_does_20 (by rw [hx]; decide) (by rw [hx]; decide) (by rw [hx]; decide) (by decide) ?_
    refine r_iload C0 dX11_does_147 1 rfl ?_
    refine r_if_ne C0 183 dX11_does_149 (by decide) hf (fun hf => ?_) (fun hf => ?_)
    · refine r_iconst (v := 0) C0 dX11_does_183 (by decide) ?_
      obtain rfl := Option.some.inj hf
      exact r_zret C0 rfl dX11_does_184
    · refine r_iload C0 dX11_does_152 0 rfl ?_
      refine r_if_eq C0 183 dX11_does_154 (by decide) hf (fun hf => ?_) (fun hf => ?_)
      · refine r_iconst (v := 0) C0 dX11_does_183 (by decide) ?_
        obtain rfl := Option.some.inj hf
        exact r_zret C0 rfl dX11_does_184
      · refine r_aload_n C0 dX11_does_157 rfl 2 rfl ?_
        refine r_getR C0 (C := RX11) (T := TX11) cl_X11 (K_X11_o hk_p0) (k := 6) (by decide) qw_625 rfl (K_X11_trial_r hk_p0) dX11_does_158 ?_
        refine r_iload_n C0 dX11_does_161 rfl 4 rfl ?_
        refine r_callSi C0 (st := []) [.ref (p0 + 4), .int p2] hf vs_144 (fun hl r7 hr7 => c_X11_canRecall hl F (p0 + 4) p2 (K_X11_trial_k hk_p0) M r7 hr7) rfl rfl (Nat.le_of_ble_eq_true rfl) dX11_does_162 (zrm_ok rfl) (fun r7 hr7 hf => ?_)
        refine r_if_eq C0 183 dX11_does_165 (by decide) hf (fun hf => ?_) (fun hf => ?_)
        · refine r_iconst (v := 0) C0 dX11_does_183 (by decide) ?_
          obtain rfl := Option.some.inj hf
          exact r_zret C0 rfl dX11_does_184
        · refine r_aload_n C0 dX11_does_168 rfl 2 rfl ?_
          refine r_getR C0 (C := RX11) (T := TX11) cl_X11 (K_X11_o hk_p0) (k := 6) (by decide) qw_625 rfl (K_X11_trial_r hk_p0) dX11_does_169 ?_
          refine r_iload_n C0 dX11_does_172 rfl 4 rfl ?_
          refine r_callSim C0 (st := []) [.ref (p0 + 4), .int p2] hf vs_143 (fun hl r8 hr8 => c_X11_recallOn hl F (p0 + 4) p2 (K_X11_trial_k hk_p0) M r8 hr8) rfl rfl (Nat.le_of_ble_eq_true rfl) dX11_does_173 (zrm_ok rfl) (fun r8 hr8 hf => ?_)
          refine r_if_le C0 183 dX11_does_176 (by decide) hf (fun hf => ?_) (fun hf => ?_)
          · refine r_iconst (v := 0) C0 dX11_does_183 (by decide) ?_
            obtain rfl := Option.some.inj hf
            exact r_zret C0 rfl dX11_does_184
          · refine r_iconst (v := 1) C0 dX11_does_179 (by decide) ?_
            refine r_goto C0 184 dX11_does_180 (by decide) ?_
            obtain rfl := Option.some.inj hf
            exact r_zret C0 rfl dX11_does_184
  refine z_ite hf (fun hx hf => ?_) (fun hx4 hf => ?_)
  · refine r_tsIn (off := 165) C0 185 dX11_does_20 (by rw [hx]; decide) (by rw [hx]; decide) (by rw [hx]; decide) (by decide) ?_
    refine r_iload_n C0 dX11_does_185 rfl 5 rfl ?_
    refine r_if_ne C0 218 dX11_does_186 (by decide) hf (fun hf => ?_) (fun hf => ?_)
    · refine r_iconst (v := 0) C0 dX11_does_218 (by decide) ?_
      obtain rfl := Option.some.inj hf
      exact r_zret C0 rfl dX11_does_219
    · refine r_iload C0 dX11_does_189 6 rfl ?_
      refine r_if_eq C0 218 dX11_does_191 (by decide) hf (fun hf => ?_) (fun hf => ?_)
      · refine r_iconst (v := 0) C0 dX11_does_218 (by decide) ?_
        obtain rfl := Option.some.inj hf
        exact r_zret C0 rfl dX11_does_219
      · refine r_aload_n C0 dX11_does_194 rfl 2 rfl ?_
        refine r_getR C0 (C := RX11) (T := TX11) cl_X11 (K_X11_o hk_p0) (k := 6) (by decide) qw_625 rfl (K_X11_trial_r hk_p0) dX11_does_195 ?_
        refine r_iload_n C0 dX11_does_198 rfl 4 rfl ?_
        refine r_callSi C0 (st := []) [.ref (p0 + 4), .int p2] hf vs_138 (fun hl r9 hr9 => c_X11_isZone hl F (p0 + 4) p2 (K_X11_trial_k hk_p0) M r9 hr9) rfl rfl (Nat.le_of_ble_eq_true rfl) dX11_does_199 (zrm_ok rfl) (fun r9 hr9 hf => ?_)
        refine r_if_eq C0 218 dX11_does_202 (by decide) hf (fun hf => ?_) (fun hf => ?_)
        · refine r_iconst (v := 0) C0 dX11_does_218 (by decide) ?_
          obtain rfl := Option.some.inj hf
          exact r_zret C0 rfl dX11_does_219
        · refine r_aload_n C0 dX11_does_205 rfl 2 rfl ?_
          refine r_getR C0 (C := RX11) (T := TX11) cl_X11 (K_X11_o hk_p0) (k := 6) (by decide) qw_625 rfl (K_X11_trial_r hk_p0) dX11_does_206 ?_
          refine r_iload_n C0 dX11_does_209 rfl 4 rfl ?_
          refine r_iload C0 dX11_does_210 6 rfl ?_
          refine r_callSi C0 (st := []) [.ref (p0 + 4), .int p2, .int p4] hf vs_146 (fun hl r10 hr10 => c_X11_canExtend hl F (p0 + 4) p2 p4 (K_X11_trial_k hk_p0) M r10 hr10) rfl rfl (Nat.le_of_ble_eq_true rfl) dX11_does_212 (zrm_ok rfl) (fun r10 hr10 hf => ?_)
          refine r_if_ne C0 220 dX11_does_215 (by decide) hf (fun hf => ?_) (fun hf => ?_)
          · refine r_aload_n C0 dX11_does_220 rfl 2 rfl ?_
            refine r_getR C0 (C := RX11) (T := TX11) cl_X11 (K_X11_o hk_p0) (k := 6) (by decide) qw_625 rfl (K_X11_trial_r hk_p0) dX11_does_221 ?_
            refine r_iload_n C0 dX11_does_224 rfl 4 rfl ?_
            refine r_iload C0 dX11_does_225 6 rfl ?_
            refine r_callSm C0 (st := []) [.ref (p0 + 4), .int p2, .int p4] hf vs_145 (fun hl r11 hr11 => c_X11_extendOn hl F (p0 + 4) p2 p4 (K_X11_trial_k hk_p0) M r11 hr11) rfl rfl (Nat.le_of_ble_eq_true rfl) dX11_does_227 (zrm_ok rfl) (fun r11 hr11 hf => ?_)
            refine r_iconst (v := 1) C0 dX11_does_230 (by decide) ?_
            obtain rfl := Option.some.inj hf
            exact r_zret C0 rfl dX11_does_231
          · refine r_iconst (v := 0) C0 dX11_does_218 (by decide) ?_
            obtain rfl := Option.some.inj hf
            exact r_zret C0 rfl dX11_does_219
  refine z_ite hf (fun hx hf => ?_) (fun hx5 hf => ?_)
  · refine r_tsIn (off := 212) C0 232 dX11_does_20 (by rw [hx]; decide) (by rw [hx]; decide) (by rw [hx]; decide) (by decide) ?_
    refine r_iload_n C0 dX11_does_232 rfl 4 rfl ?_
    refine r_if_ne C0 261 dX11_does_233 (by decide) hf (fun hf => ?_) (fun hf => ?_)
    · refine r_iconst (v := 0) C0 dX11_does_261 (by decide) ?_
      obtain rfl := Option.some.inj hf
      exact r_zret C0 rfl dX11_does_262
    · refine r_iload_n C0 dX11_does_236 rfl 5 rfl ?_
      refine r_if_ne C0 261 dX11_does_237 (by decide) hf (fun hf => ?_) (fun hf => ?_)
      · refine r_iconst (v := 0) C0 dX11_does_261 (by decide) ?_
        obtain rfl := Option.some.inj hf
        exact r_zret C0 rfl dX11_does_262
      · refine r_iload C0 dX11_does_240 6 rfl ?_
        refine r_if_le C0 261 dX11_does_242 (by decide) hf (fun hf => ?_) (fun hf => ?_)
        · refine r_iconst (v := 0) C0 dX11_does_261 (by decide) ?_
          obtain rfl := Option.some.inj hf
          exact r_zret C0 rfl dX11_does_262
        · refine r_aload_n C0 dX11_does_245 rfl 2 rfl ?_
          refine r_getR C0 (C := RX11) (T := TX11) cl_X11 (K_X11_o hk_p0) (k := 6) (by decide) qw_625 rfl (K_X11_trial_r hk_p0) dX11_does_246 ?_
          refine r_iload C0 dX11_does_249 6 rfl ?_
          refine r_callSim C0 (st := []) [.ref (p0 + 4), .int p4] hf vs_148 (fun hl r12 hr12 => c_X11_daysOn hl F (p0 + 4) p4 (K_X11_trial_k hk_p0) M r12 hr12) rfl rfl (Nat.le_of_ble_eq_true rfl) dX11_does_251 (zrm_ok rfl) (fun r12 hr12 hf => ?_)
          refine r_if_lt C0 261 dX11_does_254 (by decide) hf (fun hf => ?_) (fun hf => ?_)
          · refine r_iconst (v := 0) C0 dX11_does_261 (by decide) ?_
            obtain rfl := Option.some.inj hf
            exact r_zret C0 rfl dX11_does_262
          · refine r_iconst (v := 1) C0 dX11_does_257 (by decide) ?_
            refine r_goto C0 262 dX11_does_258 (by decide) ?_
            obtain rfl := Option.some.inj hf
            exact r_zret C0 rfl dX11_does_262
  refine z_ite hf (fun hx hf => ?_) (fun hx6 hf => ?_)
  · refine r_tsIn (off := 243) C0 263 dX11_does_20 (by rw [hx]; decide) (by rw [hx]; decide) (by rw [hx]; decide) (by decide) ?_
    refine r_iload_n C0 dX11_does_263 rfl 4 rfl ?_
    refine r_if_ne C0 287 dX11_does_264 (by decide) hf (fun hf => ?_) (fun hf => ?_)
    · refine r_iconst (v := 0) C0 dX11_does_287 (by decide) ?_
      obtain rfl := Option.some.inj hf
      exact r_zret C0 rfl dX11_does_288
    · refine r_iload C0 dX11_does_267 1 rfl ?_
      refine r_if_eq C0 287 dX11_does_269 (by decide) hf (fun hf => ?_) (fun hf => ?_)
      · refine r_iconst (v := 0) C0 dX11_does_287 (by decide) ?_
        obtain rfl := Option.some.inj hf
        exact r_zret C0 rfl dX11_does_288
      · refine r_aload_n C0 dX11_does_272 rfl 2 rfl ?_
        refine r_getR C0 (C := RX11) (T := TX11) cl_X11 (K_X11_o hk_p0) (k := 6) (by decide) qw_625 rfl (K_X11_trial_r hk_p0) dX11_does_273 ?_
        refine r_iconst (v := 2) C0 dX11_does_276 (by decide) ?_
        refine r_iald' (j := 2) C0 (K_X11_trial_k hk_p0) rfl rfl dX11_does_277 ?_
        refine r_iload C0 dX11_does_278 1 rfl ?_
        refine r_iadd C0 dX11_does_280 ?_
        refine r_sipush (v := 9999) C0 dX11_does_281 (by decide) ?_
        refine r_icmp_le C0 289 dX11_does_284 (by decide) hf (fun hf => ?_) (fun hf => ?_)
        · refine r_aload_n C0 dX11_does_289 rfl 2 rfl ?_
          refine r_getR C0 (C := RX11) (T := TX11) cl_X11 (K_X11_o hk_p0) (k := 6) (by decide) qw_625 rfl (K_X11_trial_r hk_p0) dX11_does_290 ?_
          refine r_iload C0 dX11_does_293 1 rfl ?_
          refine r_callSm C0 (st := []) [.ref (p0 + 4), .int x1] hf vs_147 (fun hl r13 hr13 => c_X11_buyOn hl F (p0 + 4) x1 (K_X11_trial_k hk_p0) M r13 hr13) rfl rfl (Nat.le_of_ble_eq_true rfl) dX11_does_295 (zrm_ok rfl) (fun r13 hr13 hf => ?_)
          refine r_iconst (v := 1) C0 dX11_does_298 (by decide) ?_
          obtain rfl := Option.some.inj hf
          exact r_zret C0 rfl dX11_does_299
        · refine r_iconst (v := 0) C0 dX11_does_287 (by decide) ?_
          obtain rfl := Option.some.inj hf
          exact r_zret C0 rfl dX11_does_288
  refine z_ite hf (fun hx hf => ?_) (fun hx7 hf => ?_)
  · refine r_tsIn (off := 280) C0 300 dX11_does_20 (by rw [hx]; decide) (by rw [hx]; decide) (by rw [hx]; decide) (by decide) ?_
    refine r_iload_n C0 dX11_does_300 rfl 5 rfl ?_
    refine r_if_ne C0 331 dX11_does_301 (by decide) hf (fun hf => ?_) (fun hf => ?_)
    · refine r_iconst (v := 0) C0 dX11_does_331 (by decide) ?_
      obtain rfl := Option.some.inj hf
      exact r_zret C0 rfl dX11_does_332
    · refine r_aload_n C0 dX11_does_304 rfl 2 rfl ?_
      refine r_getR C0 (C := RX11) (T := TX11) cl_X11 (K_X11_o hk_p0) (k := 6) (by decide) qw_625 rfl (K_X11_trial_r hk_p0) dX11_does_305 ?_
      refine r_bipush (v := 7) C0 dX11_does_308 (by decide) ?_
      refine r_iald' (j := 7) C0 (K_X11_trial_k hk_p0) rfl rfl dX11_does_310 ?_
      refine r_iload_n C0 dX11_does_311 rfl 4 rfl ?_
      refine r_icmp_ne C0 331 dX11_does_312 (by decide) hf (fun hf => ?_) (fun hf => ?_)
      · refine r_iconst (v := 0) C0 dX11_does_331 (by decide) ?_
        obtain rfl := Option.some.inj hf
        exact r_zret C0 rfl dX11_does_332
      · refine r_aload_n C0 dX11_does_315 rfl 2 rfl ?_
        refine r_getR C0 (C := RX11) (T := TX11) cl_X11 (K_X11_o hk_p0) (k := 6) (by decide) qw_625 rfl (K_X11_trial_r hk_p0) dX11_does_316 ?_
        refine r_bipush (v := 8) C0 dX11_does_319 (by decide) ?_
        refine r_iald' (j := 8) C0 (K_X11_trial_k hk_p0) rfl rfl dX11_does_321 ?_
        refine r_iload C0 dX11_does_322 6 rfl ?_
        refine r_icmp_ne C0 331 dX11_does_324 (by decide) hf (fun hf => ?_) (fun hf => ?_)
        · refine r_iconst (v := 0) C0 dX11_does_331 (by decide) ?_
          obtain rfl := Option.some.inj hf
          exact r_zret C0 rfl dX11_does_332
        · refine r_iconst (v := 1) C0 dX11_does_327 (by decide) ?_
          refine r_goto C0 332 dX11_does_328 (by decide) ?_
          obtain rfl := Option.some.inj hf
          exact r_zret C0 rfl dX11_does_332
  refine z_ite hf (fun hx hf => ?_) (fun hx8 hf => ?_)
  · refine r_tsIn (off := 313) C0 333 dX11_does_20 (by rw [hx]; decide) (by rw [hx]; decide) (by rw [hx]; decide) (by decide) ?_
    refine r_iload_n C0 dX11_does_333 rfl 5 rfl ?_
    refine r_if_ne C0 368 dX11_does_334 (by decide) hf (fun hf => ?_) (fun hf => ?_)
    · refine r_iconst (v := 0) C0 dX11_does_368 (by decide) ?_
      obtain rfl := Option.some.inj hf
      exact r_zret C0 rfl dX11_does_369
    · refine r_iload C0 dX11_does_337 6 rfl ?_
      refine r_iconst (v := 5) C0 dX11_does_339 (by decide) ?_
      refine r_icmp_ge C0 368 dX11_does_340 (by decide) hf (fun hf => ?_) (fun hf => ?_)
      · refine r_iconst (v := 0) C0 dX11_does_368 (by decide) ?_
        obtain rfl := Option.some.inj hf
        exact r_zret C0 rfl dX11_does_369
      · refine r_iload C0 dX11_does_343 0 rfl ?_
        refine r_if_eq C0 368 dX11_does_345 (by decide) hf (fun hf => ?_) (fun hf => ?_)
        · refine r_iconst (v := 0) C0 dX11_does_368 (by decide) ?_
          obtain rfl := Option.some.inj hf
          exact r_zret C0 rfl dX11_does_369
        · refine r_aload_n C0 dX11_does_348 rfl 2 rfl ?_
          refine r_getR C0 (C := RX11) (T := TX11) cl_X11 (K_X11_o hk_p0) (k := 6) (by decide) qw_625 rfl (K_X11_trial_r hk_p0) dX11_does_349 ?_
          refine r_iload_n C0 dX11_does_352 rfl 4 rfl ?_
          refine r_callSi C0 (st := [.ref (p0 + 4)]) [.int p2] hf vs_115 (fun hl r14 hr14 => c_X11_shipAt hl F p2 M r14 hr14) rfl rfl (Nat.le_of_ble_eq_true rfl) dX11_does_353 (zrm_ok rfl) (fun r14 hr14 hf => ?_)
          refine r_iconst (v := 5) C0 dX11_does_356 (by decide) ?_
          refine r_iadd C0 dX11_does_357 ?_
          refine r_iald C0 (K_X11_trial_k hk_p0) hf dX11_does_358 (fun hf => ?_)
          refine r_iload C0 dX11_does_359 6 rfl ?_
          refine r_icmp_ne C0 368 dX11_does_361 (by decide) hf (fun hf => ?_) (fun hf => ?_)
          · refine r_iconst (v := 0) C0 dX11_does_368 (by decide) ?_
            obtain rfl := Option.some.inj hf
            exact r_zret C0 rfl dX11_does_369
          · refine r_iconst (v := 1) C0 dX11_does_364 (by decide) ?_
            refine r_goto C0 369 dX11_does_365 (by decide) ?_
            obtain rfl := Option.some.inj hf
            exact r_zret C0 rfl dX11_does_369
  refine z_ite hf (fun hx hf => ?_) (fun hx9 hf => ?_)
  · refine r_tsIn (off := 350) C0 370 dX11_does_20 (by rw [hx]; decide) (by rw [hx]; decide) (by rw [hx]; decide) (by decide) ?_
    refine r_iload_n C0 dX11_does_370 rfl 4 rfl ?_
    refine r_if_ne C0 401 dX11_does_371 (by decide) hf (fun hf => ?_) (fun hf => ?_)
    · refine r_iconst (v := 0) C0 dX11_does_401 (by decide) ?_
      obtain rfl := Option.some.inj hf
      exact r_zret C0 rfl dX11_does_402
    · refine r_iload_n C0 dX11_does_374 rfl 5 rfl ?_
      refine r_if_ne C0 401 dX11_does_375 (by decide) hf (fun hf => ?_) (fun hf => ?_)
      · refine r_iconst (v := 0) C0 dX11_does_401 (by decide) ?_
        obtain rfl := Option.some.inj hf
        exact r_zret C0 rfl dX11_does_402
      · refine r_iload C0 dX11_does_378 6 rfl ?_
        refine r_bipush (v := 10) C0 dX11_does_380 (by decide) ?_
        refine r_icmp_ge C0 401 dX11_does_382 (by decide) hf (fun hf => ?_) (fun hf => ?_)
        · refine r_iconst (v := 0) C0 dX11_does_401 (by decide) ?_
          obtain rfl := Option.some.inj hf
          exact r_zret C0 rfl dX11_does_402
        · refine r_aload_n C0 dX11_does_385 rfl 2 rfl ?_
          refine r_getR C0 (C := RX11) (T := TX11) cl_X11 (K_X11_o hk_p0) (k := 6) (by decide) qw_625 rfl (K_X11_trial_r hk_p0) dX11_does_386 ?_
          refine r_bipush (v := 9) C0 dX11_does_389 (by decide) ?_
          refine r_iald' (j := 9) C0 (K_X11_trial_k hk_p0) rfl rfl dX11_does_391 ?_
          refine r_iload C0 dX11_does_392 6 rfl ?_
          refine r_icmp_ne C0 401 dX11_does_394 (by decide) hf (fun hf => ?_) (fun hf => ?_)
          · refine r_iconst (v := 0) C0 dX11_does_401 (by decide) ?_
            obtain rfl := Option.some.inj hf
            exact r_zret C0 rfl dX11_does_402
          · refine r_iconst (v := 1) C0 dX11_does_397 (by decide) ?_
            refine r_goto C0 402 dX11_does_398 (by decide) ?_
            obtain rfl := Option.some.inj hf
            exact r_zret C0 rfl dX11_does_402
  have hy1 := z_ne (a := 1) hx1 (by decide)
  have hy2 := z_ne (a := 2) hx2 (by decide)
  have hy3 := z_ne (a := 3) hx3 (by decide)
  have hy4 := z_ne (a := 4) hx4 (by decide)
  have hy5 := z_ne (a := 5) hx5 (by decide)
  have hy6 := z_ne (a := 6) hx6 (by decide)
  have hy7 := z_ne (a := 7) hx7 (by decide)
  have hy8 := z_ne (a := 8) hx8 (by decide)
  have hy9 := z_ne (a := 9) hx9 (by decide)
  refine r_tsOut C0 403 dX11_does_20 (by omega) (by decide) ?_
  refine r_iconst (v := 0) C0 dX11_does_403 (by decide) ?_
  obtain rfl := Option.some.inj hf
  exact r_zret C0 rfl dX11_does_404
set_option maxHeartbeats 4000000 in
set_option maxRecDepth 100000 in
theorem g_X11_runScript_84 {Γ : zCx} {E : zEn} {S : zSk} {X : zMl} {Z : Nat → Prop} (C0 : zCt Γ E RX11 cX11_runScript 10 (Option.some Jvm.ClassFile.FieldType.int) [] { frames := 8, cells := 0, slots := 0, locals := 192 }) (F : Nat) (p0 : Nat) (p1 : Int32) (p2 : Int64) (hk_p0 : K_X11 S p0) : ∀ (n : Nat) (v4 : Int64) (v6 : Int64) (v8 : Int32) (M : zMi) (r : Int32 × zMi) , f_X11_runScript_84 F p0 p1 p2 n v4 v6 v8 M = some r → zG Γ (zQ Γ E 0 0 S Z (some (.int r.1)) r.2 X) E 10 0 0 S Z M X 84 [(0, .ref p0), (1, .int p1), (4, .long v4), (6, .long v6), (8, .int v8)] [] := by
  intro n
  induction n with
  | zero => intro v4 v6 v8 M r; intro hf; cases hf
  | succ n ih =>
    intro v4 v6 v8 M r hf
    refine r_iload C0 dX11_runScript_84 4 rfl ?_
    refine r_iload_n C0 dX11_runScript_86 rfl 1 rfl ?_
    refine r_icmp_ge C0 157 dX11_runScript_87 (by decide) hf (fun hf => ?_) (fun hf => ?_)
    · refine r_bipush (v := -9) C0 dX11_runScript_157 (by decide) ?_
      obtain rfl := Option.some.inj hf
      exact r_iret C0 dX11_runScript_159
    · refine r_lload C0 dX11_runScript_90 2 rfl ?_
      refine r_ldc2 (v := 100000) C0 qw_633 dX11_runScript_92 ?_
      refine r_ldiv' C0 dX11_runScript_95 (by decide) ?_
      refine r_nmL hf (fun x1 hf => ?_)
      refine r_lstore (L' := [(4, .long x1), (0, .ref p0), (1, .int p1), (6, .long v6), (8, .int v8)]) C0 dX11_runScript_96 (by decide) rfl ?_
      refine r_lload C0 dX11_runScript_98 3 rfl ?_
      refine r_lload C0 dX11_runScript_100 0 rfl ?_
      refine r_ldiv C0 dX11_runScript_102 hf (fun hf => ?_)
      refine r_l2i C0 dX11_runScript_103 ?_
      refine r_nm hf (fun x2 hf => ?_)
      refine r_istore (L' := [(9, .int x2), (4, .long x1), (0, .ref p0), (1, .int p1), (6, .long v6), (8, .int v8)]) C0 dX11_runScript_104 (by decide) rfl ?_
      refine r_lload C0 dX11_runScript_106 4 rfl ?_
      refine r_lload C0 dX11_runScript_108 1 rfl ?_
      refine r_lrem C0 dX11_runScript_110 hf (fun hf => ?_)
      refine r_nmL hf (fun x3 hf => ?_)
      refine r_lstore (L' := [(6, .long x3), (9, .int x2), (4, .long x1), (0, .ref p0), (1, .int p1), (8, .int v8)]) C0 dX11_runScript_111 (by decide) rfl ?_
      refine r_aload_n C0 dX11_runScript_113 rfl 3 rfl ?_
      refine r_iload C0 dX11_runScript_114 1 rfl ?_
      refine r_sipush (v := 10000) C0 dX11_runScript_116 (by decide) ?_
      refine r_idiv' C0 dX11_runScript_119 (by decide) ?_
      refine r_iload C0 dX11_runScript_120 1 rfl ?_
      refine r_sipush (v := 1000) C0 dX11_runScript_122 (by decide) ?_
      refine r_idiv' C0 dX11_runScript_125 (by decide) ?_
      refine r_bipush (v := 10) C0 dX11_runScript_126 (by decide) ?_
      refine r_irem' C0 dX11_runScript_128 (by decide) ?_
      refine r_iload C0 dX11_runScript_129 1 rfl ?_
      refine r_bipush (v := 100) C0 dX11_runScript_131 (by decide) ?_
      refine r_idiv' C0 dX11_runScript_133 (by decide) ?_
      refine r_bipush (v := 10) C0 dX11_runScript_134 (by decide) ?_
      refine r_irem' C0 dX11_runScript_136 (by decide) ?_
      refine r_iload C0 dX11_runScript_137 1 rfl ?_
      refine r_bipush (v := 100) C0 dX11_runScript_139 (by decide) ?_
      refine r_irem' C0 dX11_runScript_141 (by decide) ?_
      refine r_callVim C0 (st := []) [.int (x2 / (10000 : Int32)), .int ((x2 / (1000 : Int32)) - (x2 / (1000 : Int32)) / (10 : Int32) * (10 : Int32)), .int ((x2 / (100 : Int32)) - (x2 / (100 : Int32)) / (10 : Int32) * (10 : Int32)), .int (x2 - x2 / (100 : Int32) * (100 : Int32))] p0 hf vs_151 (fun hl r4 hr4 => c_X11_does hl F p0 (x2 / (10000 : Int32)) ((x2 / (1000 : Int32)) - (x2 / (1000 : Int32)) / (10 : Int32) * (10 : Int32)) ((x2 / (100 : Int32)) - (x2 / (100 : Int32)) / (10 : Int32) * (10 : Int32)) (x2 - x2 / (100 : Int32) * (100 : Int32)) hk_p0 M r4 hr4) (K_X11_o hk_p0) rfl rfl rfl rfl (Nat.le_of_ble_eq_true rfl) dX11_runScript_142 (zrm_ok rfl) (fun r4 hr4 hf => ?_)
      refine r_if_ne C0 151 dX11_runScript_145 (by decide) hf (fun hf => ?_) (fun hf => ?_)
      · refine r_iinc (j := 5) (v := (v8 + (1 : Int32))) (L' := [(8, .int (v8 + (1 : Int32))), (6, .long x3), (9, .int x2), (4, .long x1), (0, .ref p0), (1, .int p1)]) C0 dX11_runScript_151 rfl rfl (by decide) rfl ?_
        refine r_goto C0 84 dX11_runScript_154 (by decide) ?_
        refine r_sub (L' := [(0, .ref p0), (1, .int p1), (4, .long x1), (6, .long x3), (8, .int (v8 + (1 : Int32)))]) [4, 5, 3, 1, 0] rfl ?_
        exact ih x1 x3 (v8 + (1 : Int32)) r4.2 _  hf
      · refine r_iload C0 dX11_runScript_148 5 rfl ?_
        obtain rfl := Option.some.inj hf
        exact r_iret C0 dX11_runScript_150
set_option maxHeartbeats 4000000 in
set_option maxRecDepth 100000 in
theorem g_X11_runScript_57 {Γ : zCx} {E : zEn} {S : zSk} {X : zMl} {Z : Nat → Prop} (C0 : zCt Γ E RX11 cX11_runScript 10 (Option.some Jvm.ClassFile.FieldType.int) [] { frames := 8, cells := 0, slots := 0, locals := 192 }) (F : Nat) (p0 : Nat) (p1 : Int32) (p2 : Int64) (hk_p0 : K_X11 S p0) (v4 : Int64) (s0 : Int32) (M : zMi) (r : Int32 × zMi)  (hf : f_X11_runScript_57 F p0 p1 p2 v4 s0 M = some r) : zG Γ (zQ Γ E 0 0 S Z (some (.int r.1)) r.2 X) E 10 0 0 S Z M X 57 [(0, .ref p0), (1, .int p1), (2, .long p2), (4, .long v4)] [.int s0, .ref p0] := by
  unfold f_X11_runScript_57 at hf
  refine r_callVim C0 (st := []) [.int s0] p0 hf vs_131 (fun hl r1 hr1 => c_X11_refused hl F p0 s0 hk_p0 M r1 hr1) (K_X11_o hk_p0) rfl rfl rfl rfl (Nat.le_of_ble_eq_true rfl) dX11_runScript_57 (zrm_ok rfl) (fun r1 hr1 hf => ?_)
  refine r_if_eq C0 65 dX11_runScript_60 (by decide) hf (fun hf => ?_) (fun hf => ?_)
  · refine r_aload_n C0 dX11_runScript_65 rfl 0 rfl ?_
    refine r_getR C0 (C := RX11) (T := TX11) cl_X11 (K_X11_o hk_p0) (k := 5) (by decide) qw_578 rfl (K_X11_now_r hk_p0) dX11_runScript_66 ?_
    refine r_iconst (v := 0) C0 dX11_runScript_69 (by decide) ?_
    refine r_aload_n C0 dX11_runScript_70 rfl 0 rfl ?_
    refine r_getR C0 (C := RX11) (T := TX11) cl_X11 (K_X11_o hk_p0) (k := 6) (by decide) qw_625 rfl (K_X11_trial_r hk_p0) dX11_runScript_71 ?_
    refine r_iconst (v := 0) C0 dX11_runScript_74 (by decide) ?_
    refine r_callSm C0 (st := []) [.ref (p0 + 3), .int (0 : Int32), .ref (p0 + 4), .int (0 : Int32)] hf vs_137 (fun hl r2 hr2 => c_X11_copyPage hl F (p0 + 3) 121 (0 : Int32) (p0 + 4) 121 (0 : Int32) (K_X11_now_k hk_p0) (K_X11_trial_k hk_p0) r1.2 r2 hr2) rfl rfl (Nat.le_of_ble_eq_true rfl) dX11_runScript_75 (zrm_ok rfl) (fun r2 hr2 hf => ?_)
    refine r_lload_n C0 dX11_runScript_78 rfl 2 rfl ?_
    refine r_lstore (L' := [(6, .long p2), (0, .ref p0), (1, .int p1), (2, .long p2), (4, .long v4)]) C0 dX11_runScript_79 (by decide) rfl ?_
    refine r_iconst (v := 0) C0 dX11_runScript_81 (by decide) ?_
    refine r_istore (L' := [(8, .int (0 : Int32)), (6, .long p2), (0, .ref p0), (1, .int p1), (2, .long p2), (4, .long v4)]) C0 dX11_runScript_82 (by decide) rfl ?_
    refine r_sub (L' := [(0, .ref p0), (1, .int p1), (4, .long v4), (6, .long p2), (8, .int (0 : Int32))]) [2, 3, 5, 1, 0] rfl ?_
    exact g_X11_runScript_84 C0 F p0 p1 p2 hk_p0 F v4 p2 (0 : Int32) r2 _  hf
  · refine r_iconst (v := 0) C0 dX11_runScript_63 (by decide) ?_
    obtain rfl := Option.some.inj hf
    exact r_iret C0 dX11_runScript_64
set_option maxHeartbeats 4000000 in
set_option maxRecDepth 100000 in
theorem g_X11_runScript_25 {Γ : zCx} {E : zEn} {S : zSk} {X : zMl} {Z : Nat → Prop} (C0 : zCt Γ E RX11 cX11_runScript 10 (Option.some Jvm.ClassFile.FieldType.int) [] { frames := 8, cells := 0, slots := 0, locals := 192 }) (F : Nat) (p0 : Nat) (p1 : Int32) (p2 : Int64) (hk_p0 : K_X11 S p0) (s0 : Int64) (M : zMi) (r : Int32 × zMi)  (hf : f_X11_runScript_25 F p0 p1 p2 s0 M = some r) : zG Γ (zQ Γ E 0 0 S Z (some (.int r.1)) r.2 X) E 10 0 0 S Z M X 25 [(0, .ref p0), (1, .int p1), (2, .long p2)] [.long s0] := by
  unfold f_X11_runScript_25 at hf
  refine r_lstore (L' := [(4, .long s0), (0, .ref p0), (1, .int p1), (2, .long p2)]) C0 dX11_runScript_25 (by decide) rfl ?_
  refine r_aload_n C0 dX11_runScript_27 rfl 1 rfl ?_
  refine r_iload_n C0 dX11_runScript_28 rfl 2 rfl ?_
  refine r_i2l C0 dX11_runScript_29 ?_
  refine r_lconst (v := 1) C0 dX11_runScript_30 (by decide) ?_
  refine r_ldc2 (v := 3) C0 qw_528 dX11_runScript_31 ?_
  refine r_callSi C0 (st := [.ref p0]) [.long ((p1).toInt64), .long (1 : Int64), .long (3 : Int64)] hf vs_112 (fun hl r1 hr1 => c_X11_in hl F ((p1).toInt64) (1 : Int64) (3 : Int64) M r1 hr1) rfl rfl (Nat.le_of_ble_eq_true rfl) dX11_runScript_34 (zrm_ok rfl) (fun r1 hr1 hf => ?_)
  refine r_if_eq C0 56 dX11_runScript_37 (by decide) hf (fun hf => ?_) (fun hf => ?_)
  · refine r_iconst (v := 1) C0 dX11_runScript_56 (by decide) ?_
    refine r_sub (L' := [(0, .ref p0), (1, .int p1), (2, .long p2), (4, .long s0)]) [1, 2, 3, 0] rfl ?_
    exact g_X11_runScript_57 C0 F p0 p1 p2 hk_p0 s0 (1 : Int32) M _  hf
  · refine r_lload_n C0 dX11_runScript_40 rfl 3 rfl ?_
    refine r_lconst (v := 0) C0 dX11_runScript_41 (by decide) ?_
    refine r_lload C0 dX11_runScript_42 0 rfl ?_
    refine r_lconst (v := 1) C0 dX11_runScript_44 (by decide) ?_
    refine r_lsub C0 dX11_runScript_45 ?_
    refine r_callSi C0 (st := [.ref p0]) [.long p2, .long (0 : Int64), .long (s0 - (1 : Int64))] hf vs_112 (fun hl r2 hr2 => c_X11_in hl F p2 (0 : Int64) (s0 - (1 : Int64)) M r2 hr2) rfl rfl (Nat.le_of_ble_eq_true rfl) dX11_runScript_46 (zrm_ok rfl) (fun r2 hr2 hf => ?_)
    refine r_if_eq C0 56 dX11_runScript_49 (by decide) hf (fun hf => ?_) (fun hf => ?_)
    · refine r_iconst (v := 1) C0 dX11_runScript_56 (by decide) ?_
      refine r_sub (L' := [(0, .ref p0), (1, .int p1), (2, .long p2), (4, .long s0)]) [1, 2, 3, 0] rfl ?_
      exact g_X11_runScript_57 C0 F p0 p1 p2 hk_p0 s0 (1 : Int32) M _  hf
    · refine r_iconst (v := 0) C0 dX11_runScript_52 (by decide) ?_
      refine r_goto C0 57 dX11_runScript_53 (by decide) ?_
      refine r_sub (L' := [(0, .ref p0), (1, .int p1), (2, .long p2), (4, .long s0)]) [1, 2, 3, 0] rfl ?_
      exact g_X11_runScript_57 C0 F p0 p1 p2 hk_p0 s0 (0 : Int32) M _  hf
set_option maxHeartbeats 4000000 in
set_option maxRecDepth 100000 in
theorem c_X11_runScript {l : Launch} {E : zEn} {S : zSk} {X : zMl} {Z : Nat → Prop} (hl : l.stackTraces = false) (F : Nat) (p0 : Nat) (p1 : Int32) (p2 : Int64) (hk_p0 : K_X11 S p0) (M : zMi) (r : Int32 × zMi) (hf : f_X11_runScript F p0 p1 p2 M = some r) : zM l E yX11_runScript cX11_runScript 10 (Option.some Jvm.ClassFile.FieldType.int) { frames := 8, cells := 0, slots := 0, locals := 192 } 0 0 [.ref p0, .int p1, .long p2] S Z M X S Z (some (.int r.1)) r.2 X := by
  refine zM.intro (L0 := [(0, .ref p0), (1, .int p1), (2, .long p2)]) hl (by decide) (Nat.le_of_ble_eq_true rfl) rfl (fun Γ C0 _ => ?_)
  unfold f_X11_runScript at hf
  refine r_iload_n C0 dX11_runScript_0 rfl 1 rfl ?_
  refine r_iconst (v := 1) C0 dX11_runScript_1 (by decide) ?_
  refine r_icmp_ne C0 11 dX11_runScript_2 (by decide) hf (fun hf => ?_) (fun hf => ?_)
  · refine r_iload_n C0 dX11_runScript_11 rfl 1 rfl ?_
    refine r_iconst (v := 2) C0 dX11_runScript_12 (by decide) ?_
    refine r_icmp_ne C0 22 dX11_runScript_13 (by decide) hf (fun hf => ?_) (fun hf => ?_)
    · refine r_ldc2 (v := 1000000000000000) C0 qw_638 dX11_runScript_22 ?_
      refine r_sub (L' := [(0, .ref p0), (1, .int p1), (2, .long p2)]) [0, 1, 2] rfl ?_
      exact g_X11_runScript_25 C0 F p0 p1 p2 hk_p0 (1000000000000000 : Int64) M _  hf
    · refine r_ldc2 (v := 10000000000) C0 qw_639 dX11_runScript_16 ?_
      refine r_goto C0 25 dX11_runScript_19 (by decide) ?_
      refine r_sub (L' := [(0, .ref p0), (1, .int p1), (2, .long p2)]) [0, 1, 2] rfl ?_
      exact g_X11_runScript_25 C0 F p0 p1 p2 hk_p0 (10000000000 : Int64) M _  hf
  · refine r_ldc2 (v := 100000) C0 qw_633 dX11_runScript_5 ?_
    refine r_goto C0 25 dX11_runScript_8 (by decide) ?_
    refine r_sub (L' := [(0, .ref p0), (1, .int p1), (2, .long p2)]) [0, 1, 2] rfl ?_
    exact g_X11_runScript_25 C0 F p0 p1 p2 hk_p0 (100000 : Int64) M _  hf
set_option maxHeartbeats 4000000 in
set_option maxRecDepth 100000 in
theorem g_X11_simulate_45 {Γ : zCx} {E : zEn} {S : zSk} {X : zMl} {Z : Nat → Prop} (C0 : zCt Γ E RX11 cX11_simulate 9 (Option.some Jvm.ClassFile.FieldType.int) [] { frames := 6, cells := 0, slots := 0, locals := 143 }) (F : Nat) (p0 : Nat) (p1 : Int64) (p2 : Int32) (hk_p0 : K_X11 S p0) : ∀ (n : Nat) (v4 : Int64) (v6 : Int32) (M : zMi) (r : Int32 × zMi) , f_X11_simulate_45 F p0 p1 p2 n v4 v6 M = some r → zG Γ (zQ Γ E 0 0 S Z (some (.int r.1)) r.2 X) E 9 0 0 S Z M X 45 [(0, .ref p0), (3, .int p2), (4, .long v4), (6, .int v6)] [] := by
  intro n
  induction n with
  | zero => intro v4 v6 M r; intro hf; cases hf
  | succ n ih =>
    intro v4 v6 M r hf
    refine r_iload C0 dX11_simulate_45 3 rfl ?_
    refine r_iload_n C0 dX11_simulate_47 rfl 1 rfl ?_
    refine r_icmp_ge C0 169 dX11_simulate_48 (by decide) hf (fun hf => ?_) (fun hf => ?_)
    · refine r_sipush (v := 1000) C0 dX11_simulate_169 (by decide) ?_
      refine r_aload_n C0 dX11_simulate_172 rfl 0 rfl ?_
      refine r_getR C0 (C := RX11) (T := TX11) cl_X11 (K_X11_o hk_p0) (k := 6) (by decide) qw_625 rfl (K_X11_trial_r hk_p0) dX11_simulate_173 ?_
      refine r_bipush (v := 17) C0 dX11_simulate_176 (by decide) ?_
      refine r_iald' (j := 17) C0 (K_X11_trial_k hk_p0) rfl rfl dX11_simulate_178 ?_
      refine r_aload_n C0 dX11_simulate_179 rfl 0 rfl ?_
      refine r_getR C0 (C := RX11) (T := TX11) cl_X11 (K_X11_o hk_p0) (k := 5) (by decide) qw_578 rfl (K_X11_now_r hk_p0) dX11_simulate_180 ?_
      refine r_bipush (v := 17) C0 dX11_simulate_183 (by decide) ?_
      refine r_iald' (j := 17) C0 (K_X11_now_k hk_p0) rfl rfl dX11_simulate_185 ?_
      refine r_isub C0 dX11_simulate_186 ?_
      refine r_imul C0 dX11_simulate_187 ?_
      refine r_aload_n C0 dX11_simulate_188 rfl 0 rfl ?_
      refine r_getR C0 (C := RX11) (T := TX11) cl_X11 (K_X11_o hk_p0) (k := 6) (by decide) qw_625 rfl (K_X11_trial_r hk_p0) dX11_simulate_189 ?_
      refine r_iconst (v := 3) C0 dX11_simulate_192 (by decide) ?_
      refine r_iald' (j := 3) C0 (K_X11_trial_k hk_p0) rfl rfl dX11_simulate_193 ?_
      refine r_iadd C0 dX11_simulate_194 ?_
      obtain rfl := Option.some.inj hf
      exact r_iret C0 dX11_simulate_195
    · refine r_lload C0 dX11_simulate_51 2 rfl ?_
      refine r_ldc2 (v := 6364136223846793005) C0 qw_640 dX11_simulate_53 ?_
      refine r_lmul C0 dX11_simulate_56 ?_
      refine r_ldc2 (v := 1442695040888963407) C0 qw_641 dX11_simulate_57 ?_
      refine r_ladd C0 dX11_simulate_60 ?_
      refine r_nmL hf (fun x1 hf => ?_)
      refine r_lstore (L' := [(4, .long x1), (0, .ref p0), (3, .int p2), (6, .int v6)]) C0 dX11_simulate_61 (by decide) rfl ?_
      refine r_lload C0 dX11_simulate_63 0 rfl ?_
      refine r_bipush (v := 33) C0 dX11_simulate_65 (by decide) ?_
      refine r_lushr C0 dX11_simulate_67 ?_
      refine r_l2i C0 dX11_simulate_68 ?_
      refine r_nm hf (fun x2 hf => ?_)
      refine r_istore (L' := [(7, .int x2), (4, .long x1), (0, .ref p0), (3, .int p2), (6, .int v6)]) C0 dX11_simulate_69 (by decide) rfl ?_
      refine r_iload C0 dX11_simulate_71 0 rfl ?_
      refine r_bipush (v := 8) C0 dX11_simulate_73 (by decide) ?_
      refine r_idiv' C0 dX11_simulate_75 (by decide) ?_
      refine r_aload_n C0 dX11_simulate_76 rfl 2 rfl ?_
      refine r_getR C0 (C := RX11) (T := TX11) cl_X11 (K_X11_o hk_p0) (k := 6) (by decide) qw_625 rfl (K_X11_trial_r hk_p0) dX11_simulate_77 ?_
      refine r_iconst (v := 5) C0 dX11_simulate_80 (by decide) ?_
      refine r_iald' (j := 5) C0 (K_X11_trial_k hk_p0) rfl rfl dX11_simulate_81 ?_
      refine r_irem C0 dX11_simulate_82 hf (fun hf => ?_)
      refine r_nm hf (fun x3 hf => ?_)
      refine r_istore (L' := [(8, .int x3), (7, .int x2), (4, .long x1), (0, .ref p0), (3, .int p2), (6, .int v6)]) C0 dX11_simulate_83 (by decide) rfl ?_
      refine r_iload C0 dX11_simulate_85 1 rfl ?_
      refine r_bipush (v := 8) C0 dX11_simulate_87 (by decide) ?_
      refine r_irem' C0 dX11_simulate_89 (by decide) ?_
      refine r_if_ne C0 126 dX11_simulate_90 (by decide) hf (fun hf => ?_) (fun hf => ?_)
      · refine r_iload C0 dX11_simulate_126 1 rfl ?_
        refine r_bipush (v := 8) C0 dX11_simulate_128 (by decide) ?_
        refine r_irem' C0 dX11_simulate_130 (by decide) ?_
        refine r_iconst (v := 3) C0 dX11_simulate_131 (by decide) ?_
        refine r_icmp_ge C0 156 dX11_simulate_132 (by decide) hf (fun hf => ?_) (fun hf => ?_)
        · refine r_aload_n C0 dX11_simulate_156 rfl 3 rfl ?_
          refine r_getR C0 (C := RX11) (T := TX11) cl_X11 (K_X11_o hk_p0) (k := 6) (by decide) qw_625 rfl (K_X11_trial_r hk_p0) dX11_simulate_157 ?_
          refine r_callSm C0 (st := []) [.ref (p0 + 4)] hf vs_128 (fun hl r4 hr4 => c_X11_dayOn hl F (p0 + 4) (K_X11_trial_k hk_p0) M r4 hr4) rfl rfl (Nat.le_of_ble_eq_true rfl) dX11_simulate_160 (zrm_ok rfl) (fun r4 hr4 hf => ?_)
          refine r_iinc (j := 5) (v := (v6 + (1 : Int32))) (L' := [(6, .int (v6 + (1 : Int32))), (8, .int x3), (7, .int x2), (4, .long x1), (0, .ref p0), (3, .int p2)]) C0 dX11_simulate_163 rfl rfl (by decide) rfl ?_
          refine r_goto C0 45 dX11_simulate_166 (by decide) ?_
          refine r_sub (L' := [(0, .ref p0), (3, .int p2), (4, .long x1), (6, .int (v6 + (1 : Int32)))]) [4, 5, 3, 0] rfl ?_
          exact ih x1 (v6 + (1 : Int32)) r4 _  hf
        · refine r_aload_n C0 dX11_simulate_135 rfl 3 rfl ?_
          refine r_getR C0 (C := RX11) (T := TX11) cl_X11 (K_X11_o hk_p0) (k := 6) (by decide) qw_625 rfl (K_X11_trial_r hk_p0) dX11_simulate_136 ?_
          refine r_iload C0 dX11_simulate_139 0 rfl ?_
          refine r_callSi C0 (st := []) [.ref (p0 + 4), .int x3] hf vs_142 (fun hl r5 hr5 => c_X11_canSend hl F (p0 + 4) x3 (K_X11_trial_k hk_p0) M r5 hr5) rfl rfl (Nat.le_of_ble_eq_true rfl) dX11_simulate_141 (zrm_ok rfl) (fun r5 hr5 hf => ?_)
          refine r_if_eq C0 156 dX11_simulate_144 (by decide) hf (fun hf => ?_) (fun hf => ?_)
          · refine r_aload_n C0 dX11_simulate_156 rfl 3 rfl ?_
            refine r_getR C0 (C := RX11) (T := TX11) cl_X11 (K_X11_o hk_p0) (k := 6) (by decide) qw_625 rfl (K_X11_trial_r hk_p0) dX11_simulate_157 ?_
            refine r_callSm C0 (st := []) [.ref (p0 + 4)] hf vs_128 (fun hl r6 hr6 => c_X11_dayOn hl F (p0 + 4) (K_X11_trial_k hk_p0) M r6 hr6) rfl rfl (Nat.le_of_ble_eq_true rfl) dX11_simulate_160 (zrm_ok rfl) (fun r6 hr6 hf => ?_)
            refine r_iinc (j := 5) (v := (v6 + (1 : Int32))) (L' := [(6, .int (v6 + (1 : Int32))), (8, .int x3), (7, .int x2), (4, .long x1), (0, .ref p0), (3, .int p2)]) C0 dX11_simulate_163 rfl rfl (by decide) rfl ?_
            refine r_goto C0 45 dX11_simulate_166 (by decide) ?_
            refine r_sub (L' := [(0, .ref p0), (3, .int p2), (4, .long x1), (6, .int (v6 + (1 : Int32)))]) [4, 5, 3, 0] rfl ?_
            exact ih x1 (v6 + (1 : Int32)) r6 _  hf
          · refine r_aload_n C0 dX11_simulate_147 rfl 3 rfl ?_
            refine r_getR C0 (C := RX11) (T := TX11) cl_X11 (K_X11_o hk_p0) (k := 6) (by decide) qw_625 rfl (K_X11_trial_r hk_p0) dX11_simulate_148 ?_
            refine r_iload C0 dX11_simulate_151 0 rfl ?_
            refine r_callSm C0 (st := []) [.ref (p0 + 4), .int x3] hf vs_150 (fun hl r7 hr7 => c_X11_fillAndSend hl F (p0 + 4) x3 (K_X11_trial_k hk_p0) M r7 hr7) rfl rfl (Nat.le_of_ble_eq_true rfl) dX11_simulate_153 (zrm_ok rfl) (fun r7 hr7 hf => ?_)
            refine r_aload_n C0 dX11_simulate_156 rfl 3 rfl ?_
            refine r_getR C0 (C := RX11) (T := TX11) cl_X11 (K_X11_o hk_p0) (k := 6) (by decide) qw_625 rfl (K_X11_trial_r hk_p0) dX11_simulate_157 ?_
            refine r_callSm C0 (st := []) [.ref (p0 + 4)] hf vs_128 (fun hl r8 hr8 => c_X11_dayOn hl F (p0 + 4) (K_X11_trial_k hk_p0) r7 r8 hr8) rfl rfl (Nat.le_of_ble_eq_true rfl) dX11_simulate_160 (zrm_ok rfl) (fun r8 hr8 hf => ?_)
            refine r_iinc (j := 5) (v := (v6 + (1 : Int32))) (L' := [(6, .int (v6 + (1 : Int32))), (8, .int x3), (7, .int x2), (4, .long x1), (0, .ref p0), (3, .int p2)]) C0 dX11_simulate_163 rfl rfl (by decide) rfl ?_
            refine r_goto C0 45 dX11_simulate_166 (by decide) ?_
            refine r_sub (L' := [(0, .ref p0), (3, .int p2), (4, .long x1), (6, .int (v6 + (1 : Int32)))]) [4, 5, 3, 0] rfl ?_
            exact ih x1 (v6 + (1 : Int32)) r8 _  hf
      · refine r_aload_n C0 dX11_simulate_93 rfl 3 rfl ?_
        refine r_getR C0 (C := RX11) (T := TX11) cl_X11 (K_X11_o hk_p0) (k := 6) (by decide) qw_625 rfl (K_X11_trial_r hk_p0) dX11_simulate_94 ?_
        refine r_bipush (v := 91) C0 dX11_simulate_97 (by decide) ?_
        refine r_iload C0 dX11_simulate_99 1 rfl ?_
        refine r_bipush (v := 64) C0 dX11_simulate_101 (by decide) ?_
        refine r_idiv' C0 dX11_simulate_103 (by decide) ?_
        refine r_aload_n C0 dX11_simulate_104 rfl 3 rfl ?_
        refine r_getR C0 (C := RX11) (T := TX11) cl_X11 (K_X11_o hk_p0) (k := 6) (by decide) qw_625 rfl (K_X11_trial_r hk_p0) dX11_simulate_105 ?_
        refine r_bipush (v := 6) C0 dX11_simulate_108 (by decide) ?_
        refine r_iald' (j := 6) C0 (K_X11_trial_k hk_p0) rfl rfl dX11_simulate_110 ?_
        refine r_irem C0 dX11_simulate_111 hf (fun hf => ?_)
        refine r_iadd C0 dX11_simulate_112 ?_
        refine r_iload C0 dX11_simulate_113 1 rfl ?_
        refine r_sipush (v := 2048) C0 dX11_simulate_115 (by decide) ?_
        refine r_idiv' C0 dX11_simulate_118 (by decide) ?_
        refine r_bipush (v := 10) C0 dX11_simulate_119 (by decide) ?_
        refine r_irem' C0 dX11_simulate_121 (by decide) ?_
        refine r_iast C0 (K_X11_trial_k hk_p0) hf dX11_simulate_122 (fun M9 hf => ?_)
        refine r_goto C0 156 dX11_simulate_123 (by decide) ?_
        refine r_aload_n C0 dX11_simulate_156 rfl 3 rfl ?_
        refine r_getR C0 (C := RX11) (T := TX11) cl_X11 (K_X11_o hk_p0) (k := 6) (by decide) qw_625 rfl (K_X11_trial_r hk_p0) dX11_simulate_157 ?_
        refine r_callSm C0 (st := []) [.ref (p0 + 4)] hf vs_128 (fun hl r10 hr10 => c_X11_dayOn hl F (p0 + 4) (K_X11_trial_k hk_p0) M9 r10 hr10) rfl rfl (Nat.le_of_ble_eq_true rfl) dX11_simulate_160 (zrm_ok rfl) (fun r10 hr10 hf => ?_)
        refine r_iinc (j := 5) (v := (v6 + (1 : Int32))) (L' := [(6, .int (v6 + (1 : Int32))), (8, .int x3), (7, .int x2), (4, .long x1), (0, .ref p0), (3, .int p2)]) C0 dX11_simulate_163 rfl rfl (by decide) rfl ?_
        refine r_goto C0 45 dX11_simulate_166 (by decide) ?_
        refine r_sub (L' := [(0, .ref p0), (3, .int p2), (4, .long x1), (6, .int (v6 + (1 : Int32)))]) [4, 5, 3, 0] rfl ?_
        exact ih x1 (v6 + (1 : Int32)) r10 _  hf
set_option maxHeartbeats 4000000 in
set_option maxRecDepth 100000 in
theorem g_X11_simulate_18 {Γ : zCx} {E : zEn} {S : zSk} {X : zMl} {Z : Nat → Prop} (C0 : zCt Γ E RX11 cX11_simulate 9 (Option.some Jvm.ClassFile.FieldType.int) [] { frames := 6, cells := 0, slots := 0, locals := 143 }) (F : Nat) (p0 : Nat) (p1 : Int64) (p2 : Int32) (hk_p0 : K_X11 S p0) (s0 : Int32) (M : zMi) (r : Int32 × zMi)  (hf : f_X11_simulate_18 F p0 p1 p2 s0 M = some r) : zG Γ (zQ Γ E 0 0 S Z (some (.int r.1)) r.2 X) E 9 0 0 S Z M X 18 [(0, .ref p0), (1, .long p1), (3, .int p2)] [.int s0, .ref p0] := by
  unfold f_X11_simulate_18 at hf
  refine r_callVim C0 (st := []) [.int s0] p0 hf vs_131 (fun hl r1 hr1 => c_X11_refused hl F p0 s0 hk_p0 M r1 hr1) (K_X11_o hk_p0) rfl rfl rfl rfl (Nat.le_of_ble_eq_true rfl) dX11_simulate_18 (zrm_ok rfl) (fun r1 hr1 hf => ?_)
  refine r_if_eq C0 26 dX11_simulate_21 (by decide) hf (fun hf => ?_) (fun hf => ?_)
  · refine r_aload_n C0 dX11_simulate_26 rfl 0 rfl ?_
    refine r_getR C0 (C := RX11) (T := TX11) cl_X11 (K_X11_o hk_p0) (k := 5) (by decide) qw_578 rfl (K_X11_now_r hk_p0) dX11_simulate_27 ?_
    refine r_iconst (v := 0) C0 dX11_simulate_30 (by decide) ?_
    refine r_aload_n C0 dX11_simulate_31 rfl 0 rfl ?_
    refine r_getR C0 (C := RX11) (T := TX11) cl_X11 (K_X11_o hk_p0) (k := 6) (by decide) qw_625 rfl (K_X11_trial_r hk_p0) dX11_simulate_32 ?_
    refine r_iconst (v := 0) C0 dX11_simulate_35 (by decide) ?_
    refine r_callSm C0 (st := []) [.ref (p0 + 3), .int (0 : Int32), .ref (p0 + 4), .int (0 : Int32)] hf vs_137 (fun hl r2 hr2 => c_X11_copyPage hl F (p0 + 3) 121 (0 : Int32) (p0 + 4) 121 (0 : Int32) (K_X11_now_k hk_p0) (K_X11_trial_k hk_p0) r1.2 r2 hr2) rfl rfl (Nat.le_of_ble_eq_true rfl) dX11_simulate_36 (zrm_ok rfl) (fun r2 hr2 hf => ?_)
    refine r_lload_n C0 dX11_simulate_39 rfl 1 rfl ?_
    refine r_lstore (L' := [(4, .long p1), (0, .ref p0), (1, .long p1), (3, .int p2)]) C0 dX11_simulate_40 (by decide) rfl ?_
    refine r_iconst (v := 0) C0 dX11_simulate_42 (by decide) ?_
    refine r_istore (L' := [(6, .int (0 : Int32)), (4, .long p1), (0, .ref p0), (1, .long p1), (3, .int p2)]) C0 dX11_simulate_43 (by decide) rfl ?_
    refine r_sub (L' := [(0, .ref p0), (3, .int p2), (4, .long p1), (6, .int (0 : Int32))]) [2, 4, 1, 0] rfl ?_
    exact g_X11_simulate_45 C0 F p0 p1 p2 hk_p0 F p1 (0 : Int32) r2 _  hf
  · refine r_iconst (v := 0) C0 dX11_simulate_24 (by decide) ?_
    obtain rfl := Option.some.inj hf
    exact r_iret C0 dX11_simulate_25
set_option maxHeartbeats 4000000 in
set_option maxRecDepth 100000 in
theorem c_X11_simulate {l : Launch} {E : zEn} {S : zSk} {X : zMl} {Z : Nat → Prop} (hl : l.stackTraces = false) (F : Nat) (p0 : Nat) (p1 : Int64) (p2 : Int32) (hk_p0 : K_X11 S p0) (M : zMi) (r : Int32 × zMi) (hf : f_X11_simulate F p0 p1 p2 M = some r) : zM l E yX11_simulate cX11_simulate 9 (Option.some Jvm.ClassFile.FieldType.int) { frames := 6, cells := 0, slots := 0, locals := 143 } 0 0 [.ref p0, .long p1, .int p2] S Z M X S Z (some (.int r.1)) r.2 X := by
  refine zM.intro (L0 := [(0, .ref p0), (1, .long p1), (3, .int p2)]) hl (by decide) (Nat.le_of_ble_eq_true rfl) rfl (fun Γ C0 _ => ?_)
  unfold f_X11_simulate at hf
  refine r_aload_n C0 dX11_simulate_0 rfl 0 rfl ?_
  refine r_iload_n C0 dX11_simulate_1 rfl 2 rfl ?_
  refine r_i2l C0 dX11_simulate_2 ?_
  refine r_lconst (v := 1) C0 dX11_simulate_3 (by decide) ?_
  refine r_ldc2 (v := 99) C0 qw_615 dX11_simulate_4 ?_
  refine r_callSi C0 (st := [.ref p0]) [.long ((p2).toInt64), .long (1 : Int64), .long (99 : Int64)] hf vs_112 (fun hl r1 hr1 => c_X11_in hl F ((p2).toInt64) (1 : Int64) (99 : Int64) M r1 hr1) rfl rfl (Nat.le_of_ble_eq_true rfl) dX11_simulate_7 (zrm_ok rfl) (fun r1 hr1 hf => ?_)
  refine r_if_eq C0 17 dX11_simulate_10 (by decide) hf (fun hf => ?_) (fun hf => ?_)
  · refine r_iconst (v := 1) C0 dX11_simulate_17 (by decide) ?_
    refine r_sub (L' := [(0, .ref p0), (1, .long p1), (3, .int p2)]) [0, 1, 2] rfl ?_
    exact g_X11_simulate_18 C0 F p0 p1 p2 hk_p0 (1 : Int32) M _  hf
  · refine r_iconst (v := 0) C0 dX11_simulate_13 (by decide) ?_
    refine r_goto C0 18 dX11_simulate_14 (by decide) ?_
    refine r_sub (L' := [(0, .ref p0), (1, .long p1), (3, .int p2)]) [0, 1, 2] rfl ?_
    exact g_X11_simulate_18 C0 F p0 p1 p2 hk_p0 (0 : Int32) M _  hf
set_option maxHeartbeats 4000000 in
set_option maxRecDepth 100000 in
theorem g_X11_save_16 {Γ : zCx} {E : zEn} {S : zSk} {X : zMl} {Z : Nat → Prop} (C0 : zCt Γ E RX11 cX11_save 2 (Option.some Jvm.ClassFile.FieldType.int) [] { frames := 1, cells := 0, slots := 0, locals := 25 }) (F : Nat) (p0 : Nat) (p1 : Int32) (hk_p0 : K_X11 S p0) (s0 : Int32) (M : zMi) (r : Int32 × zMi)  (hf : f_X11_save_16 F p0 p1 s0 M = some r) : zG Γ (zQ Γ E 0 0 S Z (some (.int r.1)) r.2 X) E 2 0 0 S Z M X 16 [(0, .ref p0), (1, .int p1)] [.int s0, .ref p0] := by
  unfold f_X11_save_16 at hf
  refine r_callVim C0 (st := []) [.int s0] p0 hf vs_131 (fun hl r1 hr1 => c_X11_refused hl F p0 s0 hk_p0 M r1 hr1) (K_X11_o hk_p0) rfl rfl rfl rfl (Nat.le_of_ble_eq_true rfl) dX11_save_16 (zrm_ok rfl) (fun r1 hr1 hf => ?_)
  refine r_if_eq C0 24 dX11_save_19 (by decide) hf (fun hf => ?_) (fun hf => ?_)
  · refine r_aload_n C0 dX11_save_24 rfl 0 rfl ?_
    refine r_getR C0 (C := RX11) (T := TX11) cl_X11 (K_X11_o hk_p0) (k := 10) (by decide) qw_583 rfl (K_X11_isKept_r hk_p0) dX11_save_25 ?_
    refine r_iload_n C0 dX11_save_28 rfl 1 rfl ?_
    refine r_iconst (v := 1) C0 dX11_save_29 (by decide) ?_
    refine r_zast C0 (K_X11_isKept_k hk_p0) hf dX11_save_30 (fun M2 hf => ?_)
    refine r_aload_n C0 dX11_save_31 rfl 0 rfl ?_
    refine r_getR C0 (C := RX11) (T := TX11) cl_X11 (K_X11_o hk_p0) (k := 5) (by decide) qw_578 rfl (K_X11_now_r hk_p0) dX11_save_32 ?_
    refine r_iconst (v := 0) C0 dX11_save_35 (by decide) ?_
    refine r_aload_n C0 dX11_save_36 rfl 0 rfl ?_
    refine r_getR C0 (C := RX11) (T := TX11) cl_X11 (K_X11_o hk_p0) (k := 9) (by decide) qw_642 rfl (K_X11_kept_r hk_p0) dX11_save_37 ?_
    refine r_bipush (v := 121) C0 dX11_save_40 (by decide) ?_
    refine r_iload_n C0 dX11_save_42 rfl 1 rfl ?_
    refine r_imul C0 dX11_save_43 ?_
    refine r_callSm C0 (st := []) [.ref (p0 + 3), .int (0 : Int32), .ref (p0 + 6), .int ((121 : Int32) * p1)] hf vs_137 (fun hl r3 hr3 => c_X11_copyPage hl F (p0 + 3) 121 (0 : Int32) (p0 + 6) 242 ((121 : Int32) * p1) (K_X11_now_k hk_p0) (K_X11_kept_k hk_p0) M2 r3 hr3) rfl rfl (Nat.le_of_ble_eq_true rfl) dX11_save_44 (zrm_ok rfl) (fun r3 hr3 hf => ?_)
    refine r_aload_n C0 dX11_save_47 rfl 0 rfl ?_
    refine r_getR C0 (C := RX11) (T := TX11) cl_X11 (K_X11_o hk_p0) (k := 5) (by decide) qw_578 rfl (K_X11_now_r hk_p0) dX11_save_48 ?_
    refine r_iconst (v := 3) C0 dX11_save_51 (by decide) ?_
    refine r_iald' (j := 3) C0 (K_X11_now_k hk_p0) rfl rfl dX11_save_52 ?_
    obtain rfl := Option.some.inj hf
    exact r_iret C0 dX11_save_53
  · refine r_iconst (v := 0) C0 dX11_save_22 (by decide) ?_
    obtain rfl := Option.some.inj hf
    exact r_iret C0 dX11_save_23
set_option maxHeartbeats 4000000 in
set_option maxRecDepth 100000 in
theorem c_X11_save {l : Launch} {E : zEn} {S : zSk} {X : zMl} {Z : Nat → Prop} (hl : l.stackTraces = false) (F : Nat) (p0 : Nat) (p1 : Int32) (hk_p0 : K_X11 S p0) (M : zMi) (r : Int32 × zMi) (hf : f_X11_save F p0 p1 M = some r) : zM l E yX11_save cX11_save 2 (Option.some Jvm.ClassFile.FieldType.int) { frames := 1, cells := 0, slots := 0, locals := 25 } 0 0 [.ref p0, .int p1] S Z M X S Z (some (.int r.1)) r.2 X := by
  refine zM.intro (L0 := [(0, .ref p0), (1, .int p1)]) hl (by decide) (Nat.le_of_ble_eq_true rfl) rfl (fun Γ C0 _ => ?_)
  unfold f_X11_save at hf
  refine r_aload_n C0 dX11_save_0 rfl 0 rfl ?_
  refine r_iload_n C0 dX11_save_1 rfl 1 rfl ?_
  refine r_i2l C0 dX11_save_2 ?_
  refine r_lconst (v := 0) C0 dX11_save_3 (by decide) ?_
  refine r_lconst (v := 1) C0 dX11_save_4 (by decide) ?_
  refine r_callSi C0 (st := [.ref p0]) [.long ((p1).toInt64), .long (0 : Int64), .long (1 : Int64)] hf vs_112 (fun hl r1 hr1 => c_X11_in hl F ((p1).toInt64) (0 : Int64) (1 : Int64) M r1 hr1) rfl rfl (Nat.le_of_ble_eq_true rfl) dX11_save_5 (zrm_ok rfl) (fun r1 hr1 hf => ?_)
  refine r_if_eq C0 15 dX11_save_8 (by decide) hf (fun hf => ?_) (fun hf => ?_)
  · refine r_iconst (v := 1) C0 dX11_save_15 (by decide) ?_
    refine r_sub (L' := [(0, .ref p0), (1, .int p1)]) [0, 1] rfl ?_
    exact g_X11_save_16 C0 F p0 p1 hk_p0 (1 : Int32) M _  hf
  · refine r_iconst (v := 0) C0 dX11_save_11 (by decide) ?_
    refine r_goto C0 16 dX11_save_12 (by decide) ?_
    refine r_sub (L' := [(0, .ref p0), (1, .int p1)]) [0, 1] rfl ?_
    exact g_X11_save_16 C0 F p0 p1 hk_p0 (0 : Int32) M _  hf
