set_option maxHeartbeats 4000000 in
set_option maxRecDepth 100000 in
theorem g_X5_passDays_2 {Γ : zCx} {E : zEn} {S : zSk} {X : zMl} {Z : Nat → Prop} (C0 : zCt Γ E RX5 cX5_passDays 3 (Option.none : Option Jvm.ClassFile.FieldType) [] { frames := 5, cells := 0, slots := 0, locals := 114 }) (F : Nat) (p0 : Nat) (p1 : Int32) (hk_p0 : K_X5 S p0) : ∀ (n : Nat) (v2 : Int32) (M : zMi) (r : zMi) , f_X5_passDays_2 F p0 p1 n v2 M = some r → zG Γ (zQ Γ E 0 0 S Z none r X) E 3 0 0 S Z M X 2 [(0, .ref p0), (1, .int p1), (2, .int v2)] [] := by
  intro n
  induction n with
  | zero => intro v2 M r; intro hf; cases hf
  | succ n ih =>
    intro v2 M r hf
    refine r_iload_n C0 dX5_passDays_2 rfl 2 rfl ?_
    refine r_iload_n C0 dX5_passDays_3 rfl 1 rfl ?_
    refine r_icmp_ge C0 17 dX5_passDays_4 (by decide) hf (fun hf => ?_) (fun hf => ?_)
    · obtain rfl := Option.some.inj hf
      exact r_vret C0 dX5_passDays_17
    · refine r_aload_n C0 dX5_passDays_7 rfl 0 rfl ?_
      refine r_callVm C0 (st := []) [] p0 hf vs_35 (fun hl r1 hr1 => c_X5_passDay hl F p0 hk_p0 M r1 hr1) (K_X5_o hk_p0) rfl rfl rfl rfl (Nat.le_of_ble_eq_true rfl) dX5_passDays_8 (zrm_ok rfl) (fun r1 hr1 hf => ?_)
      refine r_iinc (j := 2) (v := (v2 + (1 : Int32))) (L' := [(2, .int (v2 + (1 : Int32))), (0, .ref p0), (1, .int p1)]) C0 dX5_passDays_11 rfl rfl (by decide) rfl ?_
      refine r_goto C0 2 dX5_passDays_14 (by decide) ?_
      refine r_sub (L' := [(0, .ref p0), (1, .int p1), (2, .int (v2 + (1 : Int32)))]) [1, 2, 0] rfl ?_
      exact ih (v2 + (1 : Int32)) r1 _  hf
set_option maxHeartbeats 4000000 in
set_option maxRecDepth 100000 in
theorem c_X5_passDays {l : Launch} {E : zEn} {S : zSk} {X : zMl} {Z : Nat → Prop} (hl : l.stackTraces = false) (F : Nat) (p0 : Nat) (p1 : Int32) (hk_p0 : K_X5 S p0) (M : zMi) (r : zMi) (hf : f_X5_passDays F p0 p1 M = some r) : zM l E yX5_passDays cX5_passDays 3 (Option.none : Option Jvm.ClassFile.FieldType) { frames := 5, cells := 0, slots := 0, locals := 114 } 0 0 [.ref p0, .int p1] S Z M X S Z none r X := by
  refine zM.intro (L0 := [(0, .ref p0), (1, .int p1)]) hl (by decide) (Nat.le_of_ble_eq_true rfl) rfl (fun Γ C0 _ => ?_)
  unfold f_X5_passDays at hf
  refine r_iconst (v := 0) C0 dX5_passDays_0 (by decide) ?_
  refine r_istore_n (L' := [(2, .int (0 : Int32)), (0, .ref p0), (1, .int p1)]) C0 dX5_passDays_1 rfl (by decide) rfl ?_
  refine r_sub (L' := [(0, .ref p0), (1, .int p1), (2, .int (0 : Int32))]) [1, 2, 0] rfl ?_
  exact g_X5_passDays_2 C0 F p0 p1 hk_p0 F (0 : Int32) M _  hf
set_option maxHeartbeats 4000000 in
set_option maxRecDepth 100000 in
theorem c_X5_canPurchase {l : Launch} {E : zEn} {S : zSk} {X : zMl} {Z : Nat → Prop} (hl : l.stackTraces = false) (F : Nat) (p0 : Nat) (p1 : Int32) (hk_p0 : K_X5 S p0) (M : zMi) (r : Int32) (hf : f_X5_canPurchase F p0 p1 M = some r) : zM l E yX5_canPurchase cX5_canPurchase 2 (Option.some Jvm.ClassFile.FieldType.boolean) { frames := 0, cells := 0, slots := 0, locals := 0 } 0 0 [.ref p0, .int p1] S Z M X S Z (some (.int r)) M X := by
  refine zM.intro (L0 := [(0, .ref p0), (1, .int p1)]) hl (by decide) (Nat.le_of_ble_eq_true rfl) rfl (fun Γ C0 _ => ?_)
  unfold f_X5_canPurchase at hf
  refine r_iload_n C0 dX5_canPurchase_0 rfl 1 rfl ?_
  refine r_iconst (v := 1) C0 dX5_canPurchase_1 (by decide) ?_
  refine r_icmp_lt C0 21 dX5_canPurchase_2 (by decide) hf (fun hf => ?_) (fun hf => ?_)
  · refine r_iconst (v := 0) C0 dX5_canPurchase_21 (by decide) ?_
    obtain rfl := Option.some.inj hf
    exact r_zret C0 rfl dX5_canPurchase_22
  · refine r_aload_n C0 dX5_canPurchase_5 rfl 0 rfl ?_
    refine r_getI C0 (C := RX5) (T := TX5) cl_X5 (K_X5_o hk_p0) (k := 7) (by decide) qw_51 rfl dX5_canPurchase_6 ?_
    refine r_iload_n C0 dX5_canPurchase_9 rfl 1 rfl ?_
    refine r_iadd C0 dX5_canPurchase_10 ?_
    refine r_sipush (v := 9999) C0 dX5_canPurchase_11 (by decide) ?_
    refine r_icmp_gt C0 21 dX5_canPurchase_14 (by decide) hf (fun hf => ?_) (fun hf => ?_)
    · refine r_iconst (v := 0) C0 dX5_canPurchase_21 (by decide) ?_
      obtain rfl := Option.some.inj hf
      exact r_zret C0 rfl dX5_canPurchase_22
    · refine r_iconst (v := 1) C0 dX5_canPurchase_17 (by decide) ?_
      refine r_goto C0 22 dX5_canPurchase_18 (by decide) ?_
      obtain rfl := Option.some.inj hf
      exact r_zret C0 rfl dX5_canPurchase_22
set_option maxHeartbeats 4000000 in
set_option maxRecDepth 100000 in
theorem c_X5_purchase {l : Launch} {E : zEn} {S : zSk} {X : zMl} {Z : Nat → Prop} (hl : l.stackTraces = false) (F : Nat) (p0 : Nat) (p1 : Int32) (hk_p0 : K_X5 S p0) (M : zMi) (r : zMi) (hf : f_X5_purchase F p0 p1 M = some r) : zM l E yX5_purchase cX5_purchase 2 (Option.none : Option Jvm.ClassFile.FieldType) { frames := 0, cells := 0, slots := 0, locals := 0 } 0 0 [.ref p0, .int p1] S Z M X S Z none r X := by
  refine zM.intro (L0 := [(0, .ref p0), (1, .int p1)]) hl (by decide) (Nat.le_of_ble_eq_true rfl) rfl (fun Γ C0 _ => ?_)
  unfold f_X5_purchase at hf
  refine r_aload_n C0 dX5_purchase_0 rfl 0 rfl ?_
  refine r_dup C0 dX5_purchase_1 rfl ?_
  refine r_getI C0 (C := RX5) (T := TX5) cl_X5 (K_X5_o hk_p0) (k := 7) (by decide) qw_51 rfl dX5_purchase_2 ?_
  refine r_iload_n C0 dX5_purchase_5 rfl 1 rfl ?_
  refine r_iadd C0 dX5_purchase_6 ?_
  refine r_putI C0 (C := RX5) (T := TX5) cl_X5 (K_X5_o hk_p0) (k := 7) (by decide) qw_51 rfl rfl rfl rfl hf dX5_purchase_7 (fun M1 hf => ?_)
  refine r_aload_n C0 dX5_purchase_10 rfl 0 rfl ?_
  refine r_getR C0 (C := RX5) (T := TX5) cl_X5 (K_X5_o hk_p0) (k := 4) (by decide) qw_43 rfl (K_X5_ledger_r hk_p0) dX5_purchase_11 ?_
  refine r_dup C0 dX5_purchase_14 rfl ?_
  refine r_getI C0 (C := RX1) (T := TX1) cl_X1 (K_X1_o (K_X5_ledger_k hk_p0)) (k := 0) (by decide) qw_216 rfl dX5_purchase_15 ?_
  refine r_iload_n C0 dX5_purchase_18 rfl 1 rfl ?_
  refine r_iadd C0 dX5_purchase_19 ?_
  refine r_putI C0 (C := RX1) (T := TX1) cl_X1 (K_X1_o (K_X5_ledger_k hk_p0)) (k := 0) (by decide) qw_216 rfl rfl rfl rfl hf dX5_purchase_20 (fun M2 hf => ?_)
  refine r_aload_n C0 dX5_purchase_23 rfl 0 rfl ?_
  refine r_getR C0 (C := RX5) (T := TX5) cl_X5 (K_X5_o hk_p0) (k := 4) (by decide) qw_43 rfl (K_X5_ledger_r hk_p0) dX5_purchase_24 ?_
  refine r_dup C0 dX5_purchase_27 rfl ?_
  refine r_getI C0 (C := RX1) (T := TX1) cl_X1 (K_X1_o (K_X5_ledger_k hk_p0)) (k := 6) (by decide) qw_217 rfl dX5_purchase_28 ?_
  refine r_iconst (v := 3) C0 dX5_purchase_31 (by decide) ?_
  refine r_iload_n C0 dX5_purchase_32 rfl 1 rfl ?_
  refine r_imul C0 dX5_purchase_33 ?_
  refine r_iadd C0 dX5_purchase_34 ?_
  refine r_putI C0 (C := RX1) (T := TX1) cl_X1 (K_X1_o (K_X5_ledger_k hk_p0)) (k := 6) (by decide) qw_217 rfl rfl rfl rfl hf dX5_purchase_35 (fun M3 hf => ?_)
  obtain rfl := Option.some.inj hf
  exact r_vret C0 dX5_purchase_38
set_option maxHeartbeats 4000000 in
set_option maxRecDepth 100000 in
theorem c_X2_buys {l : Launch} {E : zEn} {S : zSk} {X : zMl} {Z : Nat → Prop} (hl : l.stackTraces = false) (F : Nat) (p0 : Nat) (p1 : Int32) (hk_p0 : K_X5 S p0) (M : zMi) (r : Int32 × zMi) (hf : f_X2_buys F p0 p1 M = some r) : zM l E yX2_buys cX2_buys 2 (Option.some Jvm.ClassFile.FieldType.boolean) { frames := 1, cells := 0, slots := 0, locals := 21 } 0 0 [.ref p0, .int p1] S Z M X S Z (some (.int r.1)) r.2 X := by
  refine zM.intro (L0 := [(0, .ref p0), (1, .int p1)]) hl (by decide) (Nat.le_of_ble_eq_true rfl) rfl (fun Γ C0 _ => ?_)
  unfold f_X2_buys at hf
  refine r_aload_n C0 dX2_buys_0 rfl 0 rfl ?_
  refine r_iload_n C0 dX2_buys_1 rfl 1 rfl ?_
  refine r_callVi C0 (st := []) [.int p1] p0 hf vs_36 (fun hl r1 hr1 => c_X5_canPurchase hl F p0 p1 hk_p0 M r1 hr1) (K_X5_o hk_p0) rfl rfl rfl rfl (Nat.le_of_ble_eq_true rfl) dX2_buys_2 (zrm_ok rfl) (fun r1 hr1 hf => ?_)
  refine r_if_ne C0 10 dX2_buys_5 (by decide) hf (fun hf => ?_) (fun hf => ?_)
  · refine r_aload_n C0 dX2_buys_10 rfl 0 rfl ?_
    refine r_iload_n C0 dX2_buys_11 rfl 1 rfl ?_
    refine r_callVm C0 (st := []) [.int p1] p0 hf vs_37 (fun hl r2 hr2 => c_X5_purchase hl F p0 p1 hk_p0 M r2 hr2) (K_X5_o hk_p0) rfl rfl rfl rfl (Nat.le_of_ble_eq_true rfl) dX2_buys_12 (zrm_ok rfl) (fun r2 hr2 hf => ?_)
    refine r_iconst (v := 1) C0 dX2_buys_15 (by decide) ?_
    obtain rfl := Option.some.inj hf
    exact r_zret C0 rfl dX2_buys_16
  · refine r_iconst (v := 0) C0 dX2_buys_8 (by decide) ?_
    obtain rfl := Option.some.inj hf
    exact r_zret C0 rfl dX2_buys_9
set_option maxHeartbeats 4000000 in
set_option maxRecDepth 100000 in
theorem c_X2_isAt {l : Launch} {E : zEn} {S : zSk} {X : zMl} {Z : Nat → Prop} (hl : l.stackTraces = false) (F : Nat) (p0 : Option Nat) (p1 : Int32) (hk_p0 : ∀ q, p0 = some q → K_X3 S q) (M : zMi) (r : Int32) (hf : f_X2_isAt F p0 p1 M = some r) : zM l E yX2_isAt cX2_isAt 2 (Option.some Jvm.ClassFile.FieldType.boolean) { frames := 0, cells := 0, slots := 0, locals := 0 } 0 0 [va_rf p0, .int p1] S Z M X S Z (some (.int r)) M X := by
  cases p0 with
  | none =>
    refine zM.intro (L0 := [(0, .null), (1, .int p1)]) hl (by decide) (Nat.le_of_ble_eq_true rfl) rfl (fun Γ C0 _ => ?_)
    unfold f_X2_isAt at hf
    have hf := zopt_n hf
    refine r_aloadN_n C0 dX2_isAt_0 rfl 0 rfl ?_
    refine r_ifnullN C0 16 dX2_isAt_1 (by decide) ?_
    refine r_iconst (v := 0) C0 dX2_isAt_16 (by decide) ?_
    obtain rfl := Option.some.inj hf
    exact r_zret C0 rfl dX2_isAt_17
  | some qe =>
    refine zM.intro (L0 := [(0, .ref qe), (1, .int p1)]) hl (by decide) (Nat.le_of_ble_eq_true rfl) rfl (fun Γ C0 _ => ?_)
    unfold f_X2_isAt at hf
    have hf := zopt_s hf
    have hk_qe := hk_p0 qe rfl
    refine r_aload_n C0 dX2_isAt_0 rfl 0 rfl ?_
    refine r_ifnull C0 dX2_isAt_1 ?_
    refine r_aload_n C0 dX2_isAt_4 rfl 0 rfl ?_
    refine r_getI C0 (C := RX3) (T := TX3) cl_X3 (K_X3_o hk_qe) (k := 5) (by decide) qw_226 rfl dX2_isAt_5 ?_
    refine r_iload_n C0 dX2_isAt_8 rfl 1 rfl ?_
    refine r_icmp_ne C0 16 dX2_isAt_9 (by decide) hf (fun hf => ?_) (fun hf => ?_)
    · refine r_iconst (v := 0) C0 dX2_isAt_16 (by decide) ?_
      obtain rfl := Option.some.inj hf
      exact r_zret C0 rfl dX2_isAt_17
    · refine r_iconst (v := 1) C0 dX2_isAt_12 (by decide) ?_
      refine r_goto C0 17 dX2_isAt_13 (by decide) ?_
      obtain rfl := Option.some.inj hf
      exact r_zret C0 rfl dX2_isAt_17
set_option maxHeartbeats 4000000 in
set_option maxRecDepth 100000 in
theorem c_X2_succeeds {l : Launch} {E : zEn} {S : zSk} {X : zMl} {Z : Nat → Prop} (hl : l.stackTraces = false) (F : Nat) (p0 : Nat) (p1 : Int32) (hk_p0 : K_X5 S p0) (M : zMi) (r : Int32 × zMi) (hf : f_X2_succeeds F p0 p1 M = some r) : zM l E yX2_succeeds cX2_succeeds 4 (Option.some Jvm.ClassFile.FieldType.boolean) { frames := 6, cells := 0, slots := 0, locals := 136 } 0 0 [.ref p0, .int p1] S Z M X S Z (some (.int r.1)) r.2 X := by
  refine zM.intro (L0 := [(0, .ref p0), (1, .int p1)]) hl (by decide) (Nat.le_of_ble_eq_true rfl) rfl (fun Γ C0 _ => ?_)
  unfold f_X2_succeeds at hf
  refine r_iload_n C0 dX2_succeeds_0 rfl 1 rfl ?_
  refine r_sipush (v := 1000) C0 dX2_succeeds_1 (by decide) ?_
  refine r_idiv' C0 dX2_succeeds_4 (by decide) ?_
  refine r_bipush (v := 10) C0 dX2_succeeds_5 (by decide) ?_
  refine r_irem' C0 dX2_succeeds_7 (by decide) ?_
  refine r_nm hf (fun x1 hf => ?_)
  refine r_istore_n (L' := [(2, .int x1), (0, .ref p0), (1, .int p1)]) C0 dX2_succeeds_8 rfl (by decide) rfl ?_
  refine r_iload_n C0 dX2_succeeds_9 rfl 2 rfl ?_
  refine r_sipush (v := 1000) C0 dX2_succeeds_10 (by decide) ?_
  refine r_irem' C0 dX2_succeeds_13 (by decide) ?_
  refine r_nm hf (fun x2 hf => ?_)
  refine r_istore_n (L' := [(3, .int x2), (2, .int x1), (0, .ref p0), (1, .int p1)]) C0 dX2_succeeds_14 rfl (by decide) rfl ?_
  refine r_iload_n C0 dX2_succeeds_15 rfl 3 rfl ?_
  refine r_sipush (v := 10000) C0 dX2_succeeds_16 (by decide) ?_
  refine r_idiv' C0 dX2_succeeds_19 (by decide) ?_
  refine z_ite hf (fun hx hf => ?_) (fun hx1 hf => ?_)
  · refine r_tsIn (off := 52) C0 72 dX2_succeeds_20 (by rw [hx]; decide) (by rw [hx]; decide) (by rw [hx]; decide) (by decide) ?_
    refine r_aload_n C0 dX2_succeeds_72 rfl 2 rfl ?_
    refine r_aload_n C0 dX2_succeeds_73 rfl 2 rfl ?_
    refine r_iload_n C0 dX2_succeeds_74 rfl 1 rfl ?_
    refine r_callVr C0 (st := [.ref p0]) [.int x1] p0 hf vs_38 (fun hl r3 hr3 => c_X5_shipNumbered hl F p0 x1 hk_p0 M r3 hr3) (K_X5_o hk_p0) rfl rfl rfl rfl (Nat.le_of_ble_eq_true rfl) dX2_succeeds_75 (zrm_ok rfl) (fun r3 hr3 hf => ?_)
    refine r_opt hf (fun hf => ?_) (fun q4 eq4 hf => ?_)
    · refine r_iload_n C0 dX2_succeeds_78 rfl 0 rfl ?_
      refine r_callSim C0 (st := []) [.ref p0, .null, .int x2] hf vs_39 (fun hl r5 hr5 => c_X2_takes hl F p0 none x2 hk_p0 (fun _ h => nomatch h) M r5 hr5) rfl rfl (Nat.le_of_ble_eq_true rfl) dX2_succeeds_79 (zrm_ok rfl) (fun r5 hr5 hf => ?_)
      obtain ⟨hv, hf⟩ := grd_some hf
      obtain rfl := Option.some.inj hf
      exact r_zret C0 hv dX2_succeeds_82
    · have hk_q4 := n_X5_shipNumbered (by rw [← eq4]; exact hr3) hk_p0
      refine r_iload_n C0 dX2_succeeds_78 rfl 0 rfl ?_
      refine r_callSim C0 (st := []) [.ref p0, .ref q4, .int x2] hf vs_39 (fun hl r6 hr6 => c_X2_takes hl F p0 (some q4) x2 hk_p0 (fun _ h => by cases h; exact hk_q4) M r6 hr6) rfl rfl (Nat.le_of_ble_eq_true rfl) dX2_succeeds_79 (zrm_ok rfl) (fun r6 hr6 hf => ?_)
      obtain ⟨hv, hf⟩ := grd_some hf
      obtain rfl := Option.some.inj hf
      exact r_zret C0 hv dX2_succeeds_82
  refine z_ite hf (fun hx hf => ?_) (fun hx2 hf => ?_)
  · refine r_tsIn (off := 63) C0 83 dX2_succeeds_20 (by rw [hx]; decide) (by rw [hx]; decide) (by rw [hx]; decide) (by decide) ?_
    refine r_iload_n C0 dX2_succeeds_83 rfl 0 rfl ?_
    refine r_if_ne C0 103 dX2_succeeds_84 (by decide) hf (fun hf => ?_) (fun hf => ?_)
    · refine r_iconst (v := 0) C0 dX2_succeeds_103 (by decide) ?_
      obtain rfl := Option.some.inj hf
      exact r_zret C0 rfl dX2_succeeds_104
    · refine r_aload_n C0 dX2_succeeds_87 rfl 2 rfl ?_
      refine r_aload_n C0 dX2_succeeds_88 rfl 2 rfl ?_
      refine r_iload_n C0 dX2_succeeds_89 rfl 1 rfl ?_
      refine r_callVr C0 (st := [.ref p0]) [.int x1] p0 hf vs_38 (fun hl r7 hr7 => c_X5_shipNumbered hl F p0 x1 hk_p0 M r7 hr7) (K_X5_o hk_p0) rfl rfl rfl rfl (Nat.le_of_ble_eq_true rfl) dX2_succeeds_90 (zrm_ok rfl) (fun r7 hr7 hf => ?_)
      refine r_opt hf (fun hf => ?_) (fun q8 eq8 hf => ?_)
      · refine r_callSim C0 (st := []) [.ref p0, .null] hf vs_40 (fun hl r9 hr9 => c_X2_sends hl F p0 none hk_p0 (fun _ h => nomatch h) M r9 hr9) rfl rfl (Nat.le_of_ble_eq_true rfl) dX2_succeeds_93 (zrm_ok rfl) (fun r9 hr9 hf => ?_)
        refine r_if_eq C0 103 dX2_succeeds_96 (by decide) hf (fun hf => ?_) (fun hf => ?_)
        · refine r_iconst (v := 0) C0 dX2_succeeds_103 (by decide) ?_
          obtain rfl := Option.some.inj hf
          exact r_zret C0 rfl dX2_succeeds_104
        · refine r_iconst (v := 1) C0 dX2_succeeds_99 (by decide) ?_
          refine r_goto C0 104 dX2_succeeds_100 (by decide) ?_
          obtain rfl := Option.some.inj hf
          exact r_zret C0 rfl dX2_succeeds_104
      · have hk_q8 := n_X5_shipNumbered (by rw [← eq8]; exact hr7) hk_p0
        refine r_callSim C0 (st := []) [.ref p0, .ref q8] hf vs_40 (fun hl r10 hr10 => c_X2_sends hl F p0 (some q8) hk_p0 (fun _ h => by cases h; exact hk_q8) M r10 hr10) rfl rfl (Nat.le_of_ble_eq_true rfl) dX2_succeeds_93 (zrm_ok rfl) (fun r10 hr10 hf => ?_)
        refine r_if_eq C0 103 dX2_succeeds_96 (by decide) hf (fun hf => ?_) (fun hf => ?_)
        · refine r_iconst (v := 0) C0 dX2_succeeds_103 (by decide) ?_
          obtain rfl := Option.some.inj hf
          exact r_zret C0 rfl dX2_succeeds_104
        · refine r_iconst (v := 1) C0 dX2_succeeds_99 (by decide) ?_
          refine r_goto C0 104 dX2_succeeds_100 (by decide) ?_
          obtain rfl := Option.some.inj hf
          exact r_zret C0 rfl dX2_succeeds_104
  refine z_ite hf (fun hx hf => ?_) (fun hx3 hf => ?_)
  · refine r_tsIn (off := 85) C0 105 dX2_succeeds_20 (by rw [hx]; decide) (by rw [hx]; decide) (by rw [hx]; decide) (by decide) ?_
    refine r_iload_n C0 dX2_succeeds_105 rfl 0 rfl ?_
    refine r_if_ne C0 125 dX2_succeeds_106 (by decide) hf (fun hf => ?_) (fun hf => ?_)
    · refine r_iconst (v := 0) C0 dX2_succeeds_125 (by decide) ?_
      obtain rfl := Option.some.inj hf
      exact r_zret C0 rfl dX2_succeeds_126
    · refine r_aload_n C0 dX2_succeeds_109 rfl 2 rfl ?_
      refine r_aload_n C0 dX2_succeeds_110 rfl 2 rfl ?_
      refine r_iload_n C0 dX2_succeeds_111 rfl 1 rfl ?_
      refine r_callVr C0 (st := [.ref p0]) [.int x1] p0 hf vs_38 (fun hl r11 hr11 => c_X5_shipNumbered hl F p0 x1 hk_p0 M r11 hr11) (K_X5_o hk_p0) rfl rfl rfl rfl (Nat.le_of_ble_eq_true rfl) dX2_succeeds_112 (zrm_ok rfl) (fun r11 hr11 hf => ?_)
      refine r_opt hf (fun hf => ?_) (fun q12 eq12 hf => ?_)
      · refine r_callSim C0 (st := []) [.ref p0, .null] hf vs_41 (fun hl r13 hr13 => c_X2_recalls hl F p0 none hk_p0 (fun _ h => nomatch h) M r13 hr13) rfl rfl (Nat.le_of_ble_eq_true rfl) dX2_succeeds_115 (zrm_ok rfl) (fun r13 hr13 hf => ?_)
        refine r_if_eq C0 125 dX2_succeeds_118 (by decide) hf (fun hf => ?_) (fun hf => ?_)
        · refine r_iconst (v := 0) C0 dX2_succeeds_125 (by decide) ?_
          obtain rfl := Option.some.inj hf
          exact r_zret C0 rfl dX2_succeeds_126
        · refine r_iconst (v := 1) C0 dX2_succeeds_121 (by decide) ?_
          refine r_goto C0 126 dX2_succeeds_122 (by decide) ?_
          obtain rfl := Option.some.inj hf
          exact r_zret C0 rfl dX2_succeeds_126
      · have hk_q12 := n_X5_shipNumbered (by rw [← eq12]; exact hr11) hk_p0
        refine r_callSim C0 (st := []) [.ref p0, .ref q12] hf vs_41 (fun hl r14 hr14 => c_X2_recalls hl F p0 (some q12) hk_p0 (fun _ h => by cases h; exact hk_q12) M r14 hr14) rfl rfl (Nat.le_of_ble_eq_true rfl) dX2_succeeds_115 (zrm_ok rfl) (fun r14 hr14 hf => ?_)
        refine r_if_eq C0 125 dX2_succeeds_118 (by decide) hf (fun hf => ?_) (fun hf => ?_)
        · refine r_iconst (v := 0) C0 dX2_succeeds_125 (by decide) ?_
          obtain rfl := Option.some.inj hf
          exact r_zret C0 rfl dX2_succeeds_126
        · refine r_iconst (v := 1) C0 dX2_succeeds_121 (by decide) ?_
          refine r_goto C0 126 dX2_succeeds_122 (by decide) ?_
          obtain rfl := Option.some.inj hf
          exact r_zret C0 rfl dX2_succeeds_126
  refine z_ite hf (fun hx hf => ?_) (fun hx4 hf => ?_)
  · refine r_tsIn (off := 107) C0 127 dX2_succeeds_20 (by rw [hx]; decide) (by rw [hx]; decide) (by rw [hx]; decide) (by decide) ?_
    refine r_iload_n C0 dX2_succeeds_127 rfl 0 rfl ?_
    refine r_bipush (v := 100) C0 dX2_succeeds_128 (by decide) ?_
    refine r_icmp_ge C0 150 dX2_succeeds_130 (by decide) hf (fun hf => ?_) (fun hf => ?_)
    · refine r_iconst (v := 0) C0 dX2_succeeds_150 (by decide) ?_
      obtain rfl := Option.some.inj hf
      exact r_zret C0 rfl dX2_succeeds_151
    · refine r_aload_n C0 dX2_succeeds_133 rfl 2 rfl ?_
      refine r_aload_n C0 dX2_succeeds_134 rfl 2 rfl ?_
      refine r_iload_n C0 dX2_succeeds_135 rfl 1 rfl ?_
      refine r_callVr C0 (st := [.ref p0]) [.int x1] p0 hf vs_42 (fun hl r15 hr15 => c_X5_zoneNumbered hl F p0 x1 hk_p0 M r15 hr15) (K_X5_o hk_p0) rfl rfl rfl rfl (Nat.le_of_ble_eq_true rfl) dX2_succeeds_136 (zrm_ok rfl) (fun r15 hr15 hf => ?_)
      refine r_opt hf (fun hf => ?_) (fun q16 eq16 hf => ?_)
      · refine r_iload_n C0 dX2_succeeds_139 rfl 0 rfl ?_
        refine r_callSim C0 (st := []) [.ref p0, .null, .int x2] hf vs_43 (fun hl r17 hr17 => c_X2_extendsPermit hl F p0 none x2 hk_p0 (fun _ h => nomatch h) M r17 hr17) rfl rfl (Nat.le_of_ble_eq_true rfl) dX2_succeeds_140 (zrm_ok rfl) (fun r17 hr17 hf => ?_)
        refine r_if_eq C0 150 dX2_succeeds_143 (by decide) hf (fun hf => ?_) (fun hf => ?_)
        · refine r_iconst (v := 0) C0 dX2_succeeds_150 (by decide) ?_
          obtain rfl := Option.some.inj hf
          exact r_zret C0 rfl dX2_succeeds_151
        · refine r_iconst (v := 1) C0 dX2_succeeds_146 (by decide) ?_
          refine r_goto C0 151 dX2_succeeds_147 (by decide) ?_
          obtain rfl := Option.some.inj hf
          exact r_zret C0 rfl dX2_succeeds_151
      · have hk_q16 := n_X5_zoneNumbered (by rw [← eq16]; exact hr15) hk_p0
        refine r_iload_n C0 dX2_succeeds_139 rfl 0 rfl ?_
        refine r_callSim C0 (st := []) [.ref p0, .ref q16, .int x2] hf vs_43 (fun hl r18 hr18 => c_X2_extendsPermit hl F p0 (some q16) x2 hk_p0 (fun _ h => by cases h; exact hk_q16) M r18 hr18) rfl rfl (Nat.le_of_ble_eq_true rfl) dX2_succeeds_140 (zrm_ok rfl) (fun r18 hr18 hf => ?_)
        refine r_if_eq C0 150 dX2_succeeds_143 (by decide) hf (fun hf => ?_) (fun hf => ?_)
        · refine r_iconst (v := 0) C0 dX2_succeeds_150 (by decide) ?_
          obtain rfl := Option.some.inj hf
          exact r_zret C0 rfl dX2_succeeds_151
        · refine r_iconst (v := 1) C0 dX2_succeeds_146 (by decide) ?_
          refine r_goto C0 151 dX2_succeeds_147 (by decide) ?_
          obtain rfl := Option.some.inj hf
          exact r_zret C0 rfl dX2_succeeds_151
  refine z_ite hf (fun hx hf => ?_) (fun hx5 hf => ?_)
  · refine r_tsIn (off := 132) C0 152 dX2_succeeds_20 (by rw [hx]; decide) (by rw [hx]; decide) (by rw [hx]; decide) (by decide) ?_
    refine r_iload_n C0 dX2_succeeds_152 rfl 1 rfl ?_
    refine r_if_ne C0 167 dX2_succeeds_153 (by decide) hf (fun hf => ?_) (fun hf => ?_)
    · refine r_iconst (v := 0) C0 dX2_succeeds_167 (by decide) ?_
      obtain rfl := Option.some.inj hf
      exact r_zret C0 rfl dX2_succeeds_168
    · refine r_iload_n C0 dX2_succeeds_156 rfl 0 rfl ?_
      refine r_iconst (v := 1) C0 dX2_succeeds_157 (by decide) ?_
      refine r_icmp_lt C0 167 dX2_succeeds_158 (by decide) hf (fun hf => ?_) (fun hf => ?_)
      · refine r_iconst (v := 0) C0 dX2_succeeds_167 (by decide) ?_
        obtain rfl := Option.some.inj hf
        exact r_zret C0 rfl dX2_succeeds_168
      · refine r_iload_n C0 dX2_succeeds_161 rfl 0 rfl ?_
        refine r_bipush (v := 99) C0 dX2_succeeds_162 (by decide) ?_
        refine r_icmp_le C0 169 dX2_succeeds_164 (by decide) hf (fun hf => ?_) (fun hf => ?_)
        · refine r_aload_n C0 dX2_succeeds_169 rfl 2 rfl ?_
          refine r_iload_n C0 dX2_succeeds_170 rfl 0 rfl ?_
          refine r_callVm C0 (st := []) [.int x2] p0 hf vs_44 (fun hl r19 hr19 => c_X5_passDays hl F p0 x2 hk_p0 M r19 hr19) (K_X5_o hk_p0) rfl rfl rfl rfl (Nat.le_of_ble_eq_true rfl) dX2_succeeds_171 (zrm_ok rfl) (fun r19 hr19 hf => ?_)
          refine r_iconst (v := 1) C0 dX2_succeeds_174 (by decide) ?_
          obtain rfl := Option.some.inj hf
          exact r_zret C0 rfl dX2_succeeds_175
        · refine r_iconst (v := 0) C0 dX2_succeeds_167 (by decide) ?_
          obtain rfl := Option.some.inj hf
          exact r_zret C0 rfl dX2_succeeds_168
  refine z_ite hf (fun hx hf => ?_) (fun hx6 hf => ?_)
  · refine r_tsIn (off := 156) C0 176 dX2_succeeds_20 (by rw [hx]; decide) (by rw [hx]; decide) (by rw [hx]; decide) (by decide) ?_
    refine r_iload_n C0 dX2_succeeds_176 rfl 1 rfl ?_
    refine r_if_ne C0 192 dX2_succeeds_177 (by decide) hf (fun hf => ?_) (fun hf => ?_)
    · refine r_iconst (v := 0) C0 dX2_succeeds_192 (by decide) ?_
      obtain rfl := Option.some.inj hf
      exact r_zret C0 rfl dX2_succeeds_193
    · refine r_aload_n C0 dX2_succeeds_180 rfl 2 rfl ?_
      refine r_iload_n C0 dX2_succeeds_181 rfl 0 rfl ?_
      refine r_callSim C0 (st := []) [.ref p0, .int x2] hf vs_45 (fun hl r20 hr20 => c_X2_buys hl F p0 x2 hk_p0 M r20 hr20) rfl rfl (Nat.le_of_ble_eq_true rfl) dX2_succeeds_182 (zrm_ok rfl) (fun r20 hr20 hf => ?_)
      refine r_if_eq C0 192 dX2_succeeds_185 (by decide) hf (fun hf => ?_) (fun hf => ?_)
      · refine r_iconst (v := 0) C0 dX2_succeeds_192 (by decide) ?_
        obtain rfl := Option.some.inj hf
        exact r_zret C0 rfl dX2_succeeds_193
      · refine r_iconst (v := 1) C0 dX2_succeeds_188 (by decide) ?_
        refine r_goto C0 193 dX2_succeeds_189 (by decide) ?_
        obtain rfl := Option.some.inj hf
        exact r_zret C0 rfl dX2_succeeds_193
  refine z_ite hf (fun hx hf => ?_) (fun hx7 hf => ?_)
  · refine r_tsIn (off := 174) C0 194 dX2_succeeds_20 (by rw [hx]; decide) (by rw [hx]; decide) (by rw [hx]; decide) (by decide) ?_
    refine r_iload_n C0 dX2_succeeds_194 rfl 0 rfl ?_
    refine r_bipush (v := 100) C0 dX2_succeeds_195 (by decide) ?_
    refine r_icmp_ge C0 220 dX2_succeeds_197 (by decide) hf (fun hf => ?_) (fun hf => ?_)
    · refine r_iconst (v := 0) C0 dX2_succeeds_220 (by decide) ?_
      obtain rfl := Option.some.inj hf
      exact r_zret C0 rfl dX2_succeeds_221
    · refine r_aload_n C0 dX2_succeeds_200 rfl 2 rfl ?_
      refine r_getI C0 (C := RX5) (T := TX5) cl_X5 (K_X5_o hk_p0) (k := 9) (by decide) qw_249 rfl dX2_succeeds_201 ?_
      refine r_iload_n C0 dX2_succeeds_204 rfl 1 rfl ?_
      refine r_icmp_ne C0 220 dX2_succeeds_205 (by decide) hf (fun hf => ?_) (fun hf => ?_)
      · refine r_iconst (v := 0) C0 dX2_succeeds_220 (by decide) ?_
        obtain rfl := Option.some.inj hf
        exact r_zret C0 rfl dX2_succeeds_221
      · refine r_aload_n C0 dX2_succeeds_208 rfl 2 rfl ?_
        refine r_getI C0 (C := RX5) (T := TX5) cl_X5 (K_X5_o hk_p0) (k := 10) (by decide) qw_250 rfl dX2_succeeds_209 ?_
        refine r_iload_n C0 dX2_succeeds_212 rfl 0 rfl ?_
        refine r_icmp_ne C0 220 dX2_succeeds_213 (by decide) hf (fun hf => ?_) (fun hf => ?_)
        · refine r_iconst (v := 0) C0 dX2_succeeds_220 (by decide) ?_
          obtain rfl := Option.some.inj hf
          exact r_zret C0 rfl dX2_succeeds_221
        · refine r_iconst (v := 1) C0 dX2_succeeds_216 (by decide) ?_
          refine r_goto C0 221 dX2_succeeds_217 (by decide) ?_
          obtain rfl := Option.some.inj hf
          exact r_zret C0 rfl dX2_succeeds_221
  refine z_ite hf (fun hx hf => ?_) (fun hx8 hf => ?_)
  · refine r_tsIn (off := 202) C0 222 dX2_succeeds_20 (by rw [hx]; decide) (by rw [hx]; decide) (by rw [hx]; decide) (by decide) ?_
    refine r_iload_n C0 dX2_succeeds_222 rfl 0 rfl ?_
    refine r_bipush (v := 10) C0 dX2_succeeds_223 (by decide) ?_
    refine r_icmp_ge C0 244 dX2_succeeds_225 (by decide) hf (fun hf => ?_) (fun hf => ?_)
    · refine r_iconst (v := 0) C0 dX2_succeeds_244 (by decide) ?_
      obtain rfl := Option.some.inj hf
      exact r_zret C0 rfl dX2_succeeds_245
    · refine r_aload_n C0 dX2_succeeds_228 rfl 2 rfl ?_
      refine r_iload_n C0 dX2_succeeds_229 rfl 1 rfl ?_
      refine r_callVr C0 (st := []) [.int x1] p0 hf vs_38 (fun hl r21 hr21 => c_X5_shipNumbered hl F p0 x1 hk_p0 M r21 hr21) (K_X5_o hk_p0) rfl rfl rfl rfl (Nat.le_of_ble_eq_true rfl) dX2_succeeds_230 (zrm_ok rfl) (fun r21 hr21 hf => ?_)
      refine r_opt hf (fun hf => ?_) (fun q22 eq22 hf => ?_)
      · refine r_iload_n C0 dX2_succeeds_233 rfl 0 rfl ?_
        refine r_callSi C0 (st := []) [.null, .int x2] hf vs_46 (fun hl r23 hr23 => c_X2_isAt hl F none x2 (fun _ h => nomatch h) M r23 hr23) rfl rfl (Nat.le_of_ble_eq_true rfl) dX2_succeeds_234 (zrm_ok rfl) (fun r23 hr23 hf => ?_)
        refine r_if_eq C0 244 dX2_succeeds_237 (by decide) hf (fun hf => ?_) (fun hf => ?_)
        · refine r_iconst (v := 0) C0 dX2_succeeds_244 (by decide) ?_
          obtain rfl := Option.some.inj hf
          exact r_zret C0 rfl dX2_succeeds_245
        · refine r_iconst (v := 1) C0 dX2_succeeds_240 (by decide) ?_
          refine r_goto C0 245 dX2_succeeds_241 (by decide) ?_
          obtain rfl := Option.some.inj hf
          exact r_zret C0 rfl dX2_succeeds_245
      · have hk_q22 := n_X5_shipNumbered (by rw [← eq22]; exact hr21) hk_p0
        refine r_iload_n C0 dX2_succeeds_233 rfl 0 rfl ?_
        refine r_callSi C0 (st := []) [.ref q22, .int x2] hf vs_46 (fun hl r24 hr24 => c_X2_isAt hl F (some q22) x2 (fun _ h => by cases h; exact hk_q22) M r24 hr24) rfl rfl (Nat.le_of_ble_eq_true rfl) dX2_succeeds_234 (zrm_ok rfl) (fun r24 hr24 hf => ?_)
        refine r_if_eq C0 244 dX2_succeeds_237 (by decide) hf (fun hf => ?_) (fun hf => ?_)
        · refine r_iconst (v := 0) C0 dX2_succeeds_244 (by decide) ?_
          obtain rfl := Option.some.inj hf
          exact r_zret C0 rfl dX2_succeeds_245
        · refine r_iconst (v := 1) C0 dX2_succeeds_240 (by decide) ?_
          refine r_goto C0 245 dX2_succeeds_241 (by decide) ?_
          obtain rfl := Option.some.inj hf
          exact r_zret C0 rfl dX2_succeeds_245
  refine z_ite hf (fun hx hf => ?_) (fun hx9 hf => ?_)
  · refine r_tsIn (off := 226) C0 246 dX2_succeeds_20 (by rw [hx]; decide) (by rw [hx]; decide) (by rw [hx]; decide) (by decide) ?_
    refine r_iload_n C0 dX2_succeeds_246 rfl 1 rfl ?_
    refine r_if_ne C0 268 dX2_succeeds_247 (by decide) hf (fun hf => ?_) (fun hf => ?_)
    · refine r_iconst (v := 0) C0 dX2_succeeds_268 (by decide) ?_
      obtain rfl := Option.some.inj hf
      exact r_zret C0 rfl dX2_succeeds_269
    · refine r_iload_n C0 dX2_succeeds_250 rfl 0 rfl ?_
      refine r_bipush (v := 10) C0 dX2_succeeds_251 (by decide) ?_
      refine r_icmp_ge C0 268 dX2_succeeds_253 (by decide) hf (fun hf => ?_) (fun hf => ?_)
      · refine r_iconst (v := 0) C0 dX2_succeeds_268 (by decide) ?_
        obtain rfl := Option.some.inj hf
        exact r_zret C0 rfl dX2_succeeds_269
      · refine r_aload_n C0 dX2_succeeds_256 rfl 2 rfl ?_
        refine r_getI C0 (C := RX5) (T := TX5) cl_X5 (K_X5_o hk_p0) (k := 11) (by decide) qw_254 rfl dX2_succeeds_257 ?_
        refine r_iload_n C0 dX2_succeeds_260 rfl 0 rfl ?_
        refine r_icmp_ne C0 268 dX2_succeeds_261 (by decide) hf (fun hf => ?_) (fun hf => ?_)
        · refine r_iconst (v := 0) C0 dX2_succeeds_268 (by decide) ?_
          obtain rfl := Option.some.inj hf
          exact r_zret C0 rfl dX2_succeeds_269
        · refine r_iconst (v := 1) C0 dX2_succeeds_264 (by decide) ?_
          refine r_goto C0 269 dX2_succeeds_265 (by decide) ?_
          obtain rfl := Option.some.inj hf
          exact r_zret C0 rfl dX2_succeeds_269
  have hy1 := z_ne (a := 1) hx1 (by decide)
  have hy2 := z_ne (a := 2) hx2 (by decide)
  have hy3 := z_ne (a := 3) hx3 (by decide)
  have hy4 := z_ne (a := 4) hx4 (by decide)
  have hy5 := z_ne (a := 5) hx5 (by decide)
  have hy6 := z_ne (a := 6) hx6 (by decide)
  have hy7 := z_ne (a := 7) hx7 (by decide)
  have hy8 := z_ne (a := 8) hx8 (by decide)
  have hy9 := z_ne (a := 9) hx9 (by decide)
  refine r_tsOut C0 270 dX2_succeeds_20 (by omega) (by decide) ?_
  refine r_iconst (v := 0) C0 dX2_succeeds_270 (by decide) ?_
  obtain rfl := Option.some.inj hf
  exact r_zret C0 rfl dX2_succeeds_271
set_option maxHeartbeats 4000000 in
set_option maxRecDepth 100000 in
theorem c_X3_build {l : Launch} {E : zEn} {S : zSk} {X : zMl} {Z : Nat → Prop} (hl : l.stackTraces = false) (F : Nat) (p0 : Nat) (p1 : Int32) (p2 : Int32) (p3 : Int32) (p4 : Int32) (hk_p0 : K_X3 S p0) (M : zMi) (r : zMi) (hf : f_X3_build F p0 p1 p2 p3 p4 M = some r) : zM l E yX3_build cX3_build 5 (Option.none : Option Jvm.ClassFile.FieldType) { frames := 0, cells := 0, slots := 0, locals := 0 } 0 0 [.ref p0, .int p1, .int p2, .int p3, .int p4] S Z M X S Z none r X := by
  refine zM.intro (L0 := [(0, .ref p0), (1, .int p1), (2, .int p2), (3, .int p3), (4, .int p4)]) hl (by decide) (Nat.le_of_ble_eq_true rfl) rfl (fun Γ C0 _ => ?_)
  unfold f_X3_build at hf
  refine r_aload_n C0 dX3_build_0 rfl 0 rfl ?_
  refine r_iload_n C0 dX3_build_1 rfl 1 rfl ?_
  refine r_putI C0 (C := RX3) (T := TX3) cl_X3 (K_X3_o hk_p0) (k := 0) (by decide) qw_7 rfl rfl rfl rfl hf dX3_build_2 (fun M1 hf => ?_)
  refine r_aload_n C0 dX3_build_5 rfl 0 rfl ?_
  refine r_iload_n C0 dX3_build_6 rfl 2 rfl ?_
  refine r_putI C0 (C := RX3) (T := TX3) cl_X3 (K_X3_o hk_p0) (k := 1) (by decide) qw_8 rfl rfl rfl rfl hf dX3_build_7 (fun M2 hf => ?_)
  refine r_aload_n C0 dX3_build_10 rfl 0 rfl ?_
  refine r_iload_n C0 dX3_build_11 rfl 3 rfl ?_
  refine r_putI C0 (C := RX3) (T := TX3) cl_X3 (K_X3_o hk_p0) (k := 2) (by decide) qw_9 rfl rfl rfl rfl hf dX3_build_12 (fun M3 hf => ?_)
  refine r_aload_n C0 dX3_build_15 rfl 0 rfl ?_
  refine r_iload C0 dX3_build_16 4 rfl ?_
  refine r_putI C0 (C := RX3) (T := TX3) cl_X3 (K_X3_o hk_p0) (k := 3) (by decide) qw_10 rfl rfl rfl rfl hf dX3_build_18 (fun M4 hf => ?_)
  refine r_aload_n C0 dX3_build_21 rfl 0 rfl ?_
  refine r_iconst (v := 0) C0 dX3_build_22 (by decide) ?_
  refine r_putI C0 (C := RX3) (T := TX3) cl_X3 (K_X3_o hk_p0) (k := 4) (by decide) qw_11 rfl rfl rfl rfl hf dX3_build_23 (fun M5 hf => ?_)
  refine r_aload_n C0 dX3_build_26 rfl 0 rfl ?_
  refine r_iconst (v := 0) C0 dX3_build_27 (by decide) ?_
  refine r_putI C0 (C := RX3) (T := TX3) cl_X3 (K_X3_o hk_p0) (k := 5) (by decide) qw_12 rfl rfl rfl rfl hf dX3_build_28 (fun M6 hf => ?_)
  refine r_aload_n C0 dX3_build_31 rfl 0 rfl ?_
  refine r_iconst (v := 0) C0 dX3_build_32 (by decide) ?_
  refine r_putI C0 (C := RX3) (T := TX3) cl_X3 (K_X3_o hk_p0) (k := 6) (by decide) qw_13 rfl rfl rfl rfl hf dX3_build_33 (fun M7 hf => ?_)
  refine r_aload_n C0 dX3_build_36 rfl 0 rfl ?_
  refine r_iconst (v := 0) C0 dX3_build_37 (by decide) ?_
  refine r_putI C0 (C := RX3) (T := TX3) cl_X3 (K_X3_o hk_p0) (k := 7) (by decide) qw_14 rfl rfl rfl rfl hf dX3_build_38 (fun M8 hf => ?_)
  obtain rfl := Option.some.inj hf
  exact r_vret C0 dX3_build_41
set_option maxHeartbeats 4000000 in
set_option maxRecDepth 100000 in
theorem g_X6_begin_12 {Γ : zCx} {E : zEn} {S : zSk} {X : zMl} {Z : Nat → Prop} (C0 : zCt Γ E RX6 cX6_begin 4 (Option.none : Option Jvm.ClassFile.FieldType) [] { frames := 0, cells := 0, slots := 0, locals := 0 }) (F : Nat) (p0 : Nat) (p1 : Int32) (p2 : Int32) (hk_p0 : K_X6 S p0) : ∀ (n : Nat) (v3 : Int32) (M : zMi) (r : zMi) , f_X6_begin_12 F p0 p1 p2 n v3 M = some r → zG Γ (zQ Γ E 0 0 S Z none r X) E 4 0 0 S Z M X 12 [(0, .ref p0), (3, .int v3)] [] := by
  intro n
  induction n with
  | zero => intro v3 M r; intro hf; cases hf
  | succ n ih =>
    intro v3 M r hf
    refine r_iload_n C0 dX6_begin_12 rfl 1 rfl ?_
    refine r_aload_n C0 dX6_begin_13 rfl 0 rfl ?_
    refine r_getR C0 (C := RX6) (T := TX6) cl_X6 (K_X6_o hk_p0) (k := 2) (by decide) qw_21 rfl (K_X6_rest_r hk_p0) dX6_begin_14 ?_
    refine r_alen (v := 3) C0 (K_X6_rest_k hk_p0) (by decide) rfl dX6_begin_17 ?_
    refine r_icmp_ge C0 34 dX6_begin_18 (by decide) hf (fun hf => ?_) (fun hf => ?_)
    · refine r_aload_n C0 dX6_begin_34 rfl 0 rfl ?_
      refine r_iconst (v := 0) C0 dX6_begin_35 (by decide) ?_
      refine r_putI C0 (C := RX6) (T := TX6) cl_X6 (K_X6_o hk_p0) (k := 3) (by decide) qw_17 rfl rfl rfl rfl hf dX6_begin_36 (fun M1 hf => ?_)
      refine r_aload_n C0 dX6_begin_39 rfl 0 rfl ?_
      refine r_bipush (v := -9) C0 dX6_begin_40 (by decide) ?_
      refine r_putI C0 (C := RX6) (T := TX6) cl_X6 (K_X6_o hk_p0) (k := 4) (by decide) qw_18 rfl rfl rfl rfl hf dX6_begin_42 (fun M2 hf => ?_)
      refine r_aload_n C0 dX6_begin_45 rfl 0 rfl ?_
      refine r_iconst (v := 0) C0 dX6_begin_46 (by decide) ?_
      refine r_putI C0 (C := RX6) (T := TX6) cl_X6 (K_X6_o hk_p0) (k := 5) (by decide) qw_19 rfl rfl rfl rfl hf dX6_begin_47 (fun M3 hf => ?_)
      refine r_aload_n C0 dX6_begin_50 rfl 0 rfl ?_
      refine r_iconst (v := 0) C0 dX6_begin_51 (by decide) ?_
      refine r_putI C0 (C := RX6) (T := TX6) cl_X6 (K_X6_o hk_p0) (k := 6) (by decide) qw_20 rfl rfl rfl rfl hf dX6_begin_52 (fun M4 hf => ?_)
      obtain rfl := Option.some.inj hf
      exact r_vret C0 dX6_begin_55
    · refine r_aload_n C0 dX6_begin_21 rfl 0 rfl ?_
      refine r_getR C0 (C := RX6) (T := TX6) cl_X6 (K_X6_o hk_p0) (k := 2) (by decide) qw_21 rfl (K_X6_rest_r hk_p0) dX6_begin_22 ?_
      refine r_iload_n C0 dX6_begin_25 rfl 1 rfl ?_
      refine r_iconst (v := 0) C0 dX6_begin_26 (by decide) ?_
      refine r_iast C0 (K_X6_rest_k hk_p0) hf dX6_begin_27 (fun M5 hf => ?_)
      refine r_iinc (j := 1) (v := (v3 + (1 : Int32))) (L' := [(3, .int (v3 + (1 : Int32))), (0, .ref p0)]) C0 dX6_begin_28 rfl rfl (by decide) rfl ?_
      refine r_goto C0 12 dX6_begin_31 (by decide) ?_
      refine r_sub (L' := [(0, .ref p0), (3, .int (v3 + (1 : Int32)))]) [1, 0] rfl ?_
      exact ih (v3 + (1 : Int32)) M5 _  hf
set_option maxHeartbeats 4000000 in
set_option maxRecDepth 100000 in
theorem c_X6_begin {l : Launch} {E : zEn} {S : zSk} {X : zMl} {Z : Nat → Prop} (hl : l.stackTraces = false) (F : Nat) (p0 : Nat) (p1 : Int32) (p2 : Int32) (hk_p0 : K_X6 S p0) (M : zMi) (r : zMi) (hf : f_X6_begin F p0 p1 p2 M = some r) : zM l E yX6_begin cX6_begin 4 (Option.none : Option Jvm.ClassFile.FieldType) { frames := 0, cells := 0, slots := 0, locals := 0 } 0 0 [.ref p0, .int p1, .int p2] S Z M X S Z none r X := by
  refine zM.intro (L0 := [(0, .ref p0), (1, .int p1), (2, .int p2)]) hl (by decide) (Nat.le_of_ble_eq_true rfl) rfl (fun Γ C0 _ => ?_)
  unfold f_X6_begin at hf
  refine r_aload_n C0 dX6_begin_0 rfl 0 rfl ?_
  refine r_iload_n C0 dX6_begin_1 rfl 1 rfl ?_
  refine r_putI C0 (C := RX6) (T := TX6) cl_X6 (K_X6_o hk_p0) (k := 0) (by decide) qw_22 rfl rfl rfl rfl hf dX6_begin_2 (fun M1 hf => ?_)
  refine r_aload_n C0 dX6_begin_5 rfl 0 rfl ?_
  refine r_iload_n C0 dX6_begin_6 rfl 2 rfl ?_
  refine r_putI C0 (C := RX6) (T := TX6) cl_X6 (K_X6_o hk_p0) (k := 1) (by decide) qw_23 rfl rfl rfl rfl hf dX6_begin_7 (fun M2 hf => ?_)
  refine r_iconst (v := 0) C0 dX6_begin_10 (by decide) ?_
  refine r_istore_n (L' := [(3, .int (0 : Int32)), (0, .ref p0), (1, .int p1), (2, .int p2)]) C0 dX6_begin_11 rfl (by decide) rfl ?_
  refine r_sub (L' := [(0, .ref p0), (3, .int (0 : Int32))]) [1, 0] rfl ?_
  exact g_X6_begin_12 C0 F p0 p1 p2 hk_p0 F (0 : Int32) M2 _  hf
set_option maxHeartbeats 4000000 in
set_option maxRecDepth 100000 in
theorem g_X5_begin_24 {Γ : zCx} {E : zEn} {S : zSk} {X : zMl} {Z : Nat → Prop} (C0 : zCt Γ E RX5 cX5_begin 8 (Option.none : Option Jvm.ClassFile.FieldType) [] { frames := 1, cells := 0, slots := 0, locals := 24 }) (F : Nat) (p0 : Nat) (p1 : Int32) (p2 : Int32) (p3 : Int32) (hk_p0 : K_X5 S p0) : ∀ (n : Nat) (v6 : Int32) (M : zMi) (r : zMi) , f_X5_begin_24 F p0 p1 p2 p3 n v6 M = some r → zG Γ (zQ Γ E 0 0 S Z none r X) E 8 0 0 S Z M X 24 [(0, .ref p0), (1, .int p1), (2, .int p2), (3, .int p3), (4, .ref (p0 + 2)), (5, .int (4 : Int32)), (6, .int v6)] [] := by
  intro n
  induction n with
  | zero => intro v6 M r; intro hf; cases hf
  | succ n ih =>
    intro v6 M r hf
    refine r_iload C0 dX5_begin_24 6 rfl ?_
    refine r_iload C0 dX5_begin_26 5 rfl ?_
    refine r_icmp_ge C0 53 dX5_begin_28 (by decide) hf (fun hf => ?_) (fun hf => ?_)
    · refine r_aload_n C0 dX5_begin_53 rfl 0 rfl ?_
      refine r_getR C0 (C := RX5) (T := TX5) cl_X5 (K_X5_o hk_p0) (k := 2) (by decide) qw_31 rfl (K_X5_weather_r hk_p0) dX5_begin_54 ?_
      refine r_iconst (v := 0) C0 dX5_begin_57 (by decide) ?_
      refine r_putI C0 (C := RX8) (T := TX8) cl_X8 (K_X8_o (K_X5_weather_k hk_p0)) (k := 0) (by decide) qw_255 rfl rfl rfl rfl hf dX5_begin_58 (fun M1 hf => ?_)
      refine r_aload_n C0 dX5_begin_61 rfl 0 rfl ?_
      refine r_getR C0 (C := RX5) (T := TX5) cl_X5 (K_X5_o hk_p0) (k := 3) (by decide) qw_37 rfl (K_X5_teams_r hk_p0) dX5_begin_62 ?_
      refine r_iload_n C0 dX5_begin_65 rfl 1 rfl ?_
      refine r_iload_n C0 dX5_begin_66 rfl 2 rfl ?_
      refine r_callVm C0 (st := []) [.int p1, .int p2] (p0 + 5) hf vs_47 (fun hl r2 hr2 => c_X6_begin hl F (p0 + 5) p1 p2 (K_X5_teams_k hk_p0) M1 r2 hr2) (K_X6_o (K_X5_teams_k hk_p0)) rfl rfl rfl rfl (Nat.le_of_ble_eq_true rfl) dX5_begin_67 (zrm_ok rfl) (fun r2 hr2 hf => ?_)
      refine r_aload_n C0 dX5_begin_70 rfl 0 rfl ?_
      refine r_getR C0 (C := RX5) (T := TX5) cl_X5 (K_X5_o hk_p0) (k := 4) (by decide) qw_43 rfl (K_X5_ledger_r hk_p0) dX5_begin_71 ?_
      refine r_iload_n C0 dX5_begin_74 rfl 3 rfl ?_
      refine r_callVm C0 (st := []) [.int p3] (p0 + 7) hf vs_48 (fun hl r3 hr3 => c_X1_begin hl F (p0 + 7) p3 (K_X5_ledger_k hk_p0) r2 r3 hr3) (K_X1_o (K_X5_ledger_k hk_p0)) rfl rfl rfl rfl (Nat.le_of_ble_eq_true rfl) dX5_begin_75 (zrm_ok rfl) (fun r3 hr3 hf => ?_)
      refine r_aload_n C0 dX5_begin_78 rfl 0 rfl ?_
      refine r_iload_n C0 dX5_begin_79 rfl 3 rfl ?_
      refine r_putI C0 (C := RX5) (T := TX5) cl_X5 (K_X5_o hk_p0) (k := 7) (by decide) qw_51 rfl rfl rfl rfl hf dX5_begin_80 (fun M4 hf => ?_)
      refine r_aload_n C0 dX5_begin_83 rfl 0 rfl ?_
      refine r_iconst (v := 0) C0 dX5_begin_84 (by decide) ?_
      refine r_putI C0 (C := RX5) (T := TX5) cl_X5 (K_X5_o hk_p0) (k := 8) (by decide) qw_52 rfl rfl rfl rfl hf dX5_begin_85 (fun M5 hf => ?_)
      refine r_aload_n C0 dX5_begin_88 rfl 0 rfl ?_
      refine r_iconst (v := 0) C0 dX5_begin_89 (by decide) ?_
      refine r_putI C0 (C := RX5) (T := TX5) cl_X5 (K_X5_o hk_p0) (k := 9) (by decide) qw_53 rfl rfl rfl rfl hf dX5_begin_90 (fun M6 hf => ?_)
      refine r_aload_n C0 dX5_begin_93 rfl 0 rfl ?_
      refine r_iconst (v := 0) C0 dX5_begin_94 (by decide) ?_
      refine r_putI C0 (C := RX5) (T := TX5) cl_X5 (K_X5_o hk_p0) (k := 10) (by decide) qw_54 rfl rfl rfl rfl hf dX5_begin_95 (fun M7 hf => ?_)
      refine r_aload_n C0 dX5_begin_98 rfl 0 rfl ?_
      refine r_iconst (v := 0) C0 dX5_begin_99 (by decide) ?_
      refine r_putI C0 (C := RX5) (T := TX5) cl_X5 (K_X5_o hk_p0) (k := 11) (by decide) qw_55 rfl rfl rfl rfl hf dX5_begin_100 (fun M8 hf => ?_)
      obtain rfl := Option.some.inj hf
      exact r_vret C0 dX5_begin_103
    · refine r_aload C0 dX5_begin_31 4 rfl ?_
      refine r_iload C0 dX5_begin_33 6 rfl ?_
      refine r_aald C0 (g := fun j => p0 + 2 + 15 + 1 * j) ((K_X5_ships_k hk_p0)).1 (by decide) (by decide) rfl ((K_X5_ships_k hk_p0)).2.1 hf dX5_begin_35 (fun hi hf => ?_)
      refine r_nmA hf (fun q9 hq hf => ?_)
      have hk_q9 : K_X3 S q9 := by rw [hq]; exact ((K_X5_ships_k hk_p0)).2.2 _ hi
      refine r_astore (L' := [(7, .ref q9), (0, .ref p0), (1, .int p1), (2, .int p2), (3, .int p3), (4, .ref (p0 + 2)), (5, .int (4 : Int32)), (6, .int v6)]) C0 dX5_begin_36 (by decide) rfl ?_
      refine r_aload C0 dX5_begin_38 0 rfl ?_
      refine r_iconst (v := 0) C0 dX5_begin_40 (by decide) ?_
      refine r_iconst (v := 0) C0 dX5_begin_41 (by decide) ?_
      refine r_iconst (v := 0) C0 dX5_begin_42 (by decide) ?_
      refine r_iconst (v := 0) C0 dX5_begin_43 (by decide) ?_
      refine r_callVm C0 (st := []) [.int (0 : Int32), .int (0 : Int32), .int (0 : Int32), .int (0 : Int32)] q9 hf vs_49 (fun hl r10 hr10 => c_X3_build hl F q9 (0 : Int32) (0 : Int32) (0 : Int32) (0 : Int32) hk_q9 M r10 hr10) (K_X3_o hk_q9) rfl rfl rfl rfl (Nat.le_of_ble_eq_true rfl) dX5_begin_44 (zrm_ok rfl) (fun r10 hr10 hf => ?_)
      refine r_iinc (j := 7) (v := (v6 + (1 : Int32))) (L' := [(6, .int (v6 + (1 : Int32))), (7, .ref q9), (0, .ref p0), (1, .int p1), (2, .int p2), (3, .int p3), (4, .ref (p0 + 2)), (5, .int (4 : Int32))]) C0 dX5_begin_47 rfl rfl (by decide) rfl ?_
      refine r_goto C0 24 dX5_begin_50 (by decide) ?_
      refine r_sub (L' := [(0, .ref p0), (1, .int p1), (2, .int p2), (3, .int p3), (4, .ref (p0 + 2)), (5, .int (4 : Int32)), (6, .int (v6 + (1 : Int32)))]) [2, 3, 4, 5, 6, 7, 0] rfl ?_
      exact ih (v6 + (1 : Int32)) r10 _  hf
set_option maxHeartbeats 4000000 in
set_option maxRecDepth 100000 in
theorem c_X5_begin {l : Launch} {E : zEn} {S : zSk} {X : zMl} {Z : Nat → Prop} (hl : l.stackTraces = false) (F : Nat) (p0 : Nat) (p1 : Int32) (p2 : Int32) (p3 : Int32) (hk_p0 : K_X5 S p0) (M : zMi) (r : zMi) (hf : f_X5_begin F p0 p1 p2 p3 M = some r) : zM l E yX5_begin cX5_begin 8 (Option.none : Option Jvm.ClassFile.FieldType) { frames := 1, cells := 0, slots := 0, locals := 24 } 0 0 [.ref p0, .int p1, .int p2, .int p3] S Z M X S Z none r X := by
  refine zM.intro (L0 := [(0, .ref p0), (1, .int p1), (2, .int p2), (3, .int p3)]) hl (by decide) (Nat.le_of_ble_eq_true rfl) rfl (fun Γ C0 _ => ?_)
  unfold f_X5_begin at hf
  refine r_aload_n C0 dX5_begin_0 rfl 0 rfl ?_
  refine r_iconst (v := 0) C0 dX5_begin_1 (by decide) ?_
  refine r_putI C0 (C := RX5) (T := TX5) cl_X5 (K_X5_o hk_p0) (k := 5) (by decide) qw_49 rfl rfl rfl rfl hf dX5_begin_2 (fun M1 hf => ?_)
  refine r_aload_n C0 dX5_begin_5 rfl 0 rfl ?_
  refine r_iconst (v := 0) C0 dX5_begin_6 (by decide) ?_
  refine r_putI C0 (C := RX5) (T := TX5) cl_X5 (K_X5_o hk_p0) (k := 6) (by decide) qw_50 rfl rfl rfl rfl hf dX5_begin_7 (fun M2 hf => ?_)
  refine r_aload_n C0 dX5_begin_10 rfl 0 rfl ?_
  refine r_getR C0 (C := RX5) (T := TX5) cl_X5 (K_X5_o hk_p0) (k := 1) (by decide) qw_56 rfl (K_X5_ships_r hk_p0) dX5_begin_11 ?_
  refine r_astore (L' := [(4, .ref (p0 + 2)), (0, .ref p0), (1, .int p1), (2, .int p2), (3, .int p3)]) C0 dX5_begin_14 (by decide) rfl ?_
  refine r_aload C0 dX5_begin_16 0 rfl ?_
  refine r_alen (v := 4) C0 ((K_X5_ships_k hk_p0)).1 (by decide) rfl dX5_begin_18 ?_
  refine r_istore (L' := [(5, .int (4 : Int32)), (4, .ref (p0 + 2)), (0, .ref p0), (1, .int p1), (2, .int p2), (3, .int p3)]) C0 dX5_begin_19 (by decide) rfl ?_
  refine r_iconst (v := 0) C0 dX5_begin_21 (by decide) ?_
  refine r_istore (L' := [(6, .int (0 : Int32)), (5, .int (4 : Int32)), (4, .ref (p0 + 2)), (0, .ref p0), (1, .int p1), (2, .int p2), (3, .int p3)]) C0 dX5_begin_22 (by decide) rfl ?_
  refine r_sub (L' := [(0, .ref p0), (1, .int p1), (2, .int p2), (3, .int p3), (4, .ref (p0 + 2)), (5, .int (4 : Int32)), (6, .int (0 : Int32))]) [3, 4, 5, 6, 2, 1, 0] rfl ?_
  exact g_X5_begin_24 C0 F p0 p1 p2 p3 hk_p0 F (0 : Int32) M2 _  hf
set_option maxHeartbeats 4000000 in
set_option maxRecDepth 100000 in
theorem c_X5_addZone {l : Launch} {E : zEn} {S : zSk} {X : zMl} {Z : Nat → Prop} (hl : l.stackTraces = false) (F : Nat) (p0 : Nat) (p1 : Int32) (p2 : Int32) (p3 : Int32) (p4 : Int32) (hk_p0 : K_X5 S p0) (M : zMi) (r : zMi) (hf : f_X5_addZone F p0 p1 p2 p3 p4 M = some r) : zM l E yX5_addZone cX5_addZone 6 (Option.none : Option Jvm.ClassFile.FieldType) { frames := 0, cells := 0, slots := 0, locals := 0 } 0 0 [.ref p0, .int p1, .int p2, .int p3, .int p4] S Z M X S Z none r X := by
  refine zM.intro (L0 := [(0, .ref p0), (1, .int p1), (2, .int p2), (3, .int p3), (4, .int p4)]) hl (by decide) (Nat.le_of_ble_eq_true rfl) rfl (fun Γ C0 _ => ?_)
  unfold f_X5_addZone at hf
  refine r_aload_n C0 dX5_addZone_0 rfl 0 rfl ?_
  refine r_getI C0 (C := RX5) (T := TX5) cl_X5 (K_X5_o hk_p0) (k := 5) (by decide) qw_49 rfl dX5_addZone_1 ?_
  refine r_if_lt C0 65 dX5_addZone_4 (by decide) hf (fun hf => ?_) (fun hf => ?_)
  · obtain rfl := Option.some.inj hf
    exact r_vret C0 dX5_addZone_65
  · refine r_aload_n C0 dX5_addZone_7 rfl 0 rfl ?_
    refine r_getI C0 (C := RX5) (T := TX5) cl_X5 (K_X5_o hk_p0) (k := 5) (by decide) qw_49 rfl dX5_addZone_8 ?_
    refine r_aload_n C0 dX5_addZone_11 rfl 0 rfl ?_
    refine r_getR C0 (C := RX5) (T := TX5) cl_X5 (K_X5_o hk_p0) (k := 0) (by decide) qw_62 rfl (K_X5_zones_r hk_p0) dX5_addZone_12 ?_
    refine r_alen (v := 9) C0 ((K_X5_zones_k hk_p0)).1 (by decide) rfl dX5_addZone_15 ?_
    refine r_icmp_ge C0 65 dX5_addZone_16 (by decide) hf (fun hf => ?_) (fun hf => ?_)
    · obtain rfl := Option.some.inj hf
      exact r_vret C0 dX5_addZone_65
    · refine r_aload_n C0 dX5_addZone_19 rfl 0 rfl ?_
      refine r_getR C0 (C := RX5) (T := TX5) cl_X5 (K_X5_o hk_p0) (k := 0) (by decide) qw_62 rfl (K_X5_zones_r hk_p0) dX5_addZone_20 ?_
      refine r_aload_n C0 dX5_addZone_23 rfl 0 rfl ?_
      refine r_getI C0 (C := RX5) (T := TX5) cl_X5 (K_X5_o hk_p0) (k := 5) (by decide) qw_49 rfl dX5_addZone_24 ?_
      refine r_aald C0 (g := fun j => p0 + 1 + 7 + 1 * j) ((K_X5_zones_k hk_p0)).1 (by decide) (by decide) rfl ((K_X5_zones_k hk_p0)).2.1 hf dX5_addZone_27 (fun hi hf => ?_)
      refine r_nmA hf (fun q1 hq hf => ?_)
      have hk_q1 : K_X9 S q1 := by rw [hq]; exact ((K_X5_zones_k hk_p0)).2.2 _ hi
      refine r_astore (L' := [(5, .ref q1), (0, .ref p0), (1, .int p1), (2, .int p2), (3, .int p3), (4, .int p4)]) C0 dX5_addZone_28 (by decide) rfl ?_
      refine r_aload C0 dX5_addZone_30 0 rfl ?_
      refine r_iload_n C0 dX5_addZone_32 rfl 2 rfl ?_
      refine r_putI C0 (C := RX9) (T := TX9) cl_X9 (K_X9_o hk_q1) (k := 0) (by decide) qw_147 rfl rfl rfl rfl hf dX5_addZone_33 (fun M2 hf => ?_)
      refine r_aload C0 dX5_addZone_36 0 rfl ?_
      refine r_iload_n C0 dX5_addZone_38 rfl 3 rfl ?_
      refine r_putI C0 (C := RX9) (T := TX9) cl_X9 (K_X9_o hk_q1) (k := 1) (by decide) qw_163 rfl rfl rfl rfl hf dX5_addZone_39 (fun M3 hf => ?_)
      refine r_aload C0 dX5_addZone_42 0 rfl ?_
      refine r_iload_n C0 dX5_addZone_44 rfl 4 rfl ?_
      refine r_putI C0 (C := RX9) (T := TX9) cl_X9 (K_X9_o hk_q1) (k := 2) (by decide) qw_122 rfl rfl rfl rfl hf dX5_addZone_45 (fun M4 hf => ?_)
      refine r_aload C0 dX5_addZone_48 0 rfl ?_
      refine r_iload C0 dX5_addZone_50 5 rfl ?_
      refine r_putI C0 (C := RX9) (T := TX9) cl_X9 (K_X9_o hk_q1) (k := 3) (by decide) qw_268 rfl rfl rfl rfl hf dX5_addZone_52 (fun M5 hf => ?_)
      refine r_aload_n C0 dX5_addZone_55 rfl 1 rfl ?_
      refine r_dup C0 dX5_addZone_56 rfl ?_
      refine r_getI C0 (C := RX5) (T := TX5) cl_X5 (K_X5_o hk_p0) (k := 5) (by decide) qw_49 rfl dX5_addZone_57 ?_
      refine r_iconst (v := 1) C0 dX5_addZone_60 (by decide) ?_
      refine r_iadd C0 dX5_addZone_61 ?_
      refine r_putI C0 (C := RX5) (T := TX5) cl_X5 (K_X5_o hk_p0) (k := 5) (by decide) qw_49 rfl rfl rfl rfl hf dX5_addZone_62 (fun M6 hf => ?_)
      obtain rfl := Option.some.inj hf
      exact r_vret C0 dX5_addZone_65
set_option maxHeartbeats 4000000 in
set_option maxRecDepth 100000 in
theorem c_X5_addShip {l : Launch} {E : zEn} {S : zSk} {X : zMl} {Z : Nat → Prop} (hl : l.stackTraces = false) (F : Nat) (p0 : Nat) (p1 : Int32) (p2 : Int32) (p3 : Int32) (p4 : Int32) (hk_p0 : K_X5 S p0) (M : zMi) (r : zMi) (hf : f_X5_addShip F p0 p1 p2 p3 p4 M = some r) : zM l E yX5_addShip cX5_addShip 5 (Option.none : Option Jvm.ClassFile.FieldType) { frames := 1, cells := 0, slots := 0, locals := 24 } 0 0 [.ref p0, .int p1, .int p2, .int p3, .int p4] S Z M X S Z none r X := by
  refine zM.intro (L0 := [(0, .ref p0), (1, .int p1), (2, .int p2), (3, .int p3), (4, .int p4)]) hl (by decide) (Nat.le_of_ble_eq_true rfl) rfl (fun Γ C0 _ => ?_)
  unfold f_X5_addShip at hf
  refine r_aload_n C0 dX5_addShip_0 rfl 0 rfl ?_
  refine r_getI C0 (C := RX5) (T := TX5) cl_X5 (K_X5_o hk_p0) (k := 6) (by decide) qw_50 rfl dX5_addShip_1 ?_
  refine r_if_lt C0 46 dX5_addShip_4 (by decide) hf (fun hf => ?_) (fun hf => ?_)
  · obtain rfl := Option.some.inj hf
    exact r_vret C0 dX5_addShip_46
  · refine r_aload_n C0 dX5_addShip_7 rfl 0 rfl ?_
    refine r_getI C0 (C := RX5) (T := TX5) cl_X5 (K_X5_o hk_p0) (k := 6) (by decide) qw_50 rfl dX5_addShip_8 ?_
    refine r_aload_n C0 dX5_addShip_11 rfl 0 rfl ?_
    refine r_getR C0 (C := RX5) (T := TX5) cl_X5 (K_X5_o hk_p0) (k := 1) (by decide) qw_56 rfl (K_X5_ships_r hk_p0) dX5_addShip_12 ?_
    refine r_alen (v := 4) C0 ((K_X5_ships_k hk_p0)).1 (by decide) rfl dX5_addShip_15 ?_
    refine r_icmp_ge C0 46 dX5_addShip_16 (by decide) hf (fun hf => ?_) (fun hf => ?_)
    · obtain rfl := Option.some.inj hf
      exact r_vret C0 dX5_addShip_46
    · refine r_aload_n C0 dX5_addShip_19 rfl 0 rfl ?_
      refine r_getR C0 (C := RX5) (T := TX5) cl_X5 (K_X5_o hk_p0) (k := 1) (by decide) qw_56 rfl (K_X5_ships_r hk_p0) dX5_addShip_20 ?_
      refine r_aload_n C0 dX5_addShip_23 rfl 0 rfl ?_
      refine r_getI C0 (C := RX5) (T := TX5) cl_X5 (K_X5_o hk_p0) (k := 6) (by decide) qw_50 rfl dX5_addShip_24 ?_
      refine r_aald C0 (g := fun j => p0 + 2 + 15 + 1 * j) ((K_X5_ships_k hk_p0)).1 (by decide) (by decide) rfl ((K_X5_ships_k hk_p0)).2.1 hf dX5_addShip_27 (fun hi hf => ?_)
      refine r_nmA hf (fun q1 hq hf => ?_)
      have hk_q1 : K_X3 S q1 := by rw [hq]; exact ((K_X5_ships_k hk_p0)).2.2 _ hi
      refine r_iload_n C0 dX5_addShip_28 rfl 1 rfl ?_
      refine r_iload_n C0 dX5_addShip_29 rfl 2 rfl ?_
      refine r_iload_n C0 dX5_addShip_30 rfl 3 rfl ?_
      refine r_iload C0 dX5_addShip_31 4 rfl ?_
      refine r_callVm C0 (st := []) [.int p1, .int p2, .int p3, .int p4] q1 hf vs_49 (fun hl r2 hr2 => c_X3_build hl F q1 p1 p2 p3 p4 hk_q1 M r2 hr2) (K_X3_o hk_q1) rfl rfl rfl rfl (Nat.le_of_ble_eq_true rfl) dX5_addShip_33 (zrm_ok rfl) (fun r2 hr2 hf => ?_)
      refine r_aload_n C0 dX5_addShip_36 rfl 0 rfl ?_
      refine r_dup C0 dX5_addShip_37 rfl ?_
      refine r_getI C0 (C := RX5) (T := TX5) cl_X5 (K_X5_o hk_p0) (k := 6) (by decide) qw_50 rfl dX5_addShip_38 ?_
      refine r_iconst (v := 1) C0 dX5_addShip_41 (by decide) ?_
      refine r_iadd C0 dX5_addShip_42 ?_
      refine r_putI C0 (C := RX5) (T := TX5) cl_X5 (K_X5_o hk_p0) (k := 6) (by decide) qw_50 rfl rfl rfl rfl hf dX5_addShip_43 (fun M3 hf => ?_)
      obtain rfl := Option.some.inj hf
      exact r_vret C0 dX5_addShip_46
set_option maxHeartbeats 4000000 in
set_option maxRecDepth 100000 in
theorem c_X5_leftIn {l : Launch} {E : zEn} {S : zSk} {X : zMl} {Z : Nat → Prop} (hl : l.stackTraces = false) (F : Nat) (p0 : Nat) (p1 : Nat) (p2 : Int32) (hk_p0 : K_X5 S p0) (hk_p1 : K_X9 S p1) (M : zMi) (r : Int32) (hf : f_X5_leftIn F p0 p1 p2 M = some r) : zM l E yX5_leftIn cX5_leftIn 3 (Option.some Jvm.ClassFile.FieldType.int) { frames := 0, cells := 0, slots := 0, locals := 0 } 0 0 [.ref p0, .ref p1, .int p2] S Z M X S Z (some (.int r)) M X := by
  refine zM.intro (L0 := [(0, .ref p0), (1, .ref p1), (2, .int p2)]) hl (by decide) (Nat.le_of_ble_eq_true rfl) rfl (fun Γ C0 _ => ?_)
  unfold f_X5_leftIn at hf
  refine r_iload_n C0 dX5_leftIn_0 rfl 2 rfl ?_
  refine r_aload_n C0 dX5_leftIn_1 rfl 0 rfl ?_
  refine r_getI C0 (C := RX5) (T := TX5) cl_X5 (K_X5_o hk_p0) (k := 9) (by decide) qw_53 rfl dX5_leftIn_2 ?_
  refine r_icmp_ge C0 10 dX5_leftIn_5 (by decide) hf (fun hf => ?_) (fun hf => ?_)
  · refine r_iload_n C0 dX5_leftIn_10 rfl 2 rfl ?_
    refine r_aload_n C0 dX5_leftIn_11 rfl 0 rfl ?_
    refine r_getI C0 (C := RX5) (T := TX5) cl_X5 (K_X5_o hk_p0) (k := 9) (by decide) qw_53 rfl dX5_leftIn_12 ?_
    refine r_icmp_ne C0 30 dX5_leftIn_15 (by decide) hf (fun hf => ?_) (fun hf => ?_)
    · refine r_aload_n C0 dX5_leftIn_30 rfl 1 rfl ?_
      refine r_getI C0 (C := RX9) (T := TX9) cl_X9 (K_X9_o hk_p1) (k := 0) (by decide) qw_147 rfl dX5_leftIn_31 ?_
      obtain rfl := Option.some.inj hf
      exact r_iret C0 dX5_leftIn_34
    · refine r_aload_n C0 dX5_leftIn_18 rfl 1 rfl ?_
      refine r_getI C0 (C := RX9) (T := TX9) cl_X9 (K_X9_o hk_p1) (k := 0) (by decide) qw_147 rfl dX5_leftIn_19 ?_
      refine r_aload_n C0 dX5_leftIn_22 rfl 0 rfl ?_
      refine r_getI C0 (C := RX5) (T := TX5) cl_X5 (K_X5_o hk_p0) (k := 10) (by decide) qw_54 rfl dX5_leftIn_23 ?_
      refine r_isub C0 dX5_leftIn_26 ?_
      refine r_goto C0 34 dX5_leftIn_27 (by decide) ?_
      obtain rfl := Option.some.inj hf
      exact r_iret C0 dX5_leftIn_34
  · refine r_iconst (v := 0) C0 dX5_leftIn_8 (by decide) ?_
    obtain rfl := Option.some.inj hf
    exact r_iret C0 dX5_leftIn_9
set_option maxHeartbeats 4000000 in
set_option maxRecDepth 100000 in
theorem g_X5_aboardOfAll_13 {Γ : zCx} {E : zEn} {S : zSk} {X : zMl} {Z : Nat → Prop} {M : zMi} (C0 : zCt Γ E RX5 cX5_aboardOfAll 6 (Option.some Jvm.ClassFile.FieldType.int) [] { frames := 0, cells := 0, slots := 0, locals := 0 }) (F : Nat) (p0 : Nat) (hk_p0 : K_X5 S p0) : ∀ (n : Nat) (v1 : Int32) (v4 : Int32) (r : Int32) , f_X5_aboardOfAll_13 F p0 n v1 v4 M = some r → zG Γ (zQ Γ E 0 0 S Z (some (.int r)) M X) E 6 0 0 S Z M X 13 [(1, .int v1), (2, .ref (p0 + 2)), (3, .int (4 : Int32)), (4, .int v4)] [] := by
  intro n
  induction n with
  | zero => intro v1 v4 r; intro hf; cases hf
  | succ n ih =>
    intro v1 v4 r hf
    refine r_iload C0 dX5_aboardOfAll_13 3 rfl ?_
    refine r_iload_n C0 dX5_aboardOfAll_15 rfl 2 rfl ?_
    refine r_icmp_ge C0 39 dX5_aboardOfAll_16 (by decide) hf (fun hf => ?_) (fun hf => ?_)
    · refine r_iload_n C0 dX5_aboardOfAll_39 rfl 0 rfl ?_
      obtain rfl := Option.some.inj hf
      exact r_iret C0 dX5_aboardOfAll_40
    · refine r_aload_n C0 dX5_aboardOfAll_19 rfl 1 rfl ?_
      refine r_iload C0 dX5_aboardOfAll_20 3 rfl ?_
      refine r_aald C0 (g := fun j => p0 + 2 + 15 + 1 * j) ((K_X5_ships_k hk_p0)).1 (by decide) (by decide) rfl ((K_X5_ships_k hk_p0)).2.1 hf dX5_aboardOfAll_22 (fun hi hf => ?_)
      refine r_nmA hf (fun q1 hq hf => ?_)
      have hk_q1 : K_X3 S q1 := by rw [hq]; exact ((K_X5_ships_k hk_p0)).2.2 _ hi
      refine r_astore (L' := [(5, .ref q1), (1, .int v1), (2, .ref (p0 + 2)), (3, .int (4 : Int32)), (4, .int v4)]) C0 dX5_aboardOfAll_23 (by decide) rfl ?_
      refine r_iload_n C0 dX5_aboardOfAll_25 rfl 1 rfl ?_
      refine r_aload C0 dX5_aboardOfAll_26 0 rfl ?_
      refine r_getI C0 (C := RX3) (T := TX3) cl_X3 (K_X3_o hk_q1) (k := 4) (by decide) qw_81 rfl dX5_aboardOfAll_28 ?_
      refine r_iadd C0 dX5_aboardOfAll_31 ?_
      refine r_nm hf (fun x2 hf => ?_)
      refine r_istore_n (L' := [(1, .int x2), (5, .ref q1), (2, .ref (p0 + 2)), (3, .int (4 : Int32)), (4, .int v4)]) C0 dX5_aboardOfAll_32 rfl (by decide) rfl ?_
      refine r_iinc (j := 4) (v := (v4 + (1 : Int32))) (L' := [(4, .int (v4 + (1 : Int32))), (1, .int x2), (5, .ref q1), (2, .ref (p0 + 2)), (3, .int (4 : Int32))]) C0 dX5_aboardOfAll_33 rfl rfl (by decide) rfl ?_
      refine r_goto C0 13 dX5_aboardOfAll_36 (by decide) ?_
      refine r_sub (L' := [(1, .int x2), (2, .ref (p0 + 2)), (3, .int (4 : Int32)), (4, .int (v4 + (1 : Int32)))]) [1, 3, 4, 0] rfl ?_
      exact ih x2 (v4 + (1 : Int32)) _  hf
set_option maxHeartbeats 4000000 in
set_option maxRecDepth 100000 in
theorem c_X5_aboardOfAll {l : Launch} {E : zEn} {S : zSk} {X : zMl} {Z : Nat → Prop} (hl : l.stackTraces = false) (F : Nat) (p0 : Nat) (hk_p0 : K_X5 S p0) (M : zMi) (r : Int32) (hf : f_X5_aboardOfAll F p0 M = some r) : zM l E yX5_aboardOfAll cX5_aboardOfAll 6 (Option.some Jvm.ClassFile.FieldType.int) { frames := 0, cells := 0, slots := 0, locals := 0 } 0 0 [.ref p0] S Z M X S Z (some (.int r)) M X := by
  refine zM.intro (L0 := [(0, .ref p0)]) hl (by decide) (Nat.le_of_ble_eq_true rfl) rfl (fun Γ C0 _ => ?_)
  unfold f_X5_aboardOfAll at hf
  refine r_iconst (v := 0) C0 dX5_aboardOfAll_0 (by decide) ?_
  refine r_istore_n (L' := [(1, .int (0 : Int32)), (0, .ref p0)]) C0 dX5_aboardOfAll_1 rfl (by decide) rfl ?_
  refine r_aload_n C0 dX5_aboardOfAll_2 rfl 1 rfl ?_
  refine r_getR C0 (C := RX5) (T := TX5) cl_X5 (K_X5_o hk_p0) (k := 1) (by decide) qw_56 rfl (K_X5_ships_r hk_p0) dX5_aboardOfAll_3 ?_
  refine r_astore_n (L' := [(2, .ref (p0 + 2)), (1, .int (0 : Int32)), (0, .ref p0)]) C0 dX5_aboardOfAll_6 rfl (by decide) rfl ?_
  refine r_aload_n C0 dX5_aboardOfAll_7 rfl 0 rfl ?_
  refine r_alen (v := 4) C0 ((K_X5_ships_k hk_p0)).1 (by decide) rfl dX5_aboardOfAll_8 ?_
  refine r_istore_n (L' := [(3, .int (4 : Int32)), (2, .ref (p0 + 2)), (1, .int (0 : Int32)), (0, .ref p0)]) C0 dX5_aboardOfAll_9 rfl (by decide) rfl ?_
  refine r_iconst (v := 0) C0 dX5_aboardOfAll_10 (by decide) ?_
  refine r_istore (L' := [(4, .int (0 : Int32)), (3, .int (4 : Int32)), (2, .ref (p0 + 2)), (1, .int (0 : Int32)), (0, .ref p0)]) C0 dX5_aboardOfAll_11 (by decide) rfl ?_
  refine r_sub (L' := [(1, .int (0 : Int32)), (2, .ref (p0 + 2)), (3, .int (4 : Int32)), (4, .int (0 : Int32))]) [3, 2, 1, 0] rfl ?_
  exact g_X5_aboardOfAll_13 C0 F p0 hk_p0 F (0 : Int32) (0 : Int32) _  hf
set_option maxHeartbeats 4000000 in
set_option maxRecDepth 100000 in
theorem c_X5_fillAndSend {l : Launch} {E : zEn} {S : zSk} {X : zMl} {Z : Nat → Prop} (hl : l.stackTraces = false) (F : Nat) (p0 : Nat) (p1 : Int32) (hk_p0 : K_X5 S p0) (M : zMi) (r : Int32 × zMi) (hf : f_X5_fillAndSend F p0 p1 M = some r) : zM l E yX5_fillAndSend cX5_fillAndSend 3 (Option.some Jvm.ClassFile.FieldType.boolean) { frames := 2, cells := 0, slots := 0, locals := 43 } 0 0 [.ref p0, .int p1] S Z M X S Z (some (.int r.1)) r.2 X := by
  refine zM.intro (L0 := [(0, .ref p0), (1, .int p1)]) hl (by decide) (Nat.le_of_ble_eq_true rfl) rfl (fun Γ C0 _ => ?_)
  unfold f_X5_fillAndSend at hf
  refine r_aload_n C0 dX5_fillAndSend_0 rfl 0 rfl ?_
  refine r_iload_n C0 dX5_fillAndSend_1 rfl 1 rfl ?_
  refine r_callVr C0 (st := []) [.int p1] p0 hf vs_27 (fun hl r1 hr1 => c_X5_shipNumbered hl F p0 p1 hk_p0 M r1 hr1) (K_X5_o hk_p0) rfl rfl rfl rfl (Nat.le_of_ble_eq_true rfl) dX5_fillAndSend_2 (zrm_ok rfl) (fun r1 hr1 hf => ?_)
  refine r_opt hf (fun hf => ?_) (fun q2 eq2 hf => ?_)
  · refine r_astoreN_n (L' := [(2, .null), (0, .ref p0), (1, .int p1)]) C0 dX5_fillAndSend_5 rfl (by decide) rfl ?_
    refine r_aloadN_n C0 dX5_fillAndSend_6 rfl 0 rfl ?_
    refine r_ifnullN C0 18 dX5_fillAndSend_7 (by decide) ?_
    refine r_iconst (v := 0) C0 dX5_fillAndSend_18 (by decide) ?_
    obtain rfl := Option.some.inj hf
    exact r_zret C0 rfl dX5_fillAndSend_19
  · have hk_q2 := n_X5_shipNumbered (by rw [← eq2]; exact hr1) hk_p0
    refine r_astore_n (L' := [(2, .ref q2), (0, .ref p0), (1, .int p1)]) C0 dX5_fillAndSend_5 rfl (by decide) rfl ?_
    refine r_aload_n C0 dX5_fillAndSend_6 rfl 0 rfl ?_
    refine r_ifnull C0 dX5_fillAndSend_7 ?_
    refine r_aload_n C0 dX5_fillAndSend_10 rfl 1 rfl ?_
    refine r_aload_n C0 dX5_fillAndSend_11 rfl 0 rfl ?_
    refine r_callVi C0 (st := []) [.ref q2] p0 hf vs_50 (fun hl r3 hr3 => c_X5_canSendOut hl F p0 q2 hk_p0 hk_q2 M r3 hr3) (K_X5_o hk_p0) rfl rfl rfl rfl (Nat.le_of_ble_eq_true rfl) dX5_fillAndSend_12 (zrm_ok rfl) (fun r3 hr3 hf => ?_)
    refine r_if_ne C0 20 dX5_fillAndSend_15 (by decide) hf (fun hf => ?_) (fun hf => ?_)
    · refine r_aload_n C0 dX5_fillAndSend_20 rfl 1 rfl ?_
      refine r_aload_n C0 dX5_fillAndSend_21 rfl 0 rfl ?_
      refine r_aload_n C0 dX5_fillAndSend_22 rfl 1 rfl ?_
      refine r_getI C0 (C := RX5) (T := TX5) cl_X5 (K_X5_o hk_p0) (k := 7) (by decide) qw_51 rfl dX5_fillAndSend_23 ?_
      refine r_aload_n C0 dX5_fillAndSend_26 rfl 0 rfl ?_
      refine r_getI C0 (C := RX3) (T := TX3) cl_X3 (K_X3_o hk_q2) (k := 0) (by decide) qw_80 rfl dX5_fillAndSend_27 ?_
      refine r_aload_n C0 dX5_fillAndSend_30 rfl 0 rfl ?_
      refine r_getI C0 (C := RX3) (T := TX3) cl_X3 (K_X3_o hk_q2) (k := 4) (by decide) qw_81 rfl dX5_fillAndSend_31 ?_
      refine r_isub C0 dX5_fillAndSend_34 ?_
      refine r_mmin C0 qw_148 qw_143 qw_144 qw_145 (Nat.le_of_ble_eq_true rfl) (Nat.le_of_ble_eq_true rfl) (Nat.le_of_ble_eq_true rfl) (Nat.le_of_ble_eq_true rfl) dX5_fillAndSend_35 ?_
      refine r_callVm C0 (st := []) [.ref q2, .int (zmin (M p0 7) ((M q2 0) - (M q2 4)))] p0 hf vs_51 (fun hl r4 hr4 => c_X5_loadOnto hl F p0 q2 (zmin (M p0 7) ((M q2 0) - (M q2 4))) hk_p0 hk_q2 M r4 hr4) (K_X5_o hk_p0) rfl rfl rfl rfl (Nat.le_of_ble_eq_true rfl) dX5_fillAndSend_38 (zrm_ok rfl) (fun r4 hr4 hf => ?_)
      refine r_aload_n C0 dX5_fillAndSend_41 rfl 1 rfl ?_
      refine r_aload_n C0 dX5_fillAndSend_42 rfl 0 rfl ?_
      refine r_callVm C0 (st := []) [.ref q2] p0 hf vs_52 (fun hl r5 hr5 => c_X5_sendOut hl F p0 q2 hk_p0 hk_q2 r4 r5 hr5) (K_X5_o hk_p0) rfl rfl rfl rfl (Nat.le_of_ble_eq_true rfl) dX5_fillAndSend_43 (zrm_ok rfl) (fun r5 hr5 hf => ?_)
      refine r_iconst (v := 1) C0 dX5_fillAndSend_46 (by decide) ?_
      obtain rfl := Option.some.inj hf
      exact r_zret C0 rfl dX5_fillAndSend_47
    · refine r_iconst (v := 0) C0 dX5_fillAndSend_18 (by decide) ?_
      obtain rfl := Option.some.inj hf
      exact r_zret C0 rfl dX5_fillAndSend_19
set_option maxHeartbeats 4000000 in
set_option maxRecDepth 100000 in
theorem g_X5_daysUntilDone_2 {Γ : zCx} {E : zEn} {S : zSk} {X : zMl} {Z : Nat → Prop} (C0 : zCt Γ E RX5 cX5_daysUntilDone 3 (Option.some Jvm.ClassFile.FieldType.int) [] { frames := 5, cells := 0, slots := 0, locals := 114 }) (F : Nat) (p0 : Nat) (p1 : Int32) (hk_p0 : K_X5 S p0) : ∀ (n : Nat) (v2 : Int32) (M : zMi) (r : Int32 × zMi) , f_X5_daysUntilDone_2 F p0 p1 n v2 M = some r → zG Γ (zQ Γ E 0 0 S Z (some (.int r.1)) r.2 X) E 3 0 0 S Z M X 2 [(0, .ref p0), (1, .int p1), (2, .int v2)] [] := by
  intro n
  induction n with
  | zero => intro v2 M r; intro hf; cases hf
  | succ n ih =>
    intro v2 M r hf
    refine r_iload_n C0 dX5_daysUntilDone_2 rfl 2 rfl ?_
    refine r_sipush (v := 400) C0 dX5_daysUntilDone_3 (by decide) ?_
    refine r_icmp_ge C0 29 dX5_daysUntilDone_6 (by decide) hf (fun hf => ?_) (fun hf => ?_)
    · refine r_aload_n C0 dX5_daysUntilDone_29 rfl 0 rfl ?_
      refine r_getI C0 (C := RX5) (T := TX5) cl_X5 (K_X5_o hk_p0) (k := 9) (by decide) qw_53 rfl dX5_daysUntilDone_30 ?_
      refine r_iload_n C0 dX5_daysUntilDone_33 rfl 1 rfl ?_
      refine r_icmp_le C0 43 dX5_daysUntilDone_34 (by decide) hf (fun hf => ?_) (fun hf => ?_)
      · refine r_bipush (v := -9) C0 dX5_daysUntilDone_43 (by decide) ?_
        obtain rfl := Option.some.inj hf
        exact r_iret C0 dX5_daysUntilDone_45
      · refine r_sipush (v := 400) C0 dX5_daysUntilDone_37 (by decide) ?_
        refine r_goto C0 45 dX5_daysUntilDone_40 (by decide) ?_
        obtain rfl := Option.some.inj hf
        exact r_iret C0 dX5_daysUntilDone_45
    · refine r_aload_n C0 dX5_daysUntilDone_9 rfl 0 rfl ?_
      refine r_getI C0 (C := RX5) (T := TX5) cl_X5 (K_X5_o hk_p0) (k := 9) (by decide) qw_53 rfl dX5_daysUntilDone_10 ?_
      refine r_iload_n C0 dX5_daysUntilDone_13 rfl 1 rfl ?_
      refine r_icmp_le C0 19 dX5_daysUntilDone_14 (by decide) hf (fun hf => ?_) (fun hf => ?_)
      · refine r_aload_n C0 dX5_daysUntilDone_19 rfl 0 rfl ?_
        refine r_callVm C0 (st := []) [] p0 hf vs_35 (fun hl r1 hr1 => c_X5_passDay hl F p0 hk_p0 M r1 hr1) (K_X5_o hk_p0) rfl rfl rfl rfl (Nat.le_of_ble_eq_true rfl) dX5_daysUntilDone_20 (zrm_ok rfl) (fun r1 hr1 hf => ?_)
        refine r_iinc (j := 2) (v := (v2 + (1 : Int32))) (L' := [(2, .int (v2 + (1 : Int32))), (0, .ref p0), (1, .int p1)]) C0 dX5_daysUntilDone_23 rfl rfl (by decide) rfl ?_
        refine r_goto C0 2 dX5_daysUntilDone_26 (by decide) ?_
        refine r_sub (L' := [(0, .ref p0), (1, .int p1), (2, .int (v2 + (1 : Int32)))]) [1, 2, 0] rfl ?_
        exact ih (v2 + (1 : Int32)) r1 _  hf
      · refine r_iload_n C0 dX5_daysUntilDone_17 rfl 2 rfl ?_
        obtain rfl := Option.some.inj hf
        exact r_iret C0 dX5_daysUntilDone_18
set_option maxHeartbeats 4000000 in
set_option maxRecDepth 100000 in
theorem c_X5_daysUntilDone {l : Launch} {E : zEn} {S : zSk} {X : zMl} {Z : Nat → Prop} (hl : l.stackTraces = false) (F : Nat) (p0 : Nat) (p1 : Int32) (hk_p0 : K_X5 S p0) (M : zMi) (r : Int32 × zMi) (hf : f_X5_daysUntilDone F p0 p1 M = some r) : zM l E yX5_daysUntilDone cX5_daysUntilDone 3 (Option.some Jvm.ClassFile.FieldType.int) { frames := 5, cells := 0, slots := 0, locals := 114 } 0 0 [.ref p0, .int p1] S Z M X S Z (some (.int r.1)) r.2 X := by
  refine zM.intro (L0 := [(0, .ref p0), (1, .int p1)]) hl (by decide) (Nat.le_of_ble_eq_true rfl) rfl (fun Γ C0 _ => ?_)
  unfold f_X5_daysUntilDone at hf
  refine r_iconst (v := 0) C0 dX5_daysUntilDone_0 (by decide) ?_
  refine r_istore_n (L' := [(2, .int (0 : Int32)), (0, .ref p0), (1, .int p1)]) C0 dX5_daysUntilDone_1 rfl (by decide) rfl ?_
  refine r_sub (L' := [(0, .ref p0), (1, .int p1), (2, .int (0 : Int32))]) [1, 2, 0] rfl ?_
  exact g_X5_daysUntilDone_2 C0 F p0 p1 hk_p0 F (0 : Int32) M _  hf
set_option maxHeartbeats 4000000 in
set_option maxRecDepth 100000 in
theorem c_X8_change {l : Launch} {E : zEn} {S : zSk} {X : zMl} {Z : Nat → Prop} (hl : l.stackTraces = false) (F : Nat) (p0 : Nat) (p1 : Int32) (p2 : Int32) (hk_p0 : K_X8 S p0) (M : zMi) (r : Int32 × zMi) (hf : f_X8_change F p0 p1 p2 M = some r) : zM l E yX8_change cX8_change 4 (Option.some Jvm.ClassFile.FieldType.int) { frames := 0, cells := 0, slots := 0, locals := 0 } 0 0 [.ref p0, .int p1, .int p2] S Z M X S Z (some (.int r.1)) r.2 X := by
  refine zM.intro (L0 := [(0, .ref p0), (1, .int p1), (2, .int p2)]) hl (by decide) (Nat.le_of_ble_eq_true rfl) rfl (fun Γ C0 _ => ?_)
  unfold f_X8_change at hf
  refine r_iload_n C0 dX8_change_0 rfl 1 rfl ?_
  refine r_if_lt C0 21 dX8_change_1 (by decide) hf (fun hf => ?_) (fun hf => ?_)
  · refine r_bipush (v := -9) C0 dX8_change_21 (by decide) ?_
    obtain rfl := Option.some.inj hf
    exact r_iret C0 dX8_change_23
  · refine r_iload_n C0 dX8_change_4 rfl 1 rfl ?_
    refine r_aload_n C0 dX8_change_5 rfl 0 rfl ?_
    refine r_getI C0 (C := RX8) (T := TX8) cl_X8 (K_X8_o hk_p0) (k := 0) (by decide) qw_16 rfl dX8_change_6 ?_
    refine r_icmp_ge C0 21 dX8_change_9 (by decide) hf (fun hf => ?_) (fun hf => ?_)
    · refine r_bipush (v := -9) C0 dX8_change_21 (by decide) ?_
      obtain rfl := Option.some.inj hf
      exact r_iret C0 dX8_change_23
    · refine r_iload_n C0 dX8_change_12 rfl 1 rfl ?_
      refine r_aload_n C0 dX8_change_13 rfl 0 rfl ?_
      refine r_getR C0 (C := RX8) (T := TX8) cl_X8 (K_X8_o hk_p0) (k := 1) (by decide) qw_15 rfl (K_X8_row_r hk_p0) dX8_change_14 ?_
      refine r_alen (v := 30) C0 (K_X8_row_k hk_p0) (by decide) rfl dX8_change_17 ?_
      refine r_icmp_lt C0 24 dX8_change_18 (by decide) hf (fun hf => ?_) (fun hf => ?_)
      · refine r_aload_n C0 dX8_change_24 rfl 0 rfl ?_
        refine r_getR C0 (C := RX8) (T := TX8) cl_X8 (K_X8_o hk_p0) (k := 1) (by decide) qw_15 rfl (K_X8_row_r hk_p0) dX8_change_25 ?_
        refine r_iload_n C0 dX8_change_28 rfl 1 rfl ?_
        refine r_iald C0 (K_X8_row_k hk_p0) hf dX8_change_29 (fun hf => ?_)
        refine r_nm hf (fun x1 hf => ?_)
        refine r_istore_n (L' := [(3, .int x1), (0, .ref p0), (1, .int p1), (2, .int p2)]) C0 dX8_change_30 rfl (by decide) rfl ?_
        refine r_aload_n C0 dX8_change_31 rfl 1 rfl ?_
        refine r_getR C0 (C := RX8) (T := TX8) cl_X8 (K_X8_o hk_p0) (k := 1) (by decide) qw_15 rfl (K_X8_row_r hk_p0) dX8_change_32 ?_
        refine r_iload_n C0 dX8_change_35 rfl 2 rfl ?_
        refine r_iload_n C0 dX8_change_36 rfl 3 rfl ?_
        refine r_iast C0 (K_X8_row_k hk_p0) hf dX8_change_37 (fun M2 hf => ?_)
        refine r_iload_n C0 dX8_change_38 rfl 0 rfl ?_
        obtain rfl := Option.some.inj hf
        exact r_iret C0 dX8_change_39
      · refine r_bipush (v := -9) C0 dX8_change_21 (by decide) ?_
        obtain rfl := Option.some.inj hf
        exact r_iret C0 dX8_change_23
set_option maxHeartbeats 4000000 in
set_option maxRecDepth 100000 in
theorem c_X5_playRound {l : Launch} {E : zEn} {S : zSk} {X : zMl} {Z : Nat → Prop} (hl : l.stackTraces = false) (F : Nat) (p0 : Nat) (p1 : Int32) (hk_p0 : K_X5 S p0) (M : zMi) (r : zMi) (hf : f_X5_playRound F p0 p1 M = some r) : zM l E yX5_playRound cX5_playRound 3 (Option.none : Option Jvm.ClassFile.FieldType) { frames := 5, cells := 0, slots := 0, locals := 114 } 0 0 [.ref p0, .int p1] S Z M X S Z none r X := by
  refine zM.intro (L0 := [(0, .ref p0), (1, .int p1)]) hl (by decide) (Nat.le_of_ble_eq_true rfl) rfl (fun Γ C0 _ => ?_)
  unfold f_X5_playRound at hf
  refine r_iload_n C0 dX5_playRound_0 rfl 1 rfl ?_
  refine r_if_lt C0 21 dX5_playRound_1 (by decide) hf (fun hf => ?_) (fun hf => ?_)
  · obtain rfl := Option.some.inj hf
    exact r_vret C0 dX5_playRound_21
  · refine r_aload_n C0 dX5_playRound_4 rfl 0 rfl ?_
    refine r_getI C0 (C := RX5) (T := TX5) cl_X5 (K_X5_o hk_p0) (k := 6) (by decide) qw_50 rfl dX5_playRound_5 ?_
    refine r_if_le C0 21 dX5_playRound_8 (by decide) hf (fun hf => ?_) (fun hf => ?_)
    · obtain rfl := Option.some.inj hf
      exact r_vret C0 dX5_playRound_21
    · refine r_aload_n C0 dX5_playRound_11 rfl 0 rfl ?_
      refine r_getR C0 (C := RX5) (T := TX5) cl_X5 (K_X5_o hk_p0) (k := 2) (by decide) qw_31 rfl (K_X5_weather_r hk_p0) dX5_playRound_12 ?_
      refine r_getI C0 (C := RX8) (T := TX8) cl_X8 (K_X8_o (K_X5_weather_k hk_p0)) (k := 0) (by decide) qw_255 rfl dX5_playRound_15 ?_
      refine r_if_gt C0 22 dX5_playRound_18 (by decide) hf (fun hf => ?_) (fun hf => ?_)
      · refine r_iload_n C0 dX5_playRound_22 rfl 1 rfl ?_
        refine r_bipush (v := 8) C0 dX5_playRound_23 (by decide) ?_
        refine r_irem' C0 dX5_playRound_25 (by decide) ?_
        refine r_nm hf (fun x1 hf => ?_)
        refine r_istore_n (L' := [(2, .int x1), (0, .ref p0), (1, .int p1)]) C0 dX5_playRound_26 rfl (by decide) rfl ?_
        refine r_iload_n C0 dX5_playRound_27 rfl 0 rfl ?_
        refine r_if_ne C0 62 dX5_playRound_28 (by decide) hf (fun hf => ?_) (fun hf => ?_)
        · refine r_iload_n C0 dX5_playRound_62 rfl 0 rfl ?_
          refine r_iconst (v := 2) C0 dX5_playRound_63 (by decide) ?_
          refine r_icmp_gt C0 81 dX5_playRound_64 (by decide) hf (fun hf => ?_) (fun hf => ?_)
          · refine r_aload_n C0 dX5_playRound_81 rfl 1 rfl ?_
            refine r_callVm C0 (st := []) [] p0 hf vs_35 (fun hl r2 hr2 => c_X5_passDay hl F p0 hk_p0 M r2 hr2) (K_X5_o hk_p0) rfl rfl rfl rfl (Nat.le_of_ble_eq_true rfl) dX5_playRound_82 (zrm_ok rfl) (fun r2 hr2 hf => ?_)
            obtain rfl := Option.some.inj hf
            exact r_vret C0 dX5_playRound_85
          · refine r_aload_n C0 dX5_playRound_67 rfl 1 rfl ?_
            refine r_iload_n C0 dX5_playRound_68 rfl 2 rfl ?_
            refine r_bipush (v := 8) C0 dX5_playRound_69 (by decide) ?_
            refine r_idiv' C0 dX5_playRound_71 (by decide) ?_
            refine r_aload_n C0 dX5_playRound_72 rfl 1 rfl ?_
            refine r_getI C0 (C := RX5) (T := TX5) cl_X5 (K_X5_o hk_p0) (k := 6) (by decide) qw_50 rfl dX5_playRound_73 ?_
            refine r_irem C0 dX5_playRound_76 hf (fun hf => ?_)
            refine r_callVim C0 (st := []) [.int ((p1 / (8 : Int32)) - (p1 / (8 : Int32)) / (M p0 6) * (M p0 6))] p0 hf vs_53 (fun hl r3 hr3 => c_X5_fillAndSend hl F p0 ((p1 / (8 : Int32)) - (p1 / (8 : Int32)) / (M p0 6) * (M p0 6)) hk_p0 M r3 hr3) (K_X5_o hk_p0) rfl rfl rfl rfl (Nat.le_of_ble_eq_true rfl) dX5_playRound_77 (zrm_ok rfl) (fun r3 hr3 hf => ?_)
            refine r_pop C0 dX5_playRound_80 rfl ?_
            refine r_aload_n C0 dX5_playRound_81 rfl 1 rfl ?_
            refine r_callVm C0 (st := []) [] p0 hf vs_35 (fun hl r4 hr4 => c_X5_passDay hl F p0 hk_p0 r3.2 r4 hr4) (K_X5_o hk_p0) rfl rfl rfl rfl (Nat.le_of_ble_eq_true rfl) dX5_playRound_82 (zrm_ok rfl) (fun r4 hr4 hf => ?_)
            obtain rfl := Option.some.inj hf
            exact r_vret C0 dX5_playRound_85
        · refine r_aload_n C0 dX5_playRound_31 rfl 1 rfl ?_
          refine r_getR C0 (C := RX5) (T := TX5) cl_X5 (K_X5_o hk_p0) (k := 2) (by decide) qw_31 rfl (K_X5_weather_r hk_p0) dX5_playRound_32 ?_
          refine r_iload_n C0 dX5_playRound_35 rfl 2 rfl ?_
          refine r_bipush (v := 64) C0 dX5_playRound_36 (by decide) ?_
          refine r_idiv' C0 dX5_playRound_38 (by decide) ?_
          refine r_aload_n C0 dX5_playRound_39 rfl 1 rfl ?_
          refine r_getR C0 (C := RX5) (T := TX5) cl_X5 (K_X5_o hk_p0) (k := 2) (by decide) qw_31 rfl (K_X5_weather_r hk_p0) dX5_playRound_40 ?_
          refine r_getI C0 (C := RX8) (T := TX8) cl_X8 (K_X8_o (K_X5_weather_k hk_p0)) (k := 0) (by decide) qw_255 rfl dX5_playRound_43 ?_
          refine r_irem C0 dX5_playRound_46 hf (fun hf => ?_)
          refine r_iload_n C0 dX5_playRound_47 rfl 2 rfl ?_
          refine r_sipush (v := 2048) C0 dX5_playRound_48 (by decide) ?_
          refine r_idiv' C0 dX5_playRound_51 (by decide) ?_
          refine r_bipush (v := 10) C0 dX5_playRound_52 (by decide) ?_
          refine r_irem' C0 dX5_playRound_54 (by decide) ?_
          refine r_callVim C0 (st := []) [.int ((p1 / (64 : Int32)) - (p1 / (64 : Int32)) / (M (p0 + 3) 0) * (M (p0 + 3) 0)), .int ((p1 / (2048 : Int32)) - (p1 / (2048 : Int32)) / (10 : Int32) * (10 : Int32))] (p0 + 3) hf vs_54 (fun hl r5 hr5 => c_X8_change hl F (p0 + 3) ((p1 / (64 : Int32)) - (p1 / (64 : Int32)) / (M (p0 + 3) 0) * (M (p0 + 3) 0)) ((p1 / (2048 : Int32)) - (p1 / (2048 : Int32)) / (10 : Int32) * (10 : Int32)) (K_X5_weather_k hk_p0) M r5 hr5) (K_X8_o (K_X5_weather_k hk_p0)) rfl rfl rfl rfl (Nat.le_of_ble_eq_true rfl) dX5_playRound_55 (zrm_ok rfl) (fun r5 hr5 hf => ?_)
          refine r_pop C0 dX5_playRound_58 rfl ?_
          refine r_goto C0 81 dX5_playRound_59 (by decide) ?_
          refine r_aload_n C0 dX5_playRound_81 rfl 1 rfl ?_
          refine r_callVm C0 (st := []) [] p0 hf vs_35 (fun hl r6 hr6 => c_X5_passDay hl F p0 hk_p0 r5.2 r6 hr6) (K_X5_o hk_p0) rfl rfl rfl rfl (Nat.le_of_ble_eq_true rfl) dX5_playRound_82 (zrm_ok rfl) (fun r6 hr6 hf => ?_)
          obtain rfl := Option.some.inj hf
          exact r_vret C0 dX5_playRound_85
      · obtain rfl := Option.some.inj hf
        exact r_vret C0 dX5_playRound_21
set_option maxHeartbeats 4000000 in
set_option maxRecDepth 100000 in
theorem c_X6_stageOfSplice {l : Launch} {E : zEn} {S : zSk} {X : zMl} {Z : Nat → Prop} (hl : l.stackTraces = false) (F : Nat) (p0 : Nat) (hk_p0 : K_X6 S p0) (M : zMi) (r : Int32) (hf : f_X6_stageOfSplice F p0 M = some r) : zM l E yX6_stageOfSplice cX6_stageOfSplice 1 (Option.some Jvm.ClassFile.FieldType.int) { frames := 1, cells := 0, slots := 0, locals := 20 } 0 0 [.ref p0] S Z M X S Z (some (.int r)) M X := by
  refine zM.intro (L0 := [(0, .ref p0)]) hl (by decide) (Nat.le_of_ble_eq_true rfl) rfl (fun Γ C0 _ => ?_)
  unfold f_X6_stageOfSplice at hf
  refine r_aload_n C0 dX6_stageOfSplice_0 rfl 0 rfl ?_
  refine r_getI C0 (C := RX6) (T := TX6) cl_X6 (K_X6_o hk_p0) (k := 3) (by decide) qw_17 rfl dX6_stageOfSplice_1 ?_
  refine r_if_eq C0 9 dX6_stageOfSplice_4 (by decide) hf (fun hf => ?_) (fun hf => ?_)
  · refine r_aload_n C0 dX6_stageOfSplice_9 rfl 0 rfl ?_
    refine r_callVi C0 (st := []) [] p0 hf vs_55 (fun hl r1 hr1 => c_X6_spliceGoesOn hl F p0 hk_p0 M r1 hr1) (K_X6_o hk_p0) rfl rfl rfl rfl (Nat.le_of_ble_eq_true rfl) dX6_stageOfSplice_10 (zrm_ok rfl) (fun r1 hr1 hf => ?_)
    refine r_if_eq C0 20 dX6_stageOfSplice_13 (by decide) hf (fun hf => ?_) (fun hf => ?_)
    · refine r_iconst (v := 0) C0 dX6_stageOfSplice_20 (by decide) ?_
      obtain rfl := Option.some.inj hf
      exact r_iret C0 dX6_stageOfSplice_21
    · refine r_iconst (v := 2) C0 dX6_stageOfSplice_16 (by decide) ?_
      refine r_goto C0 21 dX6_stageOfSplice_17 (by decide) ?_
      obtain rfl := Option.some.inj hf
      exact r_iret C0 dX6_stageOfSplice_21
  · refine r_iconst (v := 1) C0 dX6_stageOfSplice_7 (by decide) ?_
    obtain rfl := Option.some.inj hf
    exact r_iret C0 dX6_stageOfSplice_8
