set_option maxHeartbeats 4000000 in
set_option maxRecDepth 100000 in
theorem c_L_append {l : Launch} {E : zEn} {S : zSk} (hl : l.stackTraces = false) (F : Nat) (p0 : Nat) (p1 : Int32) (p2 : Nat) (hk_p0 : K_X10 S p0) (hk_p2 : S.1 p2 = some (.inr (3, 1))) (M : zMi) (X : zMl) (r : Int32 × zMi × zMl) (hf : f_L_append F p0 p1 p2 M X = some r) : zMW l E yL_append cL_append 4 (Option.some Jvm.ClassFile.FieldType.int) [(0, 9, 12, 13), (0, 9, 15, 15)] { frames := 8, cells := 2, slots := 12, locals := 133 } 2 12 [.ref p0, .int p1, .ref p2] S M X r.1 r.2.1 r.2.2 := by
  refine zMW.intro (L0 := [(0, .ref p0), (1, .int p1), (2, .ref p2)]) hl (by decide) (Nat.le_of_ble_eq_true rfl) rfl (fun Γ C0 => ?_)
  unfold f_L_append at hf
  refine r_aload_n C0 dL_append_0 rfl 2 rfl ?_
  refine r_iconst (v := 0) C0 dL_append_1 (by decide) ?_
  refine r_aload_n C0 dL_append_2 rfl 0 rfl ?_
  refine r_iload_n C0 dL_append_3 rfl 1 rfl ?_
  refine rX_callVw C0 (st := [.int (0 : Int32), .ref p2]) (fun v => some (Value.int v)) [.int p1] p0 hf vs_167 (fun hl r9 h9 => c_X10_append hl F p0 p1 hk_p0 M r9 h9) (K_X10_o hk_p0) rfl rfl rfl rfl (Nat.le_of_ble_eq_true rfl) dL_append_4 (zrm_ok rfl) (fun e M1 hf => ?_) (fun v M1 hf => ?_)
  · refine z_ite hf (fun he hf => ?_) (fun hn hf => ?_)
    · subst he
      refine rW_catch C0 [] (0, 9, 12, 13) [(0, 9, 15, 15)] rfl (fun _ h => nomatch h) rfl (by decide) qw_722 qw_723 (fun q => ?_)
      refine r_astore_n (L' := [(3, .ref q), (0, .ref p0), (1, .int p1), (2, .ref p2)]) C0 dL_append_12 rfl (by decide) rfl ?_
      refine r_iconst (v := 1) C0 dL_append_13 (by decide) ?_
      obtain rfl := Option.some.inj hf
      exact rW_iret C0 dL_append_14
    refine z_ite hf (fun he hf => ?_) (fun hn hf => ?_)
    · subst he
      refine rW_catch C0 [(0, 9, 12, 13)] (0, 9, 15, 15) [] rfl (List.forall_mem_cons.mpr ⟨⟨by decide, 1, qw_722, by decide +kernel⟩, (fun _ h => nomatch h)⟩) rfl (by decide) qw_724 qw_725 (fun q => ?_)
      refine r_astore_n (L' := [(3, .ref q), (0, .ref p0), (1, .int p1), (2, .ref p2)]) C0 dL_append_15 rfl (by decide) rfl ?_
      refine r_iconst (v := 2) C0 dL_append_16 (by decide) ?_
      obtain rfl := Option.some.inj hf
      exact rW_iret C0 dL_append_17
    cases hf
  refine r_eqst (st1 := [.int v, .int (0 : Int32), .ref p2]) rfl ?_
  refine r_i2l C0 dL_append_7 ?_
  refine r_last' (j := 0) C0 hk_p2 rfl rfl hf dL_append_8 (fun X1 hf => ?_)
  refine r_goto C0 18 dL_append_9 (by decide) ?_
  refine r_iconst (v := 0) C0 dL_append_18 (by decide) ?_
  obtain rfl := Option.some.inj hf
  exact rW_iret C0 dL_append_19
set_option maxHeartbeats 4000000 in
set_option maxRecDepth 100000 in
theorem c_L_load {l : Launch} {E : zEn} {S : zSk} (hl : l.stackTraces = false) (F : Nat) (p0 : Nat) (p1 : Nat) (hk_p0 : K_X10 S p0) (hk_p1 : S.1 p1 = some (.inr (3, 1))) (M : zMi) (X : zMl) (r : Int32 × zMi × zMl) (hf : f_L_load F p0 p1 M X = some r) : zMW l E yL_load cL_load 3 (Option.some Jvm.ClassFile.FieldType.int) [(0, 8, 11, 15)] { frames := 8, cells := 1, slots := 6, locals := 134 } 1 6 [.ref p0, .ref p1] S M X r.1 r.2.1 r.2.2 := by
  refine zMW.intro (L0 := [(0, .ref p0), (1, .ref p1)]) hl (by decide) (Nat.le_of_ble_eq_true rfl) rfl (fun Γ C0 => ?_)
  unfold f_L_load at hf
  refine r_aload_n C0 dL_load_0 rfl 1 rfl ?_
  refine r_iconst (v := 0) C0 dL_load_1 (by decide) ?_
  refine r_aload_n C0 dL_load_2 rfl 0 rfl ?_
  refine rX_callVw C0 (st := [.int (0 : Int32), .ref p1]) (fun v => some (Value.int v)) [] p0 hf vs_168 (fun hl r9 h9 => c_X10_load hl F p0 hk_p0 M r9 h9) (K_X10_o hk_p0) rfl rfl rfl rfl (Nat.le_of_ble_eq_true rfl) dL_load_3 (zrm_ok rfl) (fun e M1 hf => ?_) (fun v M1 hf => ?_)
  · refine z_ite hf (fun he hf => ?_) (fun hn hf => ?_)
    · subst he
      refine rW_catch C0 [] (0, 8, 11, 15) [] rfl (fun _ h => nomatch h) rfl (by decide) qw_724 qw_725 (fun q => ?_)
      refine r_astore_n (L' := [(2, .ref q), (0, .ref p0), (1, .ref p1)]) C0 dL_load_11 rfl (by decide) rfl ?_
      refine r_iconst (v := 1) C0 dL_load_12 (by decide) ?_
      obtain rfl := Option.some.inj hf
      exact rW_iret C0 dL_load_13
    cases hf
  refine r_eqst (st1 := [.int v, .int (0 : Int32), .ref p1]) rfl ?_
  refine r_i2l C0 dL_load_6 ?_
  refine r_last' (j := 0) C0 hk_p1 rfl rfl hf dL_load_7 (fun X1 hf => ?_)
  refine r_goto C0 14 dL_load_8 (by decide) ?_
  refine r_iconst (v := 0) C0 dL_load_14 (by decide) ?_
  obtain rfl := Option.some.inj hf
  exact rW_iret C0 dL_load_15
set_option maxHeartbeats 4000000 in
set_option maxRecDepth 100000 in
theorem c_L_about {l : Launch} {E : zEn} {S : zSk} (hl : l.stackTraces = false) (F : Nat) (p0 : Nat) (p1 : Int32) (p2 : Nat) (hk_p0 : K_X10 S p0) (hk_p2 : S.1 p2 = some (.inr (3, 1))) (M : zMi) (X : zMl) (r : Int32 × zMi × zMl) (hf : f_L_about F p0 p1 p2 M X = some r) : zMW l E yL_about cL_about 4 (Option.some Jvm.ClassFile.FieldType.int) [(0, 9, 12, 13)] { frames := 7, cells := 1, slots := 6, locals := 112 } 1 6 [.ref p0, .int p1, .ref p2] S M X r.1 r.2.1 r.2.2 := by
  refine zMW.intro (L0 := [(0, .ref p0), (1, .int p1), (2, .ref p2)]) hl (by decide) (Nat.le_of_ble_eq_true rfl) rfl (fun Γ C0 => ?_)
  unfold f_L_about at hf
  refine r_aload_n C0 dL_about_0 rfl 2 rfl ?_
  refine r_iconst (v := 0) C0 dL_about_1 (by decide) ?_
  refine r_aload_n C0 dL_about_2 rfl 0 rfl ?_
  refine r_iload_n C0 dL_about_3 rfl 1 rfl ?_
  refine rX_callVp C0 (st := [.int (0 : Int32), .ref p2]) (fun v => some (Value.int v)) [.int p1] p0 hf vs_169 (fun hl r9 h9 => c_X10_about hl F p0 p1 hk_p0 M r9 h9) (K_X10_o hk_p0) rfl rfl rfl rfl (Nat.le_of_ble_eq_true rfl) dL_about_4 (zrm_ok rfl) (fun e hf => ?_) (fun v h0 hf => ?_)
  · refine z_ite hf (fun he hf => ?_) (fun hn hf => ?_)
    · subst he
      refine rW_catch C0 [] (0, 9, 12, 13) [] rfl (fun _ h => nomatch h) rfl (by decide) qw_722 qw_723 (fun q => ?_)
      refine r_astore_n (L' := [(3, .ref q), (0, .ref p0), (1, .int p1), (2, .ref p2)]) C0 dL_about_12 rfl (by decide) rfl ?_
      refine r_iconst (v := 1) C0 dL_about_13 (by decide) ?_
      obtain rfl := Option.some.inj hf
      exact rW_iret C0 dL_about_14
    cases hf
  refine r_eqst (st1 := [.int v, .int (0 : Int32), .ref p2]) rfl ?_
  refine r_i2l C0 dL_about_7 ?_
  refine r_last' (j := 0) C0 hk_p2 rfl rfl hf dL_about_8 (fun X1 hf => ?_)
  refine r_goto C0 15 dL_about_9 (by decide) ?_
  refine r_iconst (v := 0) C0 dL_about_15 (by decide) ?_
  obtain rfl := Option.some.inj hf
  exact rW_iret C0 dL_about_16
set_option maxHeartbeats 4000000 in
set_option maxRecDepth 100000 in
theorem c_L_zone {l : Launch} {E : zEn} {S : zSk} (hl : l.stackTraces = false) (F : Nat) (p0 : Nat) (p1 : Int32) (p2 : Int32) (p3 : Nat) (hk_p0 : K_X10 S p0) (hk_p3 : S.1 p3 = some (.inr (3, 1))) (M : zMi) (X : zMl) (r : Int32 × zMi × zMl) (hf : f_L_zone F p0 p1 p2 p3 M X = some r) : zMW l E yL_zone cL_zone 5 (Option.some Jvm.ClassFile.FieldType.int) [(0, 10, 13, 28), (0, 10, 17, 13)] { frames := 8, cells := 2, slots := 12, locals := 135 } 2 12 [.ref p0, .int p1, .int p2, .ref p3] S M X r.1 r.2.1 r.2.2 := by
  refine zMW.intro (L0 := [(0, .ref p0), (1, .int p1), (2, .int p2), (3, .ref p3)]) hl (by decide) (Nat.le_of_ble_eq_true rfl) rfl (fun Γ C0 => ?_)
  unfold f_L_zone at hf
  refine r_aload_n C0 dL_zone_0 rfl 3 rfl ?_
  refine r_iconst (v := 0) C0 dL_zone_1 (by decide) ?_
  refine r_aload_n C0 dL_zone_2 rfl 0 rfl ?_
  refine r_iload_n C0 dL_zone_3 rfl 1 rfl ?_
  refine r_iload_n C0 dL_zone_4 rfl 2 rfl ?_
  refine rX_callVp C0 (st := [.int (0 : Int32), .ref p3]) (fun v => some (Value.int v)) [.int p1, .int p2] p0 hf vs_170 (fun hl r9 h9 => c_X10_zone hl F p0 p1 p2 hk_p0 M r9 h9) (K_X10_o hk_p0) rfl rfl rfl rfl (Nat.le_of_ble_eq_true rfl) dL_zone_5 (zrm_ok rfl) (fun e hf => ?_) (fun v h0 hf => ?_)
  · refine z_ite hf (fun he hf => ?_) (fun hn hf => ?_)
    · subst he
      refine rW_catch C0 [] (0, 10, 13, 28) [(0, 10, 17, 13)] rfl (fun _ h => nomatch h) rfl (by decide) qw_738 qw_739 (fun q => ?_)
      refine r_astore (L' := [(4, .ref q), (0, .ref p0), (1, .int p1), (2, .int p2), (3, .ref p3)]) C0 dL_zone_13 (by decide) rfl ?_
      refine r_iconst (v := 1) C0 dL_zone_15 (by decide) ?_
      obtain rfl := Option.some.inj hf
      exact rW_iret C0 dL_zone_16
    refine z_ite hf (fun he hf => ?_) (fun hn hf => ?_)
    · subst he
      refine rW_catch C0 [(0, 10, 13, 28)] (0, 10, 17, 13) [] rfl (List.forall_mem_cons.mpr ⟨⟨by decide, 3, qw_738, by decide +kernel⟩, (fun _ h => nomatch h)⟩) rfl (by decide) qw_722 qw_723 (fun q => ?_)
      refine r_astore (L' := [(4, .ref q), (0, .ref p0), (1, .int p1), (2, .int p2), (3, .ref p3)]) C0 dL_zone_17 (by decide) rfl ?_
      refine r_iconst (v := 2) C0 dL_zone_19 (by decide) ?_
      obtain rfl := Option.some.inj hf
      exact rW_iret C0 dL_zone_20
    cases hf
  refine r_eqst (st1 := [.int v, .int (0 : Int32), .ref p3]) rfl ?_
  refine r_i2l C0 dL_zone_8 ?_
  refine r_last' (j := 0) C0 hk_p3 rfl rfl hf dL_zone_9 (fun X1 hf => ?_)
  refine r_goto C0 21 dL_zone_10 (by decide) ?_
  refine r_iconst (v := 0) C0 dL_zone_21 (by decide) ?_
  obtain rfl := Option.some.inj hf
  exact rW_iret C0 dL_zone_22
set_option maxHeartbeats 4000000 in
set_option maxRecDepth 100000 in
theorem c_L_ship {l : Launch} {E : zEn} {S : zSk} (hl : l.stackTraces = false) (F : Nat) (p0 : Nat) (p1 : Int32) (p2 : Int32) (p3 : Nat) (hk_p0 : K_X10 S p0) (hk_p3 : S.1 p3 = some (.inr (3, 1))) (M : zMi) (X : zMl) (r : Int32 × zMi × zMl) (hf : f_L_ship F p0 p1 p2 p3 M X = some r) : zMW l E yL_ship cL_ship 5 (Option.some Jvm.ClassFile.FieldType.int) [(0, 10, 13, 28), (0, 10, 17, 13)] { frames := 8, cells := 2, slots := 12, locals := 135 } 2 12 [.ref p0, .int p1, .int p2, .ref p3] S M X r.1 r.2.1 r.2.2 := by
  refine zMW.intro (L0 := [(0, .ref p0), (1, .int p1), (2, .int p2), (3, .ref p3)]) hl (by decide) (Nat.le_of_ble_eq_true rfl) rfl (fun Γ C0 => ?_)
  unfold f_L_ship at hf
  refine r_aload_n C0 dL_ship_0 rfl 3 rfl ?_
  refine r_iconst (v := 0) C0 dL_ship_1 (by decide) ?_
  refine r_aload_n C0 dL_ship_2 rfl 0 rfl ?_
  refine r_iload_n C0 dL_ship_3 rfl 1 rfl ?_
  refine r_iload_n C0 dL_ship_4 rfl 2 rfl ?_
  refine rX_callVp C0 (st := [.int (0 : Int32), .ref p3]) (fun v => some (Value.int v)) [.int p1, .int p2] p0 hf vs_171 (fun hl r9 h9 => c_X10_ship hl F p0 p1 p2 hk_p0 M r9 h9) (K_X10_o hk_p0) rfl rfl rfl rfl (Nat.le_of_ble_eq_true rfl) dL_ship_5 (zrm_ok rfl) (fun e hf => ?_) (fun v h0 hf => ?_)
  · refine z_ite hf (fun he hf => ?_) (fun hn hf => ?_)
    · subst he
      refine rW_catch C0 [] (0, 10, 13, 28) [(0, 10, 17, 13)] rfl (fun _ h => nomatch h) rfl (by decide) qw_738 qw_739 (fun q => ?_)
      refine r_astore (L' := [(4, .ref q), (0, .ref p0), (1, .int p1), (2, .int p2), (3, .ref p3)]) C0 dL_ship_13 (by decide) rfl ?_
      refine r_iconst (v := 1) C0 dL_ship_15 (by decide) ?_
      obtain rfl := Option.some.inj hf
      exact rW_iret C0 dL_ship_16
    refine z_ite hf (fun he hf => ?_) (fun hn hf => ?_)
    · subst he
      refine rW_catch C0 [(0, 10, 13, 28)] (0, 10, 17, 13) [] rfl (List.forall_mem_cons.mpr ⟨⟨by decide, 3, qw_738, by decide +kernel⟩, (fun _ h => nomatch h)⟩) rfl (by decide) qw_722 qw_723 (fun q => ?_)
      refine r_astore (L' := [(4, .ref q), (0, .ref p0), (1, .int p1), (2, .int p2), (3, .ref p3)]) C0 dL_ship_17 (by decide) rfl ?_
      refine r_iconst (v := 2) C0 dL_ship_19 (by decide) ?_
      obtain rfl := Option.some.inj hf
      exact rW_iret C0 dL_ship_20
    cases hf
  refine r_eqst (st1 := [.int v, .int (0 : Int32), .ref p3]) rfl ?_
  refine r_i2l C0 dL_ship_8 ?_
  refine r_last' (j := 0) C0 hk_p3 rfl rfl hf dL_ship_9 (fun X1 hf => ?_)
  refine r_goto C0 21 dL_ship_10 (by decide) ?_
  refine r_iconst (v := 0) C0 dL_ship_21 (by decide) ?_
  obtain rfl := Option.some.inj hf
  exact rW_iret C0 dL_ship_22
set_option maxHeartbeats 4000000 in
set_option maxRecDepth 100000 in
theorem c_L_waves {l : Launch} {E : zEn} {S : zSk} (hl : l.stackTraces = false) (F : Nat) (p0 : Nat) (p1 : Int32) (p2 : Nat) (hk_p0 : K_X10 S p0) (hk_p2 : S.1 p2 = some (.inr (3, 1))) (M : zMi) (X : zMl) (r : Int32 × zMi × zMl) (hf : f_L_waves F p0 p1 p2 M X = some r) : zMW l E yL_waves cL_waves 4 (Option.some Jvm.ClassFile.FieldType.int) [(0, 9, 12, 13)] { frames := 8, cells := 1, slots := 6, locals := 133 } 1 6 [.ref p0, .int p1, .ref p2] S M X r.1 r.2.1 r.2.2 := by
  refine zMW.intro (L0 := [(0, .ref p0), (1, .int p1), (2, .ref p2)]) hl (by decide) (Nat.le_of_ble_eq_true rfl) rfl (fun Γ C0 => ?_)
  unfold f_L_waves at hf
  refine r_aload_n C0 dL_waves_0 rfl 2 rfl ?_
  refine r_iconst (v := 0) C0 dL_waves_1 (by decide) ?_
  refine r_aload_n C0 dL_waves_2 rfl 0 rfl ?_
  refine r_iload_n C0 dL_waves_3 rfl 1 rfl ?_
  refine rX_callVp C0 (st := [.int (0 : Int32), .ref p2]) (fun v => some (Value.int v)) [.int p1] p0 hf vs_172 (fun hl r9 h9 => c_X10_waves hl F p0 p1 hk_p0 M r9 h9) (K_X10_o hk_p0) rfl rfl rfl rfl (Nat.le_of_ble_eq_true rfl) dL_waves_4 (zrm_ok rfl) (fun e hf => ?_) (fun v h0 hf => ?_)
  · refine z_ite hf (fun he hf => ?_) (fun hn hf => ?_)
    · subst he
      refine rW_catch C0 [] (0, 9, 12, 13) [] rfl (fun _ h => nomatch h) rfl (by decide) qw_722 qw_723 (fun q => ?_)
      refine r_astore_n (L' := [(3, .ref q), (0, .ref p0), (1, .int p1), (2, .ref p2)]) C0 dL_waves_12 rfl (by decide) rfl ?_
      refine r_iconst (v := 1) C0 dL_waves_13 (by decide) ?_
      obtain rfl := Option.some.inj hf
      exact rW_iret C0 dL_waves_14
    cases hf
  refine r_eqst (st1 := [.int v, .int (0 : Int32), .ref p2]) rfl ?_
  refine r_i2l C0 dL_waves_7 ?_
  refine r_last' (j := 0) C0 hk_p2 rfl rfl hf dL_waves_8 (fun X1 hf => ?_)
  refine r_goto C0 15 dL_waves_9 (by decide) ?_
  refine r_iconst (v := 0) C0 dL_waves_15 (by decide) ?_
  obtain rfl := Option.some.inj hf
  exact rW_iret C0 dL_waves_16
set_option maxHeartbeats 4000000 in
set_option maxRecDepth 100000 in
theorem c_L_account {l : Launch} {E : zEn} {S : zSk} (hl : l.stackTraces = false) (F : Nat) (p0 : Nat) (p1 : Int32) (p2 : Nat) (hk_p0 : K_X10 S p0) (hk_p2 : S.1 p2 = some (.inr (3, 1))) (M : zMi) (X : zMl) (r : Int32 × zMi × zMl) (hf : f_L_account F p0 p1 p2 M X = some r) : zMW l E yL_account cL_account 4 (Option.some Jvm.ClassFile.FieldType.int) [(0, 9, 12, 13)] { frames := 7, cells := 1, slots := 6, locals := 112 } 1 6 [.ref p0, .int p1, .ref p2] S M X r.1 r.2.1 r.2.2 := by
  refine zMW.intro (L0 := [(0, .ref p0), (1, .int p1), (2, .ref p2)]) hl (by decide) (Nat.le_of_ble_eq_true rfl) rfl (fun Γ C0 => ?_)
  unfold f_L_account at hf
  refine r_aload_n C0 dL_account_0 rfl 2 rfl ?_
  refine r_iconst (v := 0) C0 dL_account_1 (by decide) ?_
  refine r_aload_n C0 dL_account_2 rfl 0 rfl ?_
  refine r_iload_n C0 dL_account_3 rfl 1 rfl ?_
  refine rX_callVp C0 (st := [.int (0 : Int32), .ref p2]) (fun v => some (Value.int v)) [.int p1] p0 hf vs_173 (fun hl r9 h9 => c_X10_account hl F p0 p1 hk_p0 M r9 h9) (K_X10_o hk_p0) rfl rfl rfl rfl (Nat.le_of_ble_eq_true rfl) dL_account_4 (zrm_ok rfl) (fun e hf => ?_) (fun v h0 hf => ?_)
  · refine z_ite hf (fun he hf => ?_) (fun hn hf => ?_)
    · subst he
      refine rW_catch C0 [] (0, 9, 12, 13) [] rfl (fun _ h => nomatch h) rfl (by decide) qw_722 qw_723 (fun q => ?_)
      refine r_astore_n (L' := [(3, .ref q), (0, .ref p0), (1, .int p1), (2, .ref p2)]) C0 dL_account_12 rfl (by decide) rfl ?_
      refine r_iconst (v := 1) C0 dL_account_13 (by decide) ?_
      obtain rfl := Option.some.inj hf
      exact rW_iret C0 dL_account_14
    cases hf
  refine r_eqst (st1 := [.int v, .int (0 : Int32), .ref p2]) rfl ?_
  refine r_i2l C0 dL_account_7 ?_
  refine r_last' (j := 0) C0 hk_p2 rfl rfl hf dL_account_8 (fun X1 hf => ?_)
  refine r_goto C0 15 dL_account_9 (by decide) ?_
  refine r_iconst (v := 0) C0 dL_account_15 (by decide) ?_
  obtain rfl := Option.some.inj hf
  exact rW_iret C0 dL_account_16
set_option maxHeartbeats 4000000 in
set_option maxRecDepth 100000 in
theorem c_L_take {l : Launch} {E : zEn} {S : zSk} (hl : l.stackTraces = false) (F : Nat) (p0 : Nat) (p1 : Int32) (p2 : Int32) (p3 : Nat) (hk_p0 : K_X10 S p0) (hk_p3 : S.1 p3 = some (.inr (3, 1))) (M : zMi) (X : zMl) (r : Int32 × zMi × zMl) (hf : f_L_take F p0 p1 p2 p3 M X = some r) : zMW l E yL_take cL_take 5 (Option.some Jvm.ClassFile.FieldType.int) [(0, 10, 13, 28), (0, 10, 17, 13), (0, 10, 21, 15)] { frames := 8, cells := 3, slots := 18, locals := 135 } 3 18 [.ref p0, .int p1, .int p2, .ref p3] S M X r.1 r.2.1 r.2.2 := by
  refine zMW.intro (L0 := [(0, .ref p0), (1, .int p1), (2, .int p2), (3, .ref p3)]) hl (by decide) (Nat.le_of_ble_eq_true rfl) rfl (fun Γ C0 => ?_)
  unfold f_L_take at hf
  refine r_aload_n C0 dL_take_0 rfl 3 rfl ?_
  refine r_iconst (v := 0) C0 dL_take_1 (by decide) ?_
  refine r_aload_n C0 dL_take_2 rfl 0 rfl ?_
  refine r_iload_n C0 dL_take_3 rfl 1 rfl ?_
  refine r_iload_n C0 dL_take_4 rfl 2 rfl ?_
  refine rX_callVw C0 (st := [.int (0 : Int32), .ref p3]) (fun v => some (Value.int v)) [.int p1, .int p2] p0 hf vs_174 (fun hl r9 h9 => c_X10_take hl F p0 p1 p2 hk_p0 M r9 h9) (K_X10_o hk_p0) rfl rfl rfl rfl (Nat.le_of_ble_eq_true rfl) dL_take_5 (zrm_ok rfl) (fun e M1 hf => ?_) (fun v M1 hf => ?_)
  · refine z_ite hf (fun he hf => ?_) (fun hn hf => ?_)
    · subst he
      refine rW_catch C0 [] (0, 10, 13, 28) [(0, 10, 17, 13), (0, 10, 21, 15)] rfl (fun _ h => nomatch h) rfl (by decide) qw_738 qw_739 (fun q => ?_)
      refine r_astore (L' := [(4, .ref q), (0, .ref p0), (1, .int p1), (2, .int p2), (3, .ref p3)]) C0 dL_take_13 (by decide) rfl ?_
      refine r_iconst (v := 1) C0 dL_take_15 (by decide) ?_
      obtain rfl := Option.some.inj hf
      exact rW_iret C0 dL_take_16
    refine z_ite hf (fun he hf => ?_) (fun hn hf => ?_)
    · subst he
      refine rW_catch C0 [(0, 10, 13, 28)] (0, 10, 17, 13) [(0, 10, 21, 15)] rfl (List.forall_mem_cons.mpr ⟨⟨by decide, 3, qw_738, by decide +kernel⟩, (fun _ h => nomatch h)⟩) rfl (by decide) qw_722 qw_723 (fun q => ?_)
      refine r_astore (L' := [(4, .ref q), (0, .ref p0), (1, .int p1), (2, .int p2), (3, .ref p3)]) C0 dL_take_17 (by decide) rfl ?_
      refine r_iconst (v := 2) C0 dL_take_19 (by decide) ?_
      obtain rfl := Option.some.inj hf
      exact rW_iret C0 dL_take_20
    refine z_ite hf (fun he hf => ?_) (fun hn hf => ?_)
    · subst he
      refine rW_catch C0 [(0, 10, 13, 28), (0, 10, 17, 13)] (0, 10, 21, 15) [] rfl (List.forall_mem_cons.mpr ⟨⟨by decide, 3, qw_738, by decide +kernel⟩, (List.forall_mem_cons.mpr ⟨⟨by decide, 1, qw_722, by decide +kernel⟩, (fun _ h => nomatch h)⟩)⟩) rfl (by decide) qw_724 qw_725 (fun q => ?_)
      refine r_astore (L' := [(4, .ref q), (0, .ref p0), (1, .int p1), (2, .int p2), (3, .ref p3)]) C0 dL_take_21 (by decide) rfl ?_
      refine r_iconst (v := 3) C0 dL_take_23 (by decide) ?_
      obtain rfl := Option.some.inj hf
      exact rW_iret C0 dL_take_24
    cases hf
  refine r_eqst (st1 := [.int v, .int (0 : Int32), .ref p3]) rfl ?_
  refine r_i2l C0 dL_take_8 ?_
  refine r_last' (j := 0) C0 hk_p3 rfl rfl hf dL_take_9 (fun X1 hf => ?_)
  refine r_goto C0 25 dL_take_10 (by decide) ?_
  refine r_iconst (v := 0) C0 dL_take_25 (by decide) ?_
  obtain rfl := Option.some.inj hf
  exact rW_iret C0 dL_take_26
set_option maxHeartbeats 4000000 in
set_option maxRecDepth 100000 in
theorem c_L_send {l : Launch} {E : zEn} {S : zSk} (hl : l.stackTraces = false) (F : Nat) (p0 : Nat) (p1 : Int32) (p2 : Nat) (hk_p0 : K_X10 S p0) (hk_p2 : S.1 p2 = some (.inr (3, 1))) (M : zMi) (X : zMl) (r : Int32 × zMi × zMl) (hf : f_L_send F p0 p1 p2 M X = some r) : zMW l E yL_send cL_send 4 (Option.some Jvm.ClassFile.FieldType.int) [(0, 9, 12, 28), (0, 9, 15, 15)] { frames := 8, cells := 2, slots := 12, locals := 134 } 2 12 [.ref p0, .int p1, .ref p2] S M X r.1 r.2.1 r.2.2 := by
  refine zMW.intro (L0 := [(0, .ref p0), (1, .int p1), (2, .ref p2)]) hl (by decide) (Nat.le_of_ble_eq_true rfl) rfl (fun Γ C0 => ?_)
  unfold f_L_send at hf
  refine r_aload_n C0 dL_send_0 rfl 2 rfl ?_
  refine r_iconst (v := 0) C0 dL_send_1 (by decide) ?_
  refine r_aload_n C0 dL_send_2 rfl 0 rfl ?_
  refine r_iload_n C0 dL_send_3 rfl 1 rfl ?_
  refine rX_callVw C0 (st := [.int (0 : Int32), .ref p2]) (fun v => some (Value.int v)) [.int p1] p0 hf vs_175 (fun hl r9 h9 => c_X10_send hl F p0 p1 hk_p0 M r9 h9) (K_X10_o hk_p0) rfl rfl rfl rfl (Nat.le_of_ble_eq_true rfl) dL_send_4 (zrm_ok rfl) (fun e M1 hf => ?_) (fun v M1 hf => ?_)
  · refine z_ite hf (fun he hf => ?_) (fun hn hf => ?_)
    · subst he
      refine rW_catch C0 [] (0, 9, 12, 28) [(0, 9, 15, 15)] rfl (fun _ h => nomatch h) rfl (by decide) qw_738 qw_739 (fun q => ?_)
      refine r_astore_n (L' := [(3, .ref q), (0, .ref p0), (1, .int p1), (2, .ref p2)]) C0 dL_send_12 rfl (by decide) rfl ?_
      refine r_iconst (v := 1) C0 dL_send_13 (by decide) ?_
      obtain rfl := Option.some.inj hf
      exact rW_iret C0 dL_send_14
    refine z_ite hf (fun he hf => ?_) (fun hn hf => ?_)
    · subst he
      refine rW_catch C0 [(0, 9, 12, 28)] (0, 9, 15, 15) [] rfl (List.forall_mem_cons.mpr ⟨⟨by decide, 3, qw_738, by decide +kernel⟩, (fun _ h => nomatch h)⟩) rfl (by decide) qw_724 qw_725 (fun q => ?_)
      refine r_astore_n (L' := [(3, .ref q), (0, .ref p0), (1, .int p1), (2, .ref p2)]) C0 dL_send_15 rfl (by decide) rfl ?_
      refine r_iconst (v := 2) C0 dL_send_16 (by decide) ?_
      obtain rfl := Option.some.inj hf
      exact rW_iret C0 dL_send_17
    cases hf
  refine r_eqst (st1 := [.int v, .int (0 : Int32), .ref p2]) rfl ?_
  refine r_i2l C0 dL_send_7 ?_
  refine r_last' (j := 0) C0 hk_p2 rfl rfl hf dL_send_8 (fun X1 hf => ?_)
  refine r_goto C0 18 dL_send_9 (by decide) ?_
  refine r_iconst (v := 0) C0 dL_send_18 (by decide) ?_
  obtain rfl := Option.some.inj hf
  exact rW_iret C0 dL_send_19
set_option maxHeartbeats 4000000 in
set_option maxRecDepth 100000 in
theorem c_L_recall {l : Launch} {E : zEn} {S : zSk} (hl : l.stackTraces = false) (F : Nat) (p0 : Nat) (p1 : Int32) (p2 : Nat) (hk_p0 : K_X10 S p0) (hk_p2 : S.1 p2 = some (.inr (3, 1))) (M : zMi) (X : zMl) (r : Int32 × zMi × zMl) (hf : f_L_recall F p0 p1 p2 M X = some r) : zMW l E yL_recall cL_recall 4 (Option.some Jvm.ClassFile.FieldType.int) [(0, 9, 12, 28), (0, 9, 15, 15)] { frames := 8, cells := 2, slots := 12, locals := 134 } 2 12 [.ref p0, .int p1, .ref p2] S M X r.1 r.2.1 r.2.2 := by
  refine zMW.intro (L0 := [(0, .ref p0), (1, .int p1), (2, .ref p2)]) hl (by decide) (Nat.le_of_ble_eq_true rfl) rfl (fun Γ C0 => ?_)
  unfold f_L_recall at hf
  refine r_aload_n C0 dL_recall_0 rfl 2 rfl ?_
  refine r_iconst (v := 0) C0 dL_recall_1 (by decide) ?_
  refine r_aload_n C0 dL_recall_2 rfl 0 rfl ?_
  refine r_iload_n C0 dL_recall_3 rfl 1 rfl ?_
  refine rX_callVw C0 (st := [.int (0 : Int32), .ref p2]) (fun v => some (Value.int v)) [.int p1] p0 hf vs_176 (fun hl r9 h9 => c_X10_recall hl F p0 p1 hk_p0 M r9 h9) (K_X10_o hk_p0) rfl rfl rfl rfl (Nat.le_of_ble_eq_true rfl) dL_recall_4 (zrm_ok rfl) (fun e M1 hf => ?_) (fun v M1 hf => ?_)
  · refine z_ite hf (fun he hf => ?_) (fun hn hf => ?_)
    · subst he
      refine rW_catch C0 [] (0, 9, 12, 28) [(0, 9, 15, 15)] rfl (fun _ h => nomatch h) rfl (by decide) qw_738 qw_739 (fun q => ?_)
      refine r_astore_n (L' := [(3, .ref q), (0, .ref p0), (1, .int p1), (2, .ref p2)]) C0 dL_recall_12 rfl (by decide) rfl ?_
      refine r_iconst (v := 1) C0 dL_recall_13 (by decide) ?_
      obtain rfl := Option.some.inj hf
      exact rW_iret C0 dL_recall_14
    refine z_ite hf (fun he hf => ?_) (fun hn hf => ?_)
    · subst he
      refine rW_catch C0 [(0, 9, 12, 28)] (0, 9, 15, 15) [] rfl (List.forall_mem_cons.mpr ⟨⟨by decide, 3, qw_738, by decide +kernel⟩, (fun _ h => nomatch h)⟩) rfl (by decide) qw_724 qw_725 (fun q => ?_)
      refine r_astore_n (L' := [(3, .ref q), (0, .ref p0), (1, .int p1), (2, .ref p2)]) C0 dL_recall_15 rfl (by decide) rfl ?_
      refine r_iconst (v := 2) C0 dL_recall_16 (by decide) ?_
      obtain rfl := Option.some.inj hf
      exact rW_iret C0 dL_recall_17
    cases hf
  refine r_eqst (st1 := [.int v, .int (0 : Int32), .ref p2]) rfl ?_
  refine r_i2l C0 dL_recall_7 ?_
  refine r_last' (j := 0) C0 hk_p2 rfl rfl hf dL_recall_8 (fun X1 hf => ?_)
  refine r_goto C0 18 dL_recall_9 (by decide) ?_
  refine r_iconst (v := 0) C0 dL_recall_18 (by decide) ?_
  obtain rfl := Option.some.inj hf
  exact rW_iret C0 dL_recall_19
set_option maxHeartbeats 4000000 in
set_option maxRecDepth 100000 in
theorem c_L_extend {l : Launch} {E : zEn} {S : zSk} (hl : l.stackTraces = false) (F : Nat) (p0 : Nat) (p1 : Int32) (p2 : Int32) (p3 : Nat) (hk_p0 : K_X10 S p0) (hk_p3 : S.1 p3 = some (.inr (3, 1))) (M : zMi) (X : zMl) (r : Int32 × zMi × zMl) (hf : f_L_extend F p0 p1 p2 p3 M X = some r) : zMW l E yL_extend cL_extend 5 (Option.some Jvm.ClassFile.FieldType.int) [(0, 10, 13, 28), (0, 10, 17, 13), (0, 10, 21, 15)] { frames := 8, cells := 3, slots := 18, locals := 135 } 3 18 [.ref p0, .int p1, .int p2, .ref p3] S M X r.1 r.2.1 r.2.2 := by
  refine zMW.intro (L0 := [(0, .ref p0), (1, .int p1), (2, .int p2), (3, .ref p3)]) hl (by decide) (Nat.le_of_ble_eq_true rfl) rfl (fun Γ C0 => ?_)
  unfold f_L_extend at hf
  refine r_aload_n C0 dL_extend_0 rfl 3 rfl ?_
  refine r_iconst (v := 0) C0 dL_extend_1 (by decide) ?_
  refine r_aload_n C0 dL_extend_2 rfl 0 rfl ?_
  refine r_iload_n C0 dL_extend_3 rfl 1 rfl ?_
  refine r_iload_n C0 dL_extend_4 rfl 2 rfl ?_
  refine rX_callVw C0 (st := [.int (0 : Int32), .ref p3]) (fun v => some (Value.int v)) [.int p1, .int p2] p0 hf vs_177 (fun hl r9 h9 => c_X10_extend hl F p0 p1 p2 hk_p0 M r9 h9) (K_X10_o hk_p0) rfl rfl rfl rfl (Nat.le_of_ble_eq_true rfl) dL_extend_5 (zrm_ok rfl) (fun e M1 hf => ?_) (fun v M1 hf => ?_)
  · refine z_ite hf (fun he hf => ?_) (fun hn hf => ?_)
    · subst he
      refine rW_catch C0 [] (0, 10, 13, 28) [(0, 10, 17, 13), (0, 10, 21, 15)] rfl (fun _ h => nomatch h) rfl (by decide) qw_738 qw_739 (fun q => ?_)
      refine r_astore (L' := [(4, .ref q), (0, .ref p0), (1, .int p1), (2, .int p2), (3, .ref p3)]) C0 dL_extend_13 (by decide) rfl ?_
      refine r_iconst (v := 1) C0 dL_extend_15 (by decide) ?_
      obtain rfl := Option.some.inj hf
      exact rW_iret C0 dL_extend_16
    refine z_ite hf (fun he hf => ?_) (fun hn hf => ?_)
    · subst he
      refine rW_catch C0 [(0, 10, 13, 28)] (0, 10, 17, 13) [(0, 10, 21, 15)] rfl (List.forall_mem_cons.mpr ⟨⟨by decide, 3, qw_738, by decide +kernel⟩, (fun _ h => nomatch h)⟩) rfl (by decide) qw_722 qw_723 (fun q => ?_)
      refine r_astore (L' := [(4, .ref q), (0, .ref p0), (1, .int p1), (2, .int p2), (3, .ref p3)]) C0 dL_extend_17 (by decide) rfl ?_
      refine r_iconst (v := 2) C0 dL_extend_19 (by decide) ?_
      obtain rfl := Option.some.inj hf
      exact rW_iret C0 dL_extend_20
    refine z_ite hf (fun he hf => ?_) (fun hn hf => ?_)
    · subst he
      refine rW_catch C0 [(0, 10, 13, 28), (0, 10, 17, 13)] (0, 10, 21, 15) [] rfl (List.forall_mem_cons.mpr ⟨⟨by decide, 3, qw_738, by decide +kernel⟩, (List.forall_mem_cons.mpr ⟨⟨by decide, 1, qw_722, by decide +kernel⟩, (fun _ h => nomatch h)⟩)⟩) rfl (by decide) qw_724 qw_725 (fun q => ?_)
      refine r_astore (L' := [(4, .ref q), (0, .ref p0), (1, .int p1), (2, .int p2), (3, .ref p3)]) C0 dL_extend_21 (by decide) rfl ?_
      refine r_iconst (v := 3) C0 dL_extend_23 (by decide) ?_
      obtain rfl := Option.some.inj hf
      exact rW_iret C0 dL_extend_24
    cases hf
  refine r_eqst (st1 := [.int v, .int (0 : Int32), .ref p3]) rfl ?_
  refine r_i2l C0 dL_extend_8 ?_
  refine r_last' (j := 0) C0 hk_p3 rfl rfl hf dL_extend_9 (fun X1 hf => ?_)
  refine r_goto C0 25 dL_extend_10 (by decide) ?_
  refine r_iconst (v := 0) C0 dL_extend_25 (by decide) ?_
  obtain rfl := Option.some.inj hf
  exact rW_iret C0 dL_extend_26
set_option maxHeartbeats 4000000 in
set_option maxRecDepth 100000 in
theorem c_L_buy {l : Launch} {E : zEn} {S : zSk} (hl : l.stackTraces = false) (F : Nat) (p0 : Nat) (p1 : Int32) (p2 : Nat) (hk_p0 : K_X10 S p0) (hk_p2 : S.1 p2 = some (.inr (3, 1))) (M : zMi) (X : zMl) (r : Int32 × zMi × zMl) (hf : f_L_buy F p0 p1 p2 M X = some r) : zMW l E yL_buy cL_buy 4 (Option.some Jvm.ClassFile.FieldType.int) [(0, 9, 12, 13), (0, 9, 15, 15)] { frames := 8, cells := 2, slots := 12, locals := 133 } 2 12 [.ref p0, .int p1, .ref p2] S M X r.1 r.2.1 r.2.2 := by
  refine zMW.intro (L0 := [(0, .ref p0), (1, .int p1), (2, .ref p2)]) hl (by decide) (Nat.le_of_ble_eq_true rfl) rfl (fun Γ C0 => ?_)
  unfold f_L_buy at hf
  refine r_aload_n C0 dL_buy_0 rfl 2 rfl ?_
  refine r_iconst (v := 0) C0 dL_buy_1 (by decide) ?_
  refine r_aload_n C0 dL_buy_2 rfl 0 rfl ?_
  refine r_iload_n C0 dL_buy_3 rfl 1 rfl ?_
  refine rX_callVw C0 (st := [.int (0 : Int32), .ref p2]) (fun v => some (Value.int v)) [.int p1] p0 hf vs_178 (fun hl r9 h9 => c_X10_buy hl F p0 p1 hk_p0 M r9 h9) (K_X10_o hk_p0) rfl rfl rfl rfl (Nat.le_of_ble_eq_true rfl) dL_buy_4 (zrm_ok rfl) (fun e M1 hf => ?_) (fun v M1 hf => ?_)
  · refine z_ite hf (fun he hf => ?_) (fun hn hf => ?_)
    · subst he
      refine rW_catch C0 [] (0, 9, 12, 13) [(0, 9, 15, 15)] rfl (fun _ h => nomatch h) rfl (by decide) qw_722 qw_723 (fun q => ?_)
      refine r_astore_n (L' := [(3, .ref q), (0, .ref p0), (1, .int p1), (2, .ref p2)]) C0 dL_buy_12 rfl (by decide) rfl ?_
      refine r_iconst (v := 1) C0 dL_buy_13 (by decide) ?_
      obtain rfl := Option.some.inj hf
      exact rW_iret C0 dL_buy_14
    refine z_ite hf (fun he hf => ?_) (fun hn hf => ?_)
    · subst he
      refine rW_catch C0 [(0, 9, 12, 13)] (0, 9, 15, 15) [] rfl (List.forall_mem_cons.mpr ⟨⟨by decide, 1, qw_722, by decide +kernel⟩, (fun _ h => nomatch h)⟩) rfl (by decide) qw_724 qw_725 (fun q => ?_)
      refine r_astore_n (L' := [(3, .ref q), (0, .ref p0), (1, .int p1), (2, .ref p2)]) C0 dL_buy_15 rfl (by decide) rfl ?_
      refine r_iconst (v := 2) C0 dL_buy_16 (by decide) ?_
      obtain rfl := Option.some.inj hf
      exact rW_iret C0 dL_buy_17
    cases hf
  refine r_eqst (st1 := [.int v, .int (0 : Int32), .ref p2]) rfl ?_
  refine r_i2l C0 dL_buy_7 ?_
  refine r_last' (j := 0) C0 hk_p2 rfl rfl hf dL_buy_8 (fun X1 hf => ?_)
  refine r_goto C0 18 dL_buy_9 (by decide) ?_
  refine r_iconst (v := 0) C0 dL_buy_18 (by decide) ?_
  obtain rfl := Option.some.inj hf
  exact rW_iret C0 dL_buy_19
set_option maxHeartbeats 4000000 in
set_option maxRecDepth 100000 in
theorem c_L_setWaves {l : Launch} {E : zEn} {S : zSk} (hl : l.stackTraces = false) (F : Nat) (p0 : Nat) (p1 : Int32) (p2 : Int32) (p3 : Nat) (hk_p0 : K_X10 S p0) (hk_p3 : S.1 p3 = some (.inr (3, 1))) (M : zMi) (X : zMl) (r : Int32 × zMi × zMl) (hf : f_L_setWaves F p0 p1 p2 p3 M X = some r) : zMW l E yL_setWaves cL_setWaves 5 (Option.some Jvm.ClassFile.FieldType.int) [(0, 10, 13, 13)] { frames := 8, cells := 2, slots := 12, locals := 134 } 2 12 [.ref p0, .int p1, .int p2, .ref p3] S M X r.1 r.2.1 r.2.2 := by
  refine zMW.intro (L0 := [(0, .ref p0), (1, .int p1), (2, .int p2), (3, .ref p3)]) hl (by decide) (Nat.le_of_ble_eq_true rfl) rfl (fun Γ C0 => ?_)
  unfold f_L_setWaves at hf
  refine r_aload_n C0 dL_setWaves_0 rfl 3 rfl ?_
  refine r_iconst (v := 0) C0 dL_setWaves_1 (by decide) ?_
  refine r_aload_n C0 dL_setWaves_2 rfl 0 rfl ?_
  refine r_iload_n C0 dL_setWaves_3 rfl 1 rfl ?_
  refine r_iload_n C0 dL_setWaves_4 rfl 2 rfl ?_
  refine rX_callVw C0 (st := [.int (0 : Int32), .ref p3]) (fun v => some (Value.int v)) [.int p1, .int p2] p0 hf vs_179 (fun hl r9 h9 => c_X10_setWaves hl F p0 p1 p2 hk_p0 M r9 h9) (K_X10_o hk_p0) rfl rfl rfl rfl (Nat.le_of_ble_eq_true rfl) dL_setWaves_5 (zrm_ok rfl) (fun e M1 hf => ?_) (fun v M1 hf => ?_)
  · refine z_ite hf (fun he hf => ?_) (fun hn hf => ?_)
    · subst he
      refine rW_catch C0 [] (0, 10, 13, 13) [] rfl (fun _ h => nomatch h) rfl (by decide) qw_722 qw_723 (fun q => ?_)
      refine r_astore (L' := [(4, .ref q), (0, .ref p0), (1, .int p1), (2, .int p2), (3, .ref p3)]) C0 dL_setWaves_13 (by decide) rfl ?_
      refine r_iconst (v := 1) C0 dL_setWaves_15 (by decide) ?_
      obtain rfl := Option.some.inj hf
      exact rW_iret C0 dL_setWaves_16
    cases hf
  refine r_eqst (st1 := [.int v, .int (0 : Int32), .ref p3]) rfl ?_
  refine r_i2l C0 dL_setWaves_8 ?_
  refine r_last' (j := 0) C0 hk_p3 rfl rfl hf dL_setWaves_9 (fun X1 hf => ?_)
  refine r_goto C0 17 dL_setWaves_10 (by decide) ?_
  refine r_iconst (v := 0) C0 dL_setWaves_17 (by decide) ?_
  obtain rfl := Option.some.inj hf
  exact rW_iret C0 dL_setWaves_18
set_option maxHeartbeats 4000000 in
set_option maxRecDepth 100000 in
theorem c_L_pass {l : Launch} {E : zEn} {S : zSk} (hl : l.stackTraces = false) (F : Nat) (p0 : Nat) (p1 : Int32) (p2 : Nat) (hk_p0 : K_X10 S p0) (hk_p2 : S.1 p2 = some (.inr (3, 1))) (M : zMi) (X : zMl) (r : Int32 × zMi × zMl) (hf : f_L_pass F p0 p1 p2 M X = some r) : zMW l E yL_pass cL_pass 4 (Option.some Jvm.ClassFile.FieldType.int) [(0, 9, 12, 13)] { frames := 8, cells := 1, slots := 6, locals := 158 } 1 6 [.ref p0, .int p1, .ref p2] S M X r.1 r.2.1 r.2.2 := by
  refine zMW.intro (L0 := [(0, .ref p0), (1, .int p1), (2, .ref p2)]) hl (by decide) (Nat.le_of_ble_eq_true rfl) rfl (fun Γ C0 => ?_)
  unfold f_L_pass at hf
  refine r_aload_n C0 dL_pass_0 rfl 2 rfl ?_
  refine r_iconst (v := 0) C0 dL_pass_1 (by decide) ?_
  refine r_aload_n C0 dL_pass_2 rfl 0 rfl ?_
  refine r_iload_n C0 dL_pass_3 rfl 1 rfl ?_
  refine rX_callVw C0 (st := [.int (0 : Int32), .ref p2]) (fun v => some (Value.int v)) [.int p1] p0 hf vs_180 (fun hl r9 h9 => c_X10_pass hl F p0 p1 hk_p0 M r9 h9) (K_X10_o hk_p0) rfl rfl rfl rfl (Nat.le_of_ble_eq_true rfl) dL_pass_4 (zrm_ok rfl) (fun e M1 hf => ?_) (fun v M1 hf => ?_)
  · refine z_ite hf (fun he hf => ?_) (fun hn hf => ?_)
    · subst he
      refine rW_catch C0 [] (0, 9, 12, 13) [] rfl (fun _ h => nomatch h) rfl (by decide) qw_722 qw_723 (fun q => ?_)
      refine r_astore_n (L' := [(3, .ref q), (0, .ref p0), (1, .int p1), (2, .ref p2)]) C0 dL_pass_12 rfl (by decide) rfl ?_
      refine r_iconst (v := 1) C0 dL_pass_13 (by decide) ?_
      obtain rfl := Option.some.inj hf
      exact rW_iret C0 dL_pass_14
    cases hf
  refine r_eqst (st1 := [.int v, .int (0 : Int32), .ref p2]) rfl ?_
  refine r_i2l C0 dL_pass_7 ?_
  refine r_last' (j := 0) C0 hk_p2 rfl rfl hf dL_pass_8 (fun X1 hf => ?_)
  refine r_goto C0 15 dL_pass_9 (by decide) ?_
  refine r_iconst (v := 0) C0 dL_pass_15 (by decide) ?_
  obtain rfl := Option.some.inj hf
  exact rW_iret C0 dL_pass_16
set_option maxHeartbeats 4000000 in
set_option maxRecDepth 100000 in
theorem c_L_undo {l : Launch} {E : zEn} {S : zSk} (hl : l.stackTraces = false) (F : Nat) (p0 : Nat) (p1 : Nat) (hk_p0 : K_X10 S p0) (hk_p1 : S.1 p1 = some (.inr (3, 1))) (M : zMi) (X : zMl) (r : Int32 × zMi × zMl) (hf : f_L_undo F p0 p1 M X = some r) : zMW l E yL_undo cL_undo 3 (Option.some Jvm.ClassFile.FieldType.int) [(0, 8, 11, 15)] { frames := 8, cells := 1, slots := 6, locals := 130 } 1 6 [.ref p0, .ref p1] S M X r.1 r.2.1 r.2.2 := by
  refine zMW.intro (L0 := [(0, .ref p0), (1, .ref p1)]) hl (by decide) (Nat.le_of_ble_eq_true rfl) rfl (fun Γ C0 => ?_)
  unfold f_L_undo at hf
  refine r_aload_n C0 dL_undo_0 rfl 1 rfl ?_
  refine r_iconst (v := 0) C0 dL_undo_1 (by decide) ?_
  refine r_aload_n C0 dL_undo_2 rfl 0 rfl ?_
  refine rX_callVw C0 (st := [.int (0 : Int32), .ref p1]) (fun v => some (Value.int v)) [] p0 hf vs_181 (fun hl r9 h9 => c_X10_undo hl F p0 hk_p0 M r9 h9) (K_X10_o hk_p0) rfl rfl rfl rfl (Nat.le_of_ble_eq_true rfl) dL_undo_3 (zrm_ok rfl) (fun e M1 hf => ?_) (fun v M1 hf => ?_)
  · refine z_ite hf (fun he hf => ?_) (fun hn hf => ?_)
    · subst he
      refine rW_catch C0 [] (0, 8, 11, 15) [] rfl (fun _ h => nomatch h) rfl (by decide) qw_724 qw_725 (fun q => ?_)
      refine r_astore_n (L' := [(2, .ref q), (0, .ref p0), (1, .ref p1)]) C0 dL_undo_11 rfl (by decide) rfl ?_
      refine r_iconst (v := 1) C0 dL_undo_12 (by decide) ?_
      obtain rfl := Option.some.inj hf
      exact rW_iret C0 dL_undo_13
    cases hf
  refine r_eqst (st1 := [.int v, .int (0 : Int32), .ref p1]) rfl ?_
  refine r_i2l C0 dL_undo_6 ?_
  refine r_last' (j := 0) C0 hk_p1 rfl rfl hf dL_undo_7 (fun X1 hf => ?_)
  refine r_goto C0 14 dL_undo_8 (by decide) ?_
  refine r_iconst (v := 0) C0 dL_undo_14 (by decide) ?_
  obtain rfl := Option.some.inj hf
  exact rW_iret C0 dL_undo_15
set_option maxHeartbeats 4000000 in
set_option maxRecDepth 100000 in
theorem c_L_needs {l : Launch} {E : zEn} {S : zSk} (hl : l.stackTraces = false) (F : Nat) (p0 : Nat) (p1 : Int32) (p2 : Int32) (p3 : Nat) (hk_p0 : K_X10 S p0) (hk_p3 : S.1 p3 = some (.inr (3, 1))) (M : zMi) (X : zMl) (r : Int32 × zMi × zMl) (hf : f_L_needs F p0 p1 p2 p3 M X = some r) : zMW l E yL_needs cL_needs 5 (Option.some Jvm.ClassFile.FieldType.int) [(0, 10, 13, 28), (0, 10, 17, 13)] { frames := 8, cells := 2, slots := 12, locals := 135 } 2 12 [.ref p0, .int p1, .int p2, .ref p3] S M X r.1 r.2.1 r.2.2 := by
  refine zMW.intro (L0 := [(0, .ref p0), (1, .int p1), (2, .int p2), (3, .ref p3)]) hl (by decide) (Nat.le_of_ble_eq_true rfl) rfl (fun Γ C0 => ?_)
  unfold f_L_needs at hf
  refine r_aload_n C0 dL_needs_0 rfl 3 rfl ?_
  refine r_iconst (v := 0) C0 dL_needs_1 (by decide) ?_
  refine r_aload_n C0 dL_needs_2 rfl 0 rfl ?_
  refine r_iload_n C0 dL_needs_3 rfl 1 rfl ?_
  refine r_iload_n C0 dL_needs_4 rfl 2 rfl ?_
  refine rX_callVp C0 (st := [.int (0 : Int32), .ref p3]) (fun v => some (Value.int v)) [.int p1, .int p2] p0 hf vs_182 (fun hl r9 h9 => c_X10_needs hl F p0 p1 p2 hk_p0 M r9 h9) (K_X10_o hk_p0) rfl rfl rfl rfl (Nat.le_of_ble_eq_true rfl) dL_needs_5 (zrm_ok rfl) (fun e hf => ?_) (fun v h0 hf => ?_)
  · refine z_ite hf (fun he hf => ?_) (fun hn hf => ?_)
    · subst he
      refine rW_catch C0 [] (0, 10, 13, 28) [(0, 10, 17, 13)] rfl (fun _ h => nomatch h) rfl (by decide) qw_738 qw_739 (fun q => ?_)
      refine r_astore (L' := [(4, .ref q), (0, .ref p0), (1, .int p1), (2, .int p2), (3, .ref p3)]) C0 dL_needs_13 (by decide) rfl ?_
      refine r_iconst (v := 1) C0 dL_needs_15 (by decide) ?_
      obtain rfl := Option.some.inj hf
      exact rW_iret C0 dL_needs_16
    refine z_ite hf (fun he hf => ?_) (fun hn hf => ?_)
    · subst he
      refine rW_catch C0 [(0, 10, 13, 28)] (0, 10, 17, 13) [] rfl (List.forall_mem_cons.mpr ⟨⟨by decide, 3, qw_738, by decide +kernel⟩, (fun _ h => nomatch h)⟩) rfl (by decide) qw_722 qw_723 (fun q => ?_)
      refine r_astore (L' := [(4, .ref q), (0, .ref p0), (1, .int p1), (2, .int p2), (3, .ref p3)]) C0 dL_needs_17 (by decide) rfl ?_
      refine r_iconst (v := 2) C0 dL_needs_19 (by decide) ?_
      obtain rfl := Option.some.inj hf
      exact rW_iret C0 dL_needs_20
    cases hf
  refine r_eqst (st1 := [.int v, .int (0 : Int32), .ref p3]) rfl ?_
  refine r_i2l C0 dL_needs_8 ?_
  refine r_last' (j := 0) C0 hk_p3 rfl rfl hf dL_needs_9 (fun X1 hf => ?_)
  refine r_goto C0 21 dL_needs_10 (by decide) ?_
  refine r_iconst (v := 0) C0 dL_needs_21 (by decide) ?_
  obtain rfl := Option.some.inj hf
  exact rW_iret C0 dL_needs_22
set_option maxHeartbeats 4000000 in
set_option maxRecDepth 100000 in
theorem c_L_reach {l : Launch} {E : zEn} {S : zSk} (hl : l.stackTraces = false) (F : Nat) (p0 : Nat) (p1 : Int32) (p2 : Int32) (p3 : Nat) (hk_p0 : K_X10 S p0) (hk_p3 : S.1 p3 = some (.inr (3, 1))) (M : zMi) (X : zMl) (r : Int32 × zMi × zMl) (hf : f_L_reach F p0 p1 p2 p3 M X = some r) : zMW l E yL_reach cL_reach 5 (Option.some Jvm.ClassFile.FieldType.int) [(0, 10, 13, 28)] { frames := 8, cells := 2, slots := 12, locals := 136 } 2 12 [.ref p0, .int p1, .int p2, .ref p3] S M X r.1 r.2.1 r.2.2 := by
  refine zMW.intro (L0 := [(0, .ref p0), (1, .int p1), (2, .int p2), (3, .ref p3)]) hl (by decide) (Nat.le_of_ble_eq_true rfl) rfl (fun Γ C0 => ?_)
  unfold f_L_reach at hf
  refine r_aload_n C0 dL_reach_0 rfl 3 rfl ?_
  refine r_iconst (v := 0) C0 dL_reach_1 (by decide) ?_
  refine r_aload_n C0 dL_reach_2 rfl 0 rfl ?_
  refine r_iload_n C0 dL_reach_3 rfl 1 rfl ?_
  refine r_iload_n C0 dL_reach_4 rfl 2 rfl ?_
  refine rX_callVp C0 (st := [.int (0 : Int32), .ref p3]) (fun v => some (Value.int v)) [.int p1, .int p2] p0 hf vs_183 (fun hl r9 h9 => c_X10_reach hl F p0 p1 p2 hk_p0 M r9 h9) (K_X10_o hk_p0) rfl rfl rfl rfl (Nat.le_of_ble_eq_true rfl) dL_reach_5 (zrm_ok rfl) (fun e hf => ?_) (fun v h0 hf => ?_)
  · refine z_ite hf (fun he hf => ?_) (fun hn hf => ?_)
    · subst he
      refine rW_catch C0 [] (0, 10, 13, 28) [] rfl (fun _ h => nomatch h) rfl (by decide) qw_738 qw_739 (fun q => ?_)
      refine r_astore (L' := [(4, .ref q), (0, .ref p0), (1, .int p1), (2, .int p2), (3, .ref p3)]) C0 dL_reach_13 (by decide) rfl ?_
      refine r_iconst (v := 1) C0 dL_reach_15 (by decide) ?_
      obtain rfl := Option.some.inj hf
      exact rW_iret C0 dL_reach_16
    cases hf
  refine r_eqst (st1 := [.int v, .int (0 : Int32), .ref p3]) rfl ?_
  refine r_i2l C0 dL_reach_8 ?_
  refine r_last' (j := 0) C0 hk_p3 rfl rfl hf dL_reach_9 (fun X1 hf => ?_)
  refine r_goto C0 17 dL_reach_10 (by decide) ?_
  refine r_iconst (v := 0) C0 dL_reach_17 (by decide) ?_
  obtain rfl := Option.some.inj hf
  exact rW_iret C0 dL_reach_18
set_option maxHeartbeats 4000000 in
set_option maxRecDepth 100000 in
theorem c_L_calmDays {l : Launch} {E : zEn} {S : zSk} (hl : l.stackTraces = false) (F : Nat) (p0 : Nat) (p1 : Int32) (p2 : Int32) (p3 : Nat) (hk_p0 : K_X10 S p0) (hk_p3 : S.1 p3 = some (.inr (3, 1))) (M : zMi) (X : zMl) (r : Int32 × zMi × zMl) (hf : f_L_calmDays F p0 p1 p2 p3 M X = some r) : zMW l E yL_calmDays cL_calmDays 5 (Option.some Jvm.ClassFile.FieldType.int) [(0, 10, 13, 28)] { frames := 8, cells := 2, slots := 12, locals := 138 } 2 12 [.ref p0, .int p1, .int p2, .ref p3] S M X r.1 r.2.1 r.2.2 := by
  refine zMW.intro (L0 := [(0, .ref p0), (1, .int p1), (2, .int p2), (3, .ref p3)]) hl (by decide) (Nat.le_of_ble_eq_true rfl) rfl (fun Γ C0 => ?_)
  unfold f_L_calmDays at hf
  refine r_aload_n C0 dL_calmDays_0 rfl 3 rfl ?_
  refine r_iconst (v := 0) C0 dL_calmDays_1 (by decide) ?_
  refine r_aload_n C0 dL_calmDays_2 rfl 0 rfl ?_
  refine r_iload_n C0 dL_calmDays_3 rfl 1 rfl ?_
  refine r_iload_n C0 dL_calmDays_4 rfl 2 rfl ?_
  refine rX_callVp C0 (st := [.int (0 : Int32), .ref p3]) (fun v => some (Value.int v)) [.int p1, .int p2] p0 hf vs_184 (fun hl r9 h9 => c_X10_calmDays hl F p0 p1 p2 hk_p0 M r9 h9) (K_X10_o hk_p0) rfl rfl rfl rfl (Nat.le_of_ble_eq_true rfl) dL_calmDays_5 (zrm_ok rfl) (fun e hf => ?_) (fun v h0 hf => ?_)
  · refine z_ite hf (fun he hf => ?_) (fun hn hf => ?_)
    · subst he
      refine rW_catch C0 [] (0, 10, 13, 28) [] rfl (fun _ h => nomatch h) rfl (by decide) qw_738 qw_739 (fun q => ?_)
      refine r_astore (L' := [(4, .ref q), (0, .ref p0), (1, .int p1), (2, .int p2), (3, .ref p3)]) C0 dL_calmDays_13 (by decide) rfl ?_
      refine r_iconst (v := 1) C0 dL_calmDays_15 (by decide) ?_
      obtain rfl := Option.some.inj hf
      exact rW_iret C0 dL_calmDays_16
    cases hf
  refine r_eqst (st1 := [.int v, .int (0 : Int32), .ref p3]) rfl ?_
  refine r_i2l C0 dL_calmDays_8 ?_
  refine r_last' (j := 0) C0 hk_p3 rfl rfl hf dL_calmDays_9 (fun X1 hf => ?_)
  refine r_goto C0 17 dL_calmDays_10 (by decide) ?_
  refine r_iconst (v := 0) C0 dL_calmDays_17 (by decide) ?_
  obtain rfl := Option.some.inj hf
  exact rW_iret C0 dL_calmDays_18
set_option maxHeartbeats 4000000 in
set_option maxRecDepth 100000 in
theorem c_L_ahead {l : Launch} {E : zEn} {S : zSk} (hl : l.stackTraces = false) (F : Nat) (p0 : Nat) (p1 : Int32) (p2 : Int32) (p3 : Nat) (hk_p0 : K_X10 S p0) (hk_p3 : S.1 p3 = some (.inr (3, 1))) (M : zMi) (X : zMl) (r : Int32 × zMi × zMl) (hf : f_L_ahead F p0 p1 p2 p3 M X = some r) : zMW l E yL_ahead cL_ahead 5 (Option.some Jvm.ClassFile.FieldType.int) [(0, 10, 13, 13)] { frames := 8, cells := 2, slots := 12, locals := 158 } 2 12 [.ref p0, .int p1, .int p2, .ref p3] S M X r.1 r.2.1 r.2.2 := by
  refine zMW.intro (L0 := [(0, .ref p0), (1, .int p1), (2, .int p2), (3, .ref p3)]) hl (by decide) (Nat.le_of_ble_eq_true rfl) rfl (fun Γ C0 => ?_)
  unfold f_L_ahead at hf
  refine r_aload_n C0 dL_ahead_0 rfl 3 rfl ?_
  refine r_iconst (v := 0) C0 dL_ahead_1 (by decide) ?_
  refine r_aload_n C0 dL_ahead_2 rfl 0 rfl ?_
  refine r_iload_n C0 dL_ahead_3 rfl 1 rfl ?_
  refine r_iload_n C0 dL_ahead_4 rfl 2 rfl ?_
  refine rX_callVw C0 (st := [.int (0 : Int32), .ref p3]) (fun v => some (Value.int v)) [.int p1, .int p2] p0 hf vs_185 (fun hl r9 h9 => c_X10_ahead hl F p0 p1 p2 hk_p0 M r9 h9) (K_X10_o hk_p0) rfl rfl rfl rfl (Nat.le_of_ble_eq_true rfl) dL_ahead_5 (zrm_ok rfl) (fun e M1 hf => ?_) (fun v M1 hf => ?_)
  · refine z_ite hf (fun he hf => ?_) (fun hn hf => ?_)
    · subst he
      refine rW_catch C0 [] (0, 10, 13, 13) [] rfl (fun _ h => nomatch h) rfl (by decide) qw_722 qw_723 (fun q => ?_)
      refine r_astore (L' := [(4, .ref q), (0, .ref p0), (1, .int p1), (2, .int p2), (3, .ref p3)]) C0 dL_ahead_13 (by decide) rfl ?_
      refine r_iconst (v := 1) C0 dL_ahead_15 (by decide) ?_
      obtain rfl := Option.some.inj hf
      exact rW_iret C0 dL_ahead_16
    cases hf
  refine r_eqst (st1 := [.int v, .int (0 : Int32), .ref p3]) rfl ?_
  refine r_i2l C0 dL_ahead_8 ?_
  refine r_last' (j := 0) C0 hk_p3 rfl rfl hf dL_ahead_9 (fun X1 hf => ?_)
  refine r_goto C0 17 dL_ahead_10 (by decide) ?_
  refine r_iconst (v := 0) C0 dL_ahead_17 (by decide) ?_
  obtain rfl := Option.some.inj hf
  exact rW_iret C0 dL_ahead_18
set_option maxHeartbeats 4000000 in
set_option maxRecDepth 100000 in
theorem c_L_doneAfter {l : Launch} {E : zEn} {S : zSk} (hl : l.stackTraces = false) (F : Nat) (p0 : Nat) (p1 : Int32) (p2 : Nat) (hk_p0 : K_X10 S p0) (hk_p2 : S.1 p2 = some (.inr (3, 1))) (M : zMi) (X : zMl) (r : Int32 × zMi × zMl) (hf : f_L_doneAfter F p0 p1 p2 M X = some r) : zMW l E yL_doneAfter cL_doneAfter 4 (Option.some Jvm.ClassFile.FieldType.int) [(0, 9, 12, 28)] { frames := 8, cells := 1, slots := 6, locals := 157 } 1 6 [.ref p0, .int p1, .ref p2] S M X r.1 r.2.1 r.2.2 := by
  refine zMW.intro (L0 := [(0, .ref p0), (1, .int p1), (2, .ref p2)]) hl (by decide) (Nat.le_of_ble_eq_true rfl) rfl (fun Γ C0 => ?_)
  unfold f_L_doneAfter at hf
  refine r_aload_n C0 dL_doneAfter_0 rfl 2 rfl ?_
  refine r_iconst (v := 0) C0 dL_doneAfter_1 (by decide) ?_
  refine r_aload_n C0 dL_doneAfter_2 rfl 0 rfl ?_
  refine r_iload_n C0 dL_doneAfter_3 rfl 1 rfl ?_
  refine rX_callVw C0 (st := [.int (0 : Int32), .ref p2]) (fun v => some (Value.int v)) [.int p1] p0 hf vs_186 (fun hl r9 h9 => c_X10_doneAfter hl F p0 p1 hk_p0 M r9 h9) (K_X10_o hk_p0) rfl rfl rfl rfl (Nat.le_of_ble_eq_true rfl) dL_doneAfter_4 (zrm_ok rfl) (fun e M1 hf => ?_) (fun v M1 hf => ?_)
  · refine z_ite hf (fun he hf => ?_) (fun hn hf => ?_)
    · subst he
      refine rW_catch C0 [] (0, 9, 12, 28) [] rfl (fun _ h => nomatch h) rfl (by decide) qw_738 qw_739 (fun q => ?_)
      refine r_astore_n (L' := [(3, .ref q), (0, .ref p0), (1, .int p1), (2, .ref p2)]) C0 dL_doneAfter_12 rfl (by decide) rfl ?_
      refine r_iconst (v := 1) C0 dL_doneAfter_13 (by decide) ?_
      obtain rfl := Option.some.inj hf
      exact rW_iret C0 dL_doneAfter_14
    cases hf
  refine r_eqst (st1 := [.int v, .int (0 : Int32), .ref p2]) rfl ?_
  refine r_i2l C0 dL_doneAfter_7 ?_
  refine r_last' (j := 0) C0 hk_p2 rfl rfl hf dL_doneAfter_8 (fun X1 hf => ?_)
  refine r_goto C0 15 dL_doneAfter_9 (by decide) ?_
  refine r_iconst (v := 0) C0 dL_doneAfter_15 (by decide) ?_
  obtain rfl := Option.some.inj hf
  exact rW_iret C0 dL_doneAfter_16
set_option maxHeartbeats 4000000 in
set_option maxRecDepth 100000 in
theorem c_L_extension {l : Launch} {E : zEn} {S : zSk} (hl : l.stackTraces = false) (F : Nat) (p0 : Nat) (p1 : Int32) (p2 : Nat) (hk_p0 : K_X10 S p0) (hk_p2 : S.1 p2 = some (.inr (3, 1))) (M : zMi) (X : zMl) (r : Int32 × zMi × zMl) (hf : f_L_extension F p0 p1 p2 M X = some r) : zMW l E yL_extension cL_extension 4 (Option.some Jvm.ClassFile.FieldType.int) [(0, 9, 12, 28)] { frames := 8, cells := 1, slots := 6, locals := 160 } 1 6 [.ref p0, .int p1, .ref p2] S M X r.1 r.2.1 r.2.2 := by
  refine zMW.intro (L0 := [(0, .ref p0), (1, .int p1), (2, .ref p2)]) hl (by decide) (Nat.le_of_ble_eq_true rfl) rfl (fun Γ C0 => ?_)
  unfold f_L_extension at hf
  refine r_aload_n C0 dL_extension_0 rfl 2 rfl ?_
  refine r_iconst (v := 0) C0 dL_extension_1 (by decide) ?_
  refine r_aload_n C0 dL_extension_2 rfl 0 rfl ?_
  refine r_iload_n C0 dL_extension_3 rfl 1 rfl ?_
  refine rX_callVw C0 (st := [.int (0 : Int32), .ref p2]) (fun v => some (Value.int v)) [.int p1] p0 hf vs_187 (fun hl r9 h9 => c_X10_extension hl F p0 p1 hk_p0 M r9 h9) (K_X10_o hk_p0) rfl rfl rfl rfl (Nat.le_of_ble_eq_true rfl) dL_extension_4 (zrm_ok rfl) (fun e M1 hf => ?_) (fun v M1 hf => ?_)
  · refine z_ite hf (fun he hf => ?_) (fun hn hf => ?_)
    · subst he
      refine rW_catch C0 [] (0, 9, 12, 28) [] rfl (fun _ h => nomatch h) rfl (by decide) qw_738 qw_739 (fun q => ?_)
      refine r_astore_n (L' := [(3, .ref q), (0, .ref p0), (1, .int p1), (2, .ref p2)]) C0 dL_extension_12 rfl (by decide) rfl ?_
      refine r_iconst (v := 1) C0 dL_extension_13 (by decide) ?_
      obtain rfl := Option.some.inj hf
      exact rW_iret C0 dL_extension_14
    cases hf
  refine r_eqst (st1 := [.int v, .int (0 : Int32), .ref p2]) rfl ?_
  refine r_i2l C0 dL_extension_7 ?_
  refine r_last' (j := 0) C0 hk_p2 rfl rfl hf dL_extension_8 (fun X1 hf => ?_)
  refine r_goto C0 15 dL_extension_9 (by decide) ?_
  refine r_iconst (v := 0) C0 dL_extension_15 (by decide) ?_
  obtain rfl := Option.some.inj hf
  exact rW_iret C0 dL_extension_16
set_option maxHeartbeats 4000000 in
set_option maxRecDepth 100000 in
theorem c_L_runScript {l : Launch} {E : zEn} {S : zSk} (hl : l.stackTraces = false) (F : Nat) (p0 : Nat) (p1 : Int32) (p2 : Int64) (p3 : Nat) (hk_p0 : K_X10 S p0) (hk_p3 : S.1 p3 = some (.inr (3, 1))) (M : zMi) (X : zMl) (r : Int32 × zMi × zMl) (hf : f_L_runScript F p0 p1 p2 p3 M X = some r) : zMW l E yL_runScript cL_runScript 6 (Option.some Jvm.ClassFile.FieldType.int) [(0, 11, 14, 13)] { frames := 8, cells := 2, slots := 12, locals := 184 } 2 12 [.ref p0, .int p1, .long p2, .ref p3] S M X r.1 r.2.1 r.2.2 := by
  refine zMW.intro (L0 := [(0, .ref p0), (1, .int p1), (2, .long p2), (4, .ref p3)]) hl (by decide) (Nat.le_of_ble_eq_true rfl) rfl (fun Γ C0 => ?_)
  unfold f_L_runScript at hf
  refine r_aload C0 dL_runScript_0 3 rfl ?_
  refine r_iconst (v := 0) C0 dL_runScript_2 (by decide) ?_
  refine r_aload_n C0 dL_runScript_3 rfl 0 rfl ?_
  refine r_iload_n C0 dL_runScript_4 rfl 1 rfl ?_
  refine r_lload_n C0 dL_runScript_5 rfl 2 rfl ?_
  refine rX_callVw C0 (st := [.int (0 : Int32), .ref p3]) (fun v => some (Value.int v)) [.int p1, .long p2] p0 hf vs_188 (fun hl r9 h9 => c_X10_runScript hl F p0 p1 p2 hk_p0 M r9 h9) (K_X10_o hk_p0) rfl rfl rfl rfl (Nat.le_of_ble_eq_true rfl) dL_runScript_6 (zrm_ok rfl) (fun e M1 hf => ?_) (fun v M1 hf => ?_)
  · refine z_ite hf (fun he hf => ?_) (fun hn hf => ?_)
    · subst he
      refine rW_catch C0 [] (0, 11, 14, 13) [] rfl (fun _ h => nomatch h) rfl (by decide) qw_722 qw_723 (fun q => ?_)
      refine r_astore (L' := [(5, .ref q), (0, .ref p0), (1, .int p1), (2, .long p2), (4, .ref p3)]) C0 dL_runScript_14 (by decide) rfl ?_
      refine r_iconst (v := 1) C0 dL_runScript_16 (by decide) ?_
      obtain rfl := Option.some.inj hf
      exact rW_iret C0 dL_runScript_17
    cases hf
  refine r_eqst (st1 := [.int v, .int (0 : Int32), .ref p3]) rfl ?_
  refine r_i2l C0 dL_runScript_9 ?_
  refine r_last' (j := 0) C0 hk_p3 rfl rfl hf dL_runScript_10 (fun X1 hf => ?_)
  refine r_goto C0 18 dL_runScript_11 (by decide) ?_
  refine r_iconst (v := 0) C0 dL_runScript_18 (by decide) ?_
  obtain rfl := Option.some.inj hf
  exact rW_iret C0 dL_runScript_19
set_option maxHeartbeats 4000000 in
set_option maxRecDepth 100000 in
theorem c_L_simulate {l : Launch} {E : zEn} {S : zSk} (hl : l.stackTraces = false) (F : Nat) (p0 : Nat) (p1 : Int64) (p2 : Int32) (p3 : Nat) (hk_p0 : K_X10 S p0) (hk_p3 : S.1 p3 = some (.inr (3, 1))) (M : zMi) (X : zMl) (r : Int32 × zMi × zMl) (hf : f_L_simulate F p0 p1 p2 p3 M X = some r) : zMW l E yL_simulate cL_simulate 6 (Option.some Jvm.ClassFile.FieldType.int) [(0, 11, 14, 13)] { frames := 8, cells := 1, slots := 6, locals := 162 } 1 6 [.ref p0, .long p1, .int p2, .ref p3] S M X r.1 r.2.1 r.2.2 := by
  refine zMW.intro (L0 := [(0, .ref p0), (1, .long p1), (3, .int p2), (4, .ref p3)]) hl (by decide) (Nat.le_of_ble_eq_true rfl) rfl (fun Γ C0 => ?_)
  unfold f_L_simulate at hf
  refine r_aload C0 dL_simulate_0 3 rfl ?_
  refine r_iconst (v := 0) C0 dL_simulate_2 (by decide) ?_
  refine r_aload_n C0 dL_simulate_3 rfl 0 rfl ?_
  refine r_lload_n C0 dL_simulate_4 rfl 1 rfl ?_
  refine r_iload_n C0 dL_simulate_5 rfl 2 rfl ?_
  refine rX_callVw C0 (st := [.int (0 : Int32), .ref p3]) (fun v => some (Value.int v)) [.long p1, .int p2] p0 hf vs_189 (fun hl r9 h9 => c_X10_simulate hl F p0 p1 p2 hk_p0 M r9 h9) (K_X10_o hk_p0) rfl rfl rfl rfl (Nat.le_of_ble_eq_true rfl) dL_simulate_6 (zrm_ok rfl) (fun e M1 hf => ?_) (fun v M1 hf => ?_)
  · refine z_ite hf (fun he hf => ?_) (fun hn hf => ?_)
    · subst he
      refine rW_catch C0 [] (0, 11, 14, 13) [] rfl (fun _ h => nomatch h) rfl (by decide) qw_722 qw_723 (fun q => ?_)
      refine r_astore (L' := [(5, .ref q), (0, .ref p0), (1, .long p1), (3, .int p2), (4, .ref p3)]) C0 dL_simulate_14 (by decide) rfl ?_
      refine r_iconst (v := 1) C0 dL_simulate_16 (by decide) ?_
      obtain rfl := Option.some.inj hf
      exact rW_iret C0 dL_simulate_17
    cases hf
  refine r_eqst (st1 := [.int v, .int (0 : Int32), .ref p3]) rfl ?_
  refine r_i2l C0 dL_simulate_9 ?_
  refine r_last' (j := 0) C0 hk_p3 rfl rfl hf dL_simulate_10 (fun X1 hf => ?_)
  refine r_goto C0 18 dL_simulate_11 (by decide) ?_
  refine r_iconst (v := 0) C0 dL_simulate_18 (by decide) ?_
  obtain rfl := Option.some.inj hf
  exact rW_iret C0 dL_simulate_19
set_option maxHeartbeats 4000000 in
set_option maxRecDepth 100000 in
theorem c_L_save {l : Launch} {E : zEn} {S : zSk} (hl : l.stackTraces = false) (F : Nat) (p0 : Nat) (p1 : Int32) (p2 : Nat) (hk_p0 : K_X10 S p0) (hk_p2 : S.1 p2 = some (.inr (3, 1))) (M : zMi) (X : zMl) (r : Int32 × zMi × zMl) (hf : f_L_save F p0 p1 p2 M X = some r) : zMW l E yL_save cL_save 4 (Option.some Jvm.ClassFile.FieldType.int) [(0, 9, 12, 28)] { frames := 8, cells := 1, slots := 6, locals := 133 } 1 6 [.ref p0, .int p1, .ref p2] S M X r.1 r.2.1 r.2.2 := by
  refine zMW.intro (L0 := [(0, .ref p0), (1, .int p1), (2, .ref p2)]) hl (by decide) (Nat.le_of_ble_eq_true rfl) rfl (fun Γ C0 => ?_)
  unfold f_L_save at hf
  refine r_aload_n C0 dL_save_0 rfl 2 rfl ?_
  refine r_iconst (v := 0) C0 dL_save_1 (by decide) ?_
  refine r_aload_n C0 dL_save_2 rfl 0 rfl ?_
  refine r_iload_n C0 dL_save_3 rfl 1 rfl ?_
  refine rX_callVw C0 (st := [.int (0 : Int32), .ref p2]) (fun v => some (Value.int v)) [.int p1] p0 hf vs_190 (fun hl r9 h9 => c_X10_save hl F p0 p1 hk_p0 M r9 h9) (K_X10_o hk_p0) rfl rfl rfl rfl (Nat.le_of_ble_eq_true rfl) dL_save_4 (zrm_ok rfl) (fun e M1 hf => ?_) (fun v M1 hf => ?_)
  · refine z_ite hf (fun he hf => ?_) (fun hn hf => ?_)
    · subst he
      refine rW_catch C0 [] (0, 9, 12, 28) [] rfl (fun _ h => nomatch h) rfl (by decide) qw_738 qw_739 (fun q => ?_)
      refine r_astore_n (L' := [(3, .ref q), (0, .ref p0), (1, .int p1), (2, .ref p2)]) C0 dL_save_12 rfl (by decide) rfl ?_
      refine r_iconst (v := 1) C0 dL_save_13 (by decide) ?_
      obtain rfl := Option.some.inj hf
      exact rW_iret C0 dL_save_14
    cases hf
  refine r_eqst (st1 := [.int v, .int (0 : Int32), .ref p2]) rfl ?_
  refine r_i2l C0 dL_save_7 ?_
  refine r_last' (j := 0) C0 hk_p2 rfl rfl hf dL_save_8 (fun X1 hf => ?_)
  refine r_goto C0 15 dL_save_9 (by decide) ?_
  refine r_iconst (v := 0) C0 dL_save_15 (by decide) ?_
  obtain rfl := Option.some.inj hf
  exact rW_iret C0 dL_save_16
set_option maxHeartbeats 4000000 in
set_option maxRecDepth 100000 in
theorem c_L_restore {l : Launch} {E : zEn} {S : zSk} (hl : l.stackTraces = false) (F : Nat) (p0 : Nat) (p1 : Int32) (p2 : Nat) (hk_p0 : K_X10 S p0) (hk_p2 : S.1 p2 = some (.inr (3, 1))) (M : zMi) (X : zMl) (r : Int32 × zMi × zMl) (hf : f_L_restore F p0 p1 p2 M X = some r) : zMW l E yL_restore cL_restore 4 (Option.some Jvm.ClassFile.FieldType.int) [(0, 9, 12, 28), (0, 9, 15, 15)] { frames := 8, cells := 2, slots := 12, locals := 133 } 2 12 [.ref p0, .int p1, .ref p2] S M X r.1 r.2.1 r.2.2 := by
  refine zMW.intro (L0 := [(0, .ref p0), (1, .int p1), (2, .ref p2)]) hl (by decide) (Nat.le_of_ble_eq_true rfl) rfl (fun Γ C0 => ?_)
  unfold f_L_restore at hf
  refine r_aload_n C0 dL_restore_0 rfl 2 rfl ?_
  refine r_iconst (v := 0) C0 dL_restore_1 (by decide) ?_
  refine r_aload_n C0 dL_restore_2 rfl 0 rfl ?_
  refine r_iload_n C0 dL_restore_3 rfl 1 rfl ?_
  refine rX_callVw C0 (st := [.int (0 : Int32), .ref p2]) (fun v => some (Value.int v)) [.int p1] p0 hf vs_191 (fun hl r9 h9 => c_X10_restore hl F p0 p1 hk_p0 M r9 h9) (K_X10_o hk_p0) rfl rfl rfl rfl (Nat.le_of_ble_eq_true rfl) dL_restore_4 (zrm_ok rfl) (fun e M1 hf => ?_) (fun v M1 hf => ?_)
  · refine z_ite hf (fun he hf => ?_) (fun hn hf => ?_)
    · subst he
      refine rW_catch C0 [] (0, 9, 12, 28) [(0, 9, 15, 15)] rfl (fun _ h => nomatch h) rfl (by decide) qw_738 qw_739 (fun q => ?_)
      refine r_astore_n (L' := [(3, .ref q), (0, .ref p0), (1, .int p1), (2, .ref p2)]) C0 dL_restore_12 rfl (by decide) rfl ?_
      refine r_iconst (v := 1) C0 dL_restore_13 (by decide) ?_
      obtain rfl := Option.some.inj hf
      exact rW_iret C0 dL_restore_14
    refine z_ite hf (fun he hf => ?_) (fun hn hf => ?_)
    · subst he
      refine rW_catch C0 [(0, 9, 12, 28)] (0, 9, 15, 15) [] rfl (List.forall_mem_cons.mpr ⟨⟨by decide, 3, qw_738, by decide +kernel⟩, (fun _ h => nomatch h)⟩) rfl (by decide) qw_724 qw_725 (fun q => ?_)
      refine r_astore_n (L' := [(3, .ref q), (0, .ref p0), (1, .int p1), (2, .ref p2)]) C0 dL_restore_15 rfl (by decide) rfl ?_
      refine r_iconst (v := 2) C0 dL_restore_16 (by decide) ?_
      obtain rfl := Option.some.inj hf
      exact rW_iret C0 dL_restore_17
    cases hf
  refine r_eqst (st1 := [.int v, .int (0 : Int32), .ref p2]) rfl ?_
  refine r_i2l C0 dL_restore_7 ?_
  refine r_last' (j := 0) C0 hk_p2 rfl rfl hf dL_restore_8 (fun X1 hf => ?_)
  refine r_goto C0 18 dL_restore_9 (by decide) ?_
  refine r_iconst (v := 0) C0 dL_restore_18 (by decide) ?_
  obtain rfl := Option.some.inj hf
  exact rW_iret C0 dL_restore_19
