set_option maxHeartbeats 4000000 in
set_option maxRecDepth 100000 in
theorem c_L_tryAppend {l : Launch} {E : zEn} {S : zSk} {X : zMl} (hl : l.stackTraces = false) (F : Nat) (p0 : Nat) (p1 : Int32) (hk_p0 : K_X10 S p0) (M : zMi) (r : Int32 × zMi) (hf : f_L_tryAppend F p0 p1 M = some r) : zMW l E yL_tryAppend cL_tryAppend 3 (Option.some Jvm.ClassFile.FieldType.int) [(0, 5, 6, 13), (0, 5, 11, 15)] { frames := 8, cells := 2, slots := 12, locals := 133 } 2 12 [.ref p0, .int p1] S M X r.1 r.2 X := by
  refine zMW.intro (L0 := [(0, .ref p0), (1, .int p1)]) hl (by decide) (Nat.le_of_ble_eq_true rfl) rfl (fun Γ C0 => ?_)
  unfold f_L_tryAppend at hf
  refine r_aload_n C0 dL_tryAppend_0 rfl 0 rfl ?_
  refine r_iload_n C0 dL_tryAppend_1 rfl 1 rfl ?_
  refine rX_callVw C0 (st := []) (fun v => some (Value.int v)) [.int p1] p0 hf vs_127 (fun hl r9 h9 => c_X10_append hl F p0 p1 hk_p0 M r9 h9) (K_X10_o hk_p0) rfl rfl rfl rfl (Nat.le_of_ble_eq_true rfl) dL_tryAppend_2 (zrm_ok rfl) (fun e M1 hf => ?_) (fun v M1 hf => ?_)
  · refine z_ite hf (fun he hf => ?_) (fun hn hf => ?_)
    · subst he
      refine rW_catch C0 [] (0, 5, 6, 13) [(0, 5, 11, 15)] rfl (fun _ h => nomatch h) rfl (by decide) qw_564 qw_565 (fun q => ?_)
      refine r_astore_n (L' := [(2, .ref q), (0, .ref p0), (1, .int p1)]) C0 dL_tryAppend_6 rfl (by decide) rfl ?_
      refine r_sipush (v := -1002) C0 dL_tryAppend_7 (by decide) ?_
      obtain rfl := Option.some.inj hf
      exact rW_iret C0 dL_tryAppend_10
    refine z_ite hf (fun he hf => ?_) (fun hn hf => ?_)
    · subst he
      refine rW_catch C0 [(0, 5, 6, 13)] (0, 5, 11, 15) [] rfl (List.forall_mem_cons.mpr ⟨⟨by decide, 1, qw_564, by decide +kernel⟩, (fun _ h => nomatch h)⟩) rfl (by decide) qw_566 qw_567 (fun q => ?_)
      refine r_astore_n (L' := [(2, .ref q), (0, .ref p0), (1, .int p1)]) C0 dL_tryAppend_11 rfl (by decide) rfl ?_
      refine r_sipush (v := -1003) C0 dL_tryAppend_12 (by decide) ?_
      obtain rfl := Option.some.inj hf
      exact rW_iret C0 dL_tryAppend_15
    cases hf
  refine r_eqst (st1 := [.int v]) rfl ?_
  obtain rfl := Option.some.inj hf
  exact rW_iret C0 dL_tryAppend_5
set_option maxHeartbeats 4000000 in
set_option maxRecDepth 100000 in
theorem c_L_tryLoad {l : Launch} {E : zEn} {S : zSk} {X : zMl} (hl : l.stackTraces = false) (F : Nat) (p0 : Nat) (hk_p0 : K_X10 S p0) (M : zMi) (r : Int32 × zMi) (hf : f_L_tryLoad F p0 M = some r) : zMW l E yL_tryLoad cL_tryLoad 2 (Option.some Jvm.ClassFile.FieldType.int) [(0, 4, 5, 15)] { frames := 8, cells := 1, slots := 6, locals := 134 } 1 6 [.ref p0] S M X r.1 r.2 X := by
  refine zMW.intro (L0 := [(0, .ref p0)]) hl (by decide) (Nat.le_of_ble_eq_true rfl) rfl (fun Γ C0 => ?_)
  unfold f_L_tryLoad at hf
  refine r_aload_n C0 dL_tryLoad_0 rfl 0 rfl ?_
  refine rX_callVw C0 (st := []) (fun v => some (Value.int v)) [] p0 hf vs_128 (fun hl r9 h9 => c_X10_load hl F p0 hk_p0 M r9 h9) (K_X10_o hk_p0) rfl rfl rfl rfl (Nat.le_of_ble_eq_true rfl) dL_tryLoad_1 (zrm_ok rfl) (fun e M1 hf => ?_) (fun v M1 hf => ?_)
  · refine z_ite hf (fun he hf => ?_) (fun hn hf => ?_)
    · subst he
      refine rW_catch C0 [] (0, 4, 5, 15) [] rfl (fun _ h => nomatch h) rfl (by decide) qw_566 qw_567 (fun q => ?_)
      refine r_astore_n (L' := [(1, .ref q), (0, .ref p0)]) C0 dL_tryLoad_5 rfl (by decide) rfl ?_
      refine r_sipush (v := -1003) C0 dL_tryLoad_6 (by decide) ?_
      obtain rfl := Option.some.inj hf
      exact rW_iret C0 dL_tryLoad_9
    cases hf
  refine r_eqst (st1 := [.int v]) rfl ?_
  obtain rfl := Option.some.inj hf
  exact rW_iret C0 dL_tryLoad_4
set_option maxHeartbeats 4000000 in
set_option maxRecDepth 100000 in
theorem c_L_tryAbout {l : Launch} {E : zEn} {S : zSk} {X : zMl} (hl : l.stackTraces = false) (F : Nat) (p0 : Nat) (p1 : Int32) (hk_p0 : K_X10 S p0) (M : zMi) (r : Int32) (hf : f_L_tryAbout F p0 p1 M = some r) : zMW l E yL_tryAbout cL_tryAbout 3 (Option.some Jvm.ClassFile.FieldType.int) [(0, 5, 6, 13)] { frames := 7, cells := 1, slots := 6, locals := 112 } 1 6 [.ref p0, .int p1] S M X r M X := by
  refine zMW.intro (L0 := [(0, .ref p0), (1, .int p1)]) hl (by decide) (Nat.le_of_ble_eq_true rfl) rfl (fun Γ C0 => ?_)
  unfold f_L_tryAbout at hf
  refine r_aload_n C0 dL_tryAbout_0 rfl 0 rfl ?_
  refine r_iload_n C0 dL_tryAbout_1 rfl 1 rfl ?_
  refine rX_callVp C0 (st := []) (fun v => some (Value.int v)) [.int p1] p0 hf vs_129 (fun hl r9 h9 => c_X10_about hl F p0 p1 hk_p0 M r9 h9) (K_X10_o hk_p0) rfl rfl rfl rfl (Nat.le_of_ble_eq_true rfl) dL_tryAbout_2 (zrm_ok rfl) (fun e hf => ?_) (fun v h0 hf => ?_)
  · refine z_ite hf (fun he hf => ?_) (fun hn hf => ?_)
    · subst he
      refine rW_catch C0 [] (0, 5, 6, 13) [] rfl (fun _ h => nomatch h) rfl (by decide) qw_564 qw_565 (fun q => ?_)
      refine r_astore_n (L' := [(2, .ref q), (0, .ref p0), (1, .int p1)]) C0 dL_tryAbout_6 rfl (by decide) rfl ?_
      refine r_sipush (v := -1002) C0 dL_tryAbout_7 (by decide) ?_
      obtain rfl := Option.some.inj hf
      exact rW_iret C0 dL_tryAbout_10
    cases hf
  refine r_eqst (st1 := [.int v]) rfl ?_
  obtain rfl := Option.some.inj hf
  exact rW_iret C0 dL_tryAbout_5
set_option maxHeartbeats 4000000 in
set_option maxRecDepth 100000 in
theorem c_L_tryZone {l : Launch} {E : zEn} {S : zSk} {X : zMl} (hl : l.stackTraces = false) (F : Nat) (p0 : Nat) (p1 : Int32) (p2 : Int32) (hk_p0 : K_X10 S p0) (M : zMi) (r : Int32) (hf : f_L_tryZone F p0 p1 p2 M = some r) : zMW l E yL_tryZone cL_tryZone 4 (Option.some Jvm.ClassFile.FieldType.int) [(0, 6, 7, 28), (0, 6, 12, 13)] { frames := 8, cells := 2, slots := 12, locals := 135 } 2 12 [.ref p0, .int p1, .int p2] S M X r M X := by
  refine zMW.intro (L0 := [(0, .ref p0), (1, .int p1), (2, .int p2)]) hl (by decide) (Nat.le_of_ble_eq_true rfl) rfl (fun Γ C0 => ?_)
  unfold f_L_tryZone at hf
  refine r_aload_n C0 dL_tryZone_0 rfl 0 rfl ?_
  refine r_iload_n C0 dL_tryZone_1 rfl 1 rfl ?_
  refine r_iload_n C0 dL_tryZone_2 rfl 2 rfl ?_
  refine rX_callVp C0 (st := []) (fun v => some (Value.int v)) [.int p1, .int p2] p0 hf vs_130 (fun hl r9 h9 => c_X10_zone hl F p0 p1 p2 hk_p0 M r9 h9) (K_X10_o hk_p0) rfl rfl rfl rfl (Nat.le_of_ble_eq_true rfl) dL_tryZone_3 (zrm_ok rfl) (fun e hf => ?_) (fun v h0 hf => ?_)
  · refine z_ite hf (fun he hf => ?_) (fun hn hf => ?_)
    · subst he
      refine rW_catch C0 [] (0, 6, 7, 28) [(0, 6, 12, 13)] rfl (fun _ h => nomatch h) rfl (by decide) qw_580 qw_581 (fun q => ?_)
      refine r_astore_n (L' := [(3, .ref q), (0, .ref p0), (1, .int p1), (2, .int p2)]) C0 dL_tryZone_7 rfl (by decide) rfl ?_
      refine r_sipush (v := -1001) C0 dL_tryZone_8 (by decide) ?_
      obtain rfl := Option.some.inj hf
      exact rW_iret C0 dL_tryZone_11
    refine z_ite hf (fun he hf => ?_) (fun hn hf => ?_)
    · subst he
      refine rW_catch C0 [(0, 6, 7, 28)] (0, 6, 12, 13) [] rfl (List.forall_mem_cons.mpr ⟨⟨by decide, 3, qw_580, by decide +kernel⟩, (fun _ h => nomatch h)⟩) rfl (by decide) qw_564 qw_565 (fun q => ?_)
      refine r_astore_n (L' := [(3, .ref q), (0, .ref p0), (1, .int p1), (2, .int p2)]) C0 dL_tryZone_12 rfl (by decide) rfl ?_
      refine r_sipush (v := -1002) C0 dL_tryZone_13 (by decide) ?_
      obtain rfl := Option.some.inj hf
      exact rW_iret C0 dL_tryZone_16
    cases hf
  refine r_eqst (st1 := [.int v]) rfl ?_
  obtain rfl := Option.some.inj hf
  exact rW_iret C0 dL_tryZone_6
set_option maxHeartbeats 4000000 in
set_option maxRecDepth 100000 in
theorem c_L_tryShip {l : Launch} {E : zEn} {S : zSk} {X : zMl} (hl : l.stackTraces = false) (F : Nat) (p0 : Nat) (p1 : Int32) (p2 : Int32) (hk_p0 : K_X10 S p0) (M : zMi) (r : Int32) (hf : f_L_tryShip F p0 p1 p2 M = some r) : zMW l E yL_tryShip cL_tryShip 4 (Option.some Jvm.ClassFile.FieldType.int) [(0, 6, 7, 28), (0, 6, 12, 13)] { frames := 8, cells := 2, slots := 12, locals := 135 } 2 12 [.ref p0, .int p1, .int p2] S M X r M X := by
  refine zMW.intro (L0 := [(0, .ref p0), (1, .int p1), (2, .int p2)]) hl (by decide) (Nat.le_of_ble_eq_true rfl) rfl (fun Γ C0 => ?_)
  unfold f_L_tryShip at hf
  refine r_aload_n C0 dL_tryShip_0 rfl 0 rfl ?_
  refine r_iload_n C0 dL_tryShip_1 rfl 1 rfl ?_
  refine r_iload_n C0 dL_tryShip_2 rfl 2 rfl ?_
  refine rX_callVp C0 (st := []) (fun v => some (Value.int v)) [.int p1, .int p2] p0 hf vs_131 (fun hl r9 h9 => c_X10_ship hl F p0 p1 p2 hk_p0 M r9 h9) (K_X10_o hk_p0) rfl rfl rfl rfl (Nat.le_of_ble_eq_true rfl) dL_tryShip_3 (zrm_ok rfl) (fun e hf => ?_) (fun v h0 hf => ?_)
  · refine z_ite hf (fun he hf => ?_) (fun hn hf => ?_)
    · subst he
      refine rW_catch C0 [] (0, 6, 7, 28) [(0, 6, 12, 13)] rfl (fun _ h => nomatch h) rfl (by decide) qw_580 qw_581 (fun q => ?_)
      refine r_astore_n (L' := [(3, .ref q), (0, .ref p0), (1, .int p1), (2, .int p2)]) C0 dL_tryShip_7 rfl (by decide) rfl ?_
      refine r_sipush (v := -1001) C0 dL_tryShip_8 (by decide) ?_
      obtain rfl := Option.some.inj hf
      exact rW_iret C0 dL_tryShip_11
    refine z_ite hf (fun he hf => ?_) (fun hn hf => ?_)
    · subst he
      refine rW_catch C0 [(0, 6, 7, 28)] (0, 6, 12, 13) [] rfl (List.forall_mem_cons.mpr ⟨⟨by decide, 3, qw_580, by decide +kernel⟩, (fun _ h => nomatch h)⟩) rfl (by decide) qw_564 qw_565 (fun q => ?_)
      refine r_astore_n (L' := [(3, .ref q), (0, .ref p0), (1, .int p1), (2, .int p2)]) C0 dL_tryShip_12 rfl (by decide) rfl ?_
      refine r_sipush (v := -1002) C0 dL_tryShip_13 (by decide) ?_
      obtain rfl := Option.some.inj hf
      exact rW_iret C0 dL_tryShip_16
    cases hf
  refine r_eqst (st1 := [.int v]) rfl ?_
  obtain rfl := Option.some.inj hf
  exact rW_iret C0 dL_tryShip_6
set_option maxHeartbeats 4000000 in
set_option maxRecDepth 100000 in
theorem c_L_tryWaves {l : Launch} {E : zEn} {S : zSk} {X : zMl} (hl : l.stackTraces = false) (F : Nat) (p0 : Nat) (p1 : Int32) (hk_p0 : K_X10 S p0) (M : zMi) (r : Int32) (hf : f_L_tryWaves F p0 p1 M = some r) : zMW l E yL_tryWaves cL_tryWaves 3 (Option.some Jvm.ClassFile.FieldType.int) [(0, 5, 6, 13)] { frames := 8, cells := 1, slots := 6, locals := 133 } 1 6 [.ref p0, .int p1] S M X r M X := by
  refine zMW.intro (L0 := [(0, .ref p0), (1, .int p1)]) hl (by decide) (Nat.le_of_ble_eq_true rfl) rfl (fun Γ C0 => ?_)
  unfold f_L_tryWaves at hf
  refine r_aload_n C0 dL_tryWaves_0 rfl 0 rfl ?_
  refine r_iload_n C0 dL_tryWaves_1 rfl 1 rfl ?_
  refine rX_callVp C0 (st := []) (fun v => some (Value.int v)) [.int p1] p0 hf vs_132 (fun hl r9 h9 => c_X10_waves hl F p0 p1 hk_p0 M r9 h9) (K_X10_o hk_p0) rfl rfl rfl rfl (Nat.le_of_ble_eq_true rfl) dL_tryWaves_2 (zrm_ok rfl) (fun e hf => ?_) (fun v h0 hf => ?_)
  · refine z_ite hf (fun he hf => ?_) (fun hn hf => ?_)
    · subst he
      refine rW_catch C0 [] (0, 5, 6, 13) [] rfl (fun _ h => nomatch h) rfl (by decide) qw_564 qw_565 (fun q => ?_)
      refine r_astore_n (L' := [(2, .ref q), (0, .ref p0), (1, .int p1)]) C0 dL_tryWaves_6 rfl (by decide) rfl ?_
      refine r_sipush (v := -1002) C0 dL_tryWaves_7 (by decide) ?_
      obtain rfl := Option.some.inj hf
      exact rW_iret C0 dL_tryWaves_10
    cases hf
  refine r_eqst (st1 := [.int v]) rfl ?_
  obtain rfl := Option.some.inj hf
  exact rW_iret C0 dL_tryWaves_5
set_option maxHeartbeats 4000000 in
set_option maxRecDepth 100000 in
theorem c_L_tryAccount {l : Launch} {E : zEn} {S : zSk} {X : zMl} (hl : l.stackTraces = false) (F : Nat) (p0 : Nat) (p1 : Int32) (hk_p0 : K_X10 S p0) (M : zMi) (r : Int32) (hf : f_L_tryAccount F p0 p1 M = some r) : zMW l E yL_tryAccount cL_tryAccount 3 (Option.some Jvm.ClassFile.FieldType.int) [(0, 5, 6, 13)] { frames := 7, cells := 1, slots := 6, locals := 112 } 1 6 [.ref p0, .int p1] S M X r M X := by
  refine zMW.intro (L0 := [(0, .ref p0), (1, .int p1)]) hl (by decide) (Nat.le_of_ble_eq_true rfl) rfl (fun Γ C0 => ?_)
  unfold f_L_tryAccount at hf
  refine r_aload_n C0 dL_tryAccount_0 rfl 0 rfl ?_
  refine r_iload_n C0 dL_tryAccount_1 rfl 1 rfl ?_
  refine rX_callVp C0 (st := []) (fun v => some (Value.int v)) [.int p1] p0 hf vs_133 (fun hl r9 h9 => c_X10_account hl F p0 p1 hk_p0 M r9 h9) (K_X10_o hk_p0) rfl rfl rfl rfl (Nat.le_of_ble_eq_true rfl) dL_tryAccount_2 (zrm_ok rfl) (fun e hf => ?_) (fun v h0 hf => ?_)
  · refine z_ite hf (fun he hf => ?_) (fun hn hf => ?_)
    · subst he
      refine rW_catch C0 [] (0, 5, 6, 13) [] rfl (fun _ h => nomatch h) rfl (by decide) qw_564 qw_565 (fun q => ?_)
      refine r_astore_n (L' := [(2, .ref q), (0, .ref p0), (1, .int p1)]) C0 dL_tryAccount_6 rfl (by decide) rfl ?_
      refine r_sipush (v := -1002) C0 dL_tryAccount_7 (by decide) ?_
      obtain rfl := Option.some.inj hf
      exact rW_iret C0 dL_tryAccount_10
    cases hf
  refine r_eqst (st1 := [.int v]) rfl ?_
  obtain rfl := Option.some.inj hf
  exact rW_iret C0 dL_tryAccount_5
set_option maxHeartbeats 4000000 in
set_option maxRecDepth 100000 in
theorem c_L_tryTake {l : Launch} {E : zEn} {S : zSk} {X : zMl} (hl : l.stackTraces = false) (F : Nat) (p0 : Nat) (p1 : Int32) (p2 : Int32) (hk_p0 : K_X10 S p0) (M : zMi) (r : Int32 × zMi) (hf : f_L_tryTake F p0 p1 p2 M = some r) : zMW l E yL_tryTake cL_tryTake 4 (Option.some Jvm.ClassFile.FieldType.int) [(0, 6, 7, 28), (0, 6, 12, 13), (0, 6, 17, 15)] { frames := 8, cells := 3, slots := 18, locals := 135 } 3 18 [.ref p0, .int p1, .int p2] S M X r.1 r.2 X := by
  refine zMW.intro (L0 := [(0, .ref p0), (1, .int p1), (2, .int p2)]) hl (by decide) (Nat.le_of_ble_eq_true rfl) rfl (fun Γ C0 => ?_)
  unfold f_L_tryTake at hf
  refine r_aload_n C0 dL_tryTake_0 rfl 0 rfl ?_
  refine r_iload_n C0 dL_tryTake_1 rfl 1 rfl ?_
  refine r_iload_n C0 dL_tryTake_2 rfl 2 rfl ?_
  refine rX_callVw C0 (st := []) (fun v => some (Value.int v)) [.int p1, .int p2] p0 hf vs_134 (fun hl r9 h9 => c_X10_take hl F p0 p1 p2 hk_p0 M r9 h9) (K_X10_o hk_p0) rfl rfl rfl rfl (Nat.le_of_ble_eq_true rfl) dL_tryTake_3 (zrm_ok rfl) (fun e M1 hf => ?_) (fun v M1 hf => ?_)
  · refine z_ite hf (fun he hf => ?_) (fun hn hf => ?_)
    · subst he
      refine rW_catch C0 [] (0, 6, 7, 28) [(0, 6, 12, 13), (0, 6, 17, 15)] rfl (fun _ h => nomatch h) rfl (by decide) qw_580 qw_581 (fun q => ?_)
      refine r_astore_n (L' := [(3, .ref q), (0, .ref p0), (1, .int p1), (2, .int p2)]) C0 dL_tryTake_7 rfl (by decide) rfl ?_
      refine r_sipush (v := -1001) C0 dL_tryTake_8 (by decide) ?_
      obtain rfl := Option.some.inj hf
      exact rW_iret C0 dL_tryTake_11
    refine z_ite hf (fun he hf => ?_) (fun hn hf => ?_)
    · subst he
      refine rW_catch C0 [(0, 6, 7, 28)] (0, 6, 12, 13) [(0, 6, 17, 15)] rfl (List.forall_mem_cons.mpr ⟨⟨by decide, 3, qw_580, by decide +kernel⟩, (fun _ h => nomatch h)⟩) rfl (by decide) qw_564 qw_565 (fun q => ?_)
      refine r_astore_n (L' := [(3, .ref q), (0, .ref p0), (1, .int p1), (2, .int p2)]) C0 dL_tryTake_12 rfl (by decide) rfl ?_
      refine r_sipush (v := -1002) C0 dL_tryTake_13 (by decide) ?_
      obtain rfl := Option.some.inj hf
      exact rW_iret C0 dL_tryTake_16
    refine z_ite hf (fun he hf => ?_) (fun hn hf => ?_)
    · subst he
      refine rW_catch C0 [(0, 6, 7, 28), (0, 6, 12, 13)] (0, 6, 17, 15) [] rfl (List.forall_mem_cons.mpr ⟨⟨by decide, 3, qw_580, by decide +kernel⟩, (List.forall_mem_cons.mpr ⟨⟨by decide, 1, qw_564, by decide +kernel⟩, (fun _ h => nomatch h)⟩)⟩) rfl (by decide) qw_566 qw_567 (fun q => ?_)
      refine r_astore_n (L' := [(3, .ref q), (0, .ref p0), (1, .int p1), (2, .int p2)]) C0 dL_tryTake_17 rfl (by decide) rfl ?_
      refine r_sipush (v := -1003) C0 dL_tryTake_18 (by decide) ?_
      obtain rfl := Option.some.inj hf
      exact rW_iret C0 dL_tryTake_21
    cases hf
  refine r_eqst (st1 := [.int v]) rfl ?_
  obtain rfl := Option.some.inj hf
  exact rW_iret C0 dL_tryTake_6
set_option maxHeartbeats 4000000 in
set_option maxRecDepth 100000 in
theorem c_L_trySend {l : Launch} {E : zEn} {S : zSk} {X : zMl} (hl : l.stackTraces = false) (F : Nat) (p0 : Nat) (p1 : Int32) (hk_p0 : K_X10 S p0) (M : zMi) (r : Int32 × zMi) (hf : f_L_trySend F p0 p1 M = some r) : zMW l E yL_trySend cL_trySend 3 (Option.some Jvm.ClassFile.FieldType.int) [(0, 5, 6, 28), (0, 5, 11, 15)] { frames := 8, cells := 2, slots := 12, locals := 134 } 2 12 [.ref p0, .int p1] S M X r.1 r.2 X := by
  refine zMW.intro (L0 := [(0, .ref p0), (1, .int p1)]) hl (by decide) (Nat.le_of_ble_eq_true rfl) rfl (fun Γ C0 => ?_)
  unfold f_L_trySend at hf
  refine r_aload_n C0 dL_trySend_0 rfl 0 rfl ?_
  refine r_iload_n C0 dL_trySend_1 rfl 1 rfl ?_
  refine rX_callVw C0 (st := []) (fun v => some (Value.int v)) [.int p1] p0 hf vs_135 (fun hl r9 h9 => c_X10_send hl F p0 p1 hk_p0 M r9 h9) (K_X10_o hk_p0) rfl rfl rfl rfl (Nat.le_of_ble_eq_true rfl) dL_trySend_2 (zrm_ok rfl) (fun e M1 hf => ?_) (fun v M1 hf => ?_)
  · refine z_ite hf (fun he hf => ?_) (fun hn hf => ?_)
    · subst he
      refine rW_catch C0 [] (0, 5, 6, 28) [(0, 5, 11, 15)] rfl (fun _ h => nomatch h) rfl (by decide) qw_580 qw_581 (fun q => ?_)
      refine r_astore_n (L' := [(2, .ref q), (0, .ref p0), (1, .int p1)]) C0 dL_trySend_6 rfl (by decide) rfl ?_
      refine r_sipush (v := -1001) C0 dL_trySend_7 (by decide) ?_
      obtain rfl := Option.some.inj hf
      exact rW_iret C0 dL_trySend_10
    refine z_ite hf (fun he hf => ?_) (fun hn hf => ?_)
    · subst he
      refine rW_catch C0 [(0, 5, 6, 28)] (0, 5, 11, 15) [] rfl (List.forall_mem_cons.mpr ⟨⟨by decide, 3, qw_580, by decide +kernel⟩, (fun _ h => nomatch h)⟩) rfl (by decide) qw_566 qw_567 (fun q => ?_)
      refine r_astore_n (L' := [(2, .ref q), (0, .ref p0), (1, .int p1)]) C0 dL_trySend_11 rfl (by decide) rfl ?_
      refine r_sipush (v := -1003) C0 dL_trySend_12 (by decide) ?_
      obtain rfl := Option.some.inj hf
      exact rW_iret C0 dL_trySend_15
    cases hf
  refine r_eqst (st1 := [.int v]) rfl ?_
  obtain rfl := Option.some.inj hf
  exact rW_iret C0 dL_trySend_5
set_option maxHeartbeats 4000000 in
set_option maxRecDepth 100000 in
theorem c_L_tryRecall {l : Launch} {E : zEn} {S : zSk} {X : zMl} (hl : l.stackTraces = false) (F : Nat) (p0 : Nat) (p1 : Int32) (hk_p0 : K_X10 S p0) (M : zMi) (r : Int32 × zMi) (hf : f_L_tryRecall F p0 p1 M = some r) : zMW l E yL_tryRecall cL_tryRecall 3 (Option.some Jvm.ClassFile.FieldType.int) [(0, 5, 6, 28), (0, 5, 11, 15)] { frames := 8, cells := 2, slots := 12, locals := 134 } 2 12 [.ref p0, .int p1] S M X r.1 r.2 X := by
  refine zMW.intro (L0 := [(0, .ref p0), (1, .int p1)]) hl (by decide) (Nat.le_of_ble_eq_true rfl) rfl (fun Γ C0 => ?_)
  unfold f_L_tryRecall at hf
  refine r_aload_n C0 dL_tryRecall_0 rfl 0 rfl ?_
  refine r_iload_n C0 dL_tryRecall_1 rfl 1 rfl ?_
  refine rX_callVw C0 (st := []) (fun v => some (Value.int v)) [.int p1] p0 hf vs_136 (fun hl r9 h9 => c_X10_recall hl F p0 p1 hk_p0 M r9 h9) (K_X10_o hk_p0) rfl rfl rfl rfl (Nat.le_of_ble_eq_true rfl) dL_tryRecall_2 (zrm_ok rfl) (fun e M1 hf => ?_) (fun v M1 hf => ?_)
  · refine z_ite hf (fun he hf => ?_) (fun hn hf => ?_)
    · subst he
      refine rW_catch C0 [] (0, 5, 6, 28) [(0, 5, 11, 15)] rfl (fun _ h => nomatch h) rfl (by decide) qw_580 qw_581 (fun q => ?_)
      refine r_astore_n (L' := [(2, .ref q), (0, .ref p0), (1, .int p1)]) C0 dL_tryRecall_6 rfl (by decide) rfl ?_
      refine r_sipush (v := -1001) C0 dL_tryRecall_7 (by decide) ?_
      obtain rfl := Option.some.inj hf
      exact rW_iret C0 dL_tryRecall_10
    refine z_ite hf (fun he hf => ?_) (fun hn hf => ?_)
    · subst he
      refine rW_catch C0 [(0, 5, 6, 28)] (0, 5, 11, 15) [] rfl (List.forall_mem_cons.mpr ⟨⟨by decide, 3, qw_580, by decide +kernel⟩, (fun _ h => nomatch h)⟩) rfl (by decide) qw_566 qw_567 (fun q => ?_)
      refine r_astore_n (L' := [(2, .ref q), (0, .ref p0), (1, .int p1)]) C0 dL_tryRecall_11 rfl (by decide) rfl ?_
      refine r_sipush (v := -1003) C0 dL_tryRecall_12 (by decide) ?_
      obtain rfl := Option.some.inj hf
      exact rW_iret C0 dL_tryRecall_15
    cases hf
  refine r_eqst (st1 := [.int v]) rfl ?_
  obtain rfl := Option.some.inj hf
  exact rW_iret C0 dL_tryRecall_5
set_option maxHeartbeats 4000000 in
set_option maxRecDepth 100000 in
theorem c_L_tryExtend {l : Launch} {E : zEn} {S : zSk} {X : zMl} (hl : l.stackTraces = false) (F : Nat) (p0 : Nat) (p1 : Int32) (p2 : Int32) (hk_p0 : K_X10 S p0) (M : zMi) (r : Int32 × zMi) (hf : f_L_tryExtend F p0 p1 p2 M = some r) : zMW l E yL_tryExtend cL_tryExtend 4 (Option.some Jvm.ClassFile.FieldType.int) [(0, 6, 7, 28), (0, 6, 12, 13), (0, 6, 17, 15)] { frames := 8, cells := 3, slots := 18, locals := 135 } 3 18 [.ref p0, .int p1, .int p2] S M X r.1 r.2 X := by
  refine zMW.intro (L0 := [(0, .ref p0), (1, .int p1), (2, .int p2)]) hl (by decide) (Nat.le_of_ble_eq_true rfl) rfl (fun Γ C0 => ?_)
  unfold f_L_tryExtend at hf
  refine r_aload_n C0 dL_tryExtend_0 rfl 0 rfl ?_
  refine r_iload_n C0 dL_tryExtend_1 rfl 1 rfl ?_
  refine r_iload_n C0 dL_tryExtend_2 rfl 2 rfl ?_
  refine rX_callVw C0 (st := []) (fun v => some (Value.int v)) [.int p1, .int p2] p0 hf vs_137 (fun hl r9 h9 => c_X10_extend hl F p0 p1 p2 hk_p0 M r9 h9) (K_X10_o hk_p0) rfl rfl rfl rfl (Nat.le_of_ble_eq_true rfl) dL_tryExtend_3 (zrm_ok rfl) (fun e M1 hf => ?_) (fun v M1 hf => ?_)
  · refine z_ite hf (fun he hf => ?_) (fun hn hf => ?_)
    · subst he
      refine rW_catch C0 [] (0, 6, 7, 28) [(0, 6, 12, 13), (0, 6, 17, 15)] rfl (fun _ h => nomatch h) rfl (by decide) qw_580 qw_581 (fun q => ?_)
      refine r_astore_n (L' := [(3, .ref q), (0, .ref p0), (1, .int p1), (2, .int p2)]) C0 dL_tryExtend_7 rfl (by decide) rfl ?_
      refine r_sipush (v := -1001) C0 dL_tryExtend_8 (by decide) ?_
      obtain rfl := Option.some.inj hf
      exact rW_iret C0 dL_tryExtend_11
    refine z_ite hf (fun he hf => ?_) (fun hn hf => ?_)
    · subst he
      refine rW_catch C0 [(0, 6, 7, 28)] (0, 6, 12, 13) [(0, 6, 17, 15)] rfl (List.forall_mem_cons.mpr ⟨⟨by decide, 3, qw_580, by decide +kernel⟩, (fun _ h => nomatch h)⟩) rfl (by decide) qw_564 qw_565 (fun q => ?_)
      refine r_astore_n (L' := [(3, .ref q), (0, .ref p0), (1, .int p1), (2, .int p2)]) C0 dL_tryExtend_12 rfl (by decide) rfl ?_
      refine r_sipush (v := -1002) C0 dL_tryExtend_13 (by decide) ?_
      obtain rfl := Option.some.inj hf
      exact rW_iret C0 dL_tryExtend_16
    refine z_ite hf (fun he hf => ?_) (fun hn hf => ?_)
    · subst he
      refine rW_catch C0 [(0, 6, 7, 28), (0, 6, 12, 13)] (0, 6, 17, 15) [] rfl (List.forall_mem_cons.mpr ⟨⟨by decide, 3, qw_580, by decide +kernel⟩, (List.forall_mem_cons.mpr ⟨⟨by decide, 1, qw_564, by decide +kernel⟩, (fun _ h => nomatch h)⟩)⟩) rfl (by decide) qw_566 qw_567 (fun q => ?_)
      refine r_astore_n (L' := [(3, .ref q), (0, .ref p0), (1, .int p1), (2, .int p2)]) C0 dL_tryExtend_17 rfl (by decide) rfl ?_
      refine r_sipush (v := -1003) C0 dL_tryExtend_18 (by decide) ?_
      obtain rfl := Option.some.inj hf
      exact rW_iret C0 dL_tryExtend_21
    cases hf
  refine r_eqst (st1 := [.int v]) rfl ?_
  obtain rfl := Option.some.inj hf
  exact rW_iret C0 dL_tryExtend_6
set_option maxHeartbeats 4000000 in
set_option maxRecDepth 100000 in
theorem c_L_tryBuy {l : Launch} {E : zEn} {S : zSk} {X : zMl} (hl : l.stackTraces = false) (F : Nat) (p0 : Nat) (p1 : Int32) (hk_p0 : K_X10 S p0) (M : zMi) (r : Int32 × zMi) (hf : f_L_tryBuy F p0 p1 M = some r) : zMW l E yL_tryBuy cL_tryBuy 3 (Option.some Jvm.ClassFile.FieldType.int) [(0, 5, 6, 13), (0, 5, 11, 15)] { frames := 8, cells := 2, slots := 12, locals := 133 } 2 12 [.ref p0, .int p1] S M X r.1 r.2 X := by
  refine zMW.intro (L0 := [(0, .ref p0), (1, .int p1)]) hl (by decide) (Nat.le_of_ble_eq_true rfl) rfl (fun Γ C0 => ?_)
  unfold f_L_tryBuy at hf
  refine r_aload_n C0 dL_tryBuy_0 rfl 0 rfl ?_
  refine r_iload_n C0 dL_tryBuy_1 rfl 1 rfl ?_
  refine rX_callVw C0 (st := []) (fun v => some (Value.int v)) [.int p1] p0 hf vs_138 (fun hl r9 h9 => c_X10_buy hl F p0 p1 hk_p0 M r9 h9) (K_X10_o hk_p0) rfl rfl rfl rfl (Nat.le_of_ble_eq_true rfl) dL_tryBuy_2 (zrm_ok rfl) (fun e M1 hf => ?_) (fun v M1 hf => ?_)
  · refine z_ite hf (fun he hf => ?_) (fun hn hf => ?_)
    · subst he
      refine rW_catch C0 [] (0, 5, 6, 13) [(0, 5, 11, 15)] rfl (fun _ h => nomatch h) rfl (by decide) qw_564 qw_565 (fun q => ?_)
      refine r_astore_n (L' := [(2, .ref q), (0, .ref p0), (1, .int p1)]) C0 dL_tryBuy_6 rfl (by decide) rfl ?_
      refine r_sipush (v := -1002) C0 dL_tryBuy_7 (by decide) ?_
      obtain rfl := Option.some.inj hf
      exact rW_iret C0 dL_tryBuy_10
    refine z_ite hf (fun he hf => ?_) (fun hn hf => ?_)
    · subst he
      refine rW_catch C0 [(0, 5, 6, 13)] (0, 5, 11, 15) [] rfl (List.forall_mem_cons.mpr ⟨⟨by decide, 1, qw_564, by decide +kernel⟩, (fun _ h => nomatch h)⟩) rfl (by decide) qw_566 qw_567 (fun q => ?_)
      refine r_astore_n (L' := [(2, .ref q), (0, .ref p0), (1, .int p1)]) C0 dL_tryBuy_11 rfl (by decide) rfl ?_
      refine r_sipush (v := -1003) C0 dL_tryBuy_12 (by decide) ?_
      obtain rfl := Option.some.inj hf
      exact rW_iret C0 dL_tryBuy_15
    cases hf
  refine r_eqst (st1 := [.int v]) rfl ?_
  obtain rfl := Option.some.inj hf
  exact rW_iret C0 dL_tryBuy_5
set_option maxHeartbeats 4000000 in
set_option maxRecDepth 100000 in
theorem c_L_trySetWaves {l : Launch} {E : zEn} {S : zSk} {X : zMl} (hl : l.stackTraces = false) (F : Nat) (p0 : Nat) (p1 : Int32) (p2 : Int32) (hk_p0 : K_X10 S p0) (M : zMi) (r : Int32 × zMi) (hf : f_L_trySetWaves F p0 p1 p2 M = some r) : zMW l E yL_trySetWaves cL_trySetWaves 4 (Option.some Jvm.ClassFile.FieldType.int) [(0, 6, 7, 13)] { frames := 8, cells := 2, slots := 12, locals := 134 } 2 12 [.ref p0, .int p1, .int p2] S M X r.1 r.2 X := by
  refine zMW.intro (L0 := [(0, .ref p0), (1, .int p1), (2, .int p2)]) hl (by decide) (Nat.le_of_ble_eq_true rfl) rfl (fun Γ C0 => ?_)
  unfold f_L_trySetWaves at hf
  refine r_aload_n C0 dL_trySetWaves_0 rfl 0 rfl ?_
  refine r_iload_n C0 dL_trySetWaves_1 rfl 1 rfl ?_
  refine r_iload_n C0 dL_trySetWaves_2 rfl 2 rfl ?_
  refine rX_callVw C0 (st := []) (fun v => some (Value.int v)) [.int p1, .int p2] p0 hf vs_139 (fun hl r9 h9 => c_X10_setWaves hl F p0 p1 p2 hk_p0 M r9 h9) (K_X10_o hk_p0) rfl rfl rfl rfl (Nat.le_of_ble_eq_true rfl) dL_trySetWaves_3 (zrm_ok rfl) (fun e M1 hf => ?_) (fun v M1 hf => ?_)
  · refine z_ite hf (fun he hf => ?_) (fun hn hf => ?_)
    · subst he
      refine rW_catch C0 [] (0, 6, 7, 13) [] rfl (fun _ h => nomatch h) rfl (by decide) qw_564 qw_565 (fun q => ?_)
      refine r_astore_n (L' := [(3, .ref q), (0, .ref p0), (1, .int p1), (2, .int p2)]) C0 dL_trySetWaves_7 rfl (by decide) rfl ?_
      refine r_sipush (v := -1002) C0 dL_trySetWaves_8 (by decide) ?_
      obtain rfl := Option.some.inj hf
      exact rW_iret C0 dL_trySetWaves_11
    cases hf
  refine r_eqst (st1 := [.int v]) rfl ?_
  obtain rfl := Option.some.inj hf
  exact rW_iret C0 dL_trySetWaves_6
set_option maxHeartbeats 4000000 in
set_option maxRecDepth 100000 in
theorem c_L_tryPass {l : Launch} {E : zEn} {S : zSk} {X : zMl} (hl : l.stackTraces = false) (F : Nat) (p0 : Nat) (p1 : Int32) (hk_p0 : K_X10 S p0) (M : zMi) (r : Int32 × zMi) (hf : f_L_tryPass F p0 p1 M = some r) : zMW l E yL_tryPass cL_tryPass 3 (Option.some Jvm.ClassFile.FieldType.int) [(0, 5, 6, 13)] { frames := 8, cells := 1, slots := 6, locals := 158 } 1 6 [.ref p0, .int p1] S M X r.1 r.2 X := by
  refine zMW.intro (L0 := [(0, .ref p0), (1, .int p1)]) hl (by decide) (Nat.le_of_ble_eq_true rfl) rfl (fun Γ C0 => ?_)
  unfold f_L_tryPass at hf
  refine r_aload_n C0 dL_tryPass_0 rfl 0 rfl ?_
  refine r_iload_n C0 dL_tryPass_1 rfl 1 rfl ?_
  refine rX_callVw C0 (st := []) (fun v => some (Value.int v)) [.int p1] p0 hf vs_140 (fun hl r9 h9 => c_X10_pass hl F p0 p1 hk_p0 M r9 h9) (K_X10_o hk_p0) rfl rfl rfl rfl (Nat.le_of_ble_eq_true rfl) dL_tryPass_2 (zrm_ok rfl) (fun e M1 hf => ?_) (fun v M1 hf => ?_)
  · refine z_ite hf (fun he hf => ?_) (fun hn hf => ?_)
    · subst he
      refine rW_catch C0 [] (0, 5, 6, 13) [] rfl (fun _ h => nomatch h) rfl (by decide) qw_564 qw_565 (fun q => ?_)
      refine r_astore_n (L' := [(2, .ref q), (0, .ref p0), (1, .int p1)]) C0 dL_tryPass_6 rfl (by decide) rfl ?_
      refine r_sipush (v := -1002) C0 dL_tryPass_7 (by decide) ?_
      obtain rfl := Option.some.inj hf
      exact rW_iret C0 dL_tryPass_10
    cases hf
  refine r_eqst (st1 := [.int v]) rfl ?_
  obtain rfl := Option.some.inj hf
  exact rW_iret C0 dL_tryPass_5
set_option maxHeartbeats 4000000 in
set_option maxRecDepth 100000 in
theorem c_L_tryUndo {l : Launch} {E : zEn} {S : zSk} {X : zMl} (hl : l.stackTraces = false) (F : Nat) (p0 : Nat) (hk_p0 : K_X10 S p0) (M : zMi) (r : Int32 × zMi) (hf : f_L_tryUndo F p0 M = some r) : zMW l E yL_tryUndo cL_tryUndo 2 (Option.some Jvm.ClassFile.FieldType.int) [(0, 4, 5, 15)] { frames := 8, cells := 1, slots := 6, locals := 130 } 1 6 [.ref p0] S M X r.1 r.2 X := by
  refine zMW.intro (L0 := [(0, .ref p0)]) hl (by decide) (Nat.le_of_ble_eq_true rfl) rfl (fun Γ C0 => ?_)
  unfold f_L_tryUndo at hf
  refine r_aload_n C0 dL_tryUndo_0 rfl 0 rfl ?_
  refine rX_callVw C0 (st := []) (fun v => some (Value.int v)) [] p0 hf vs_141 (fun hl r9 h9 => c_X10_undo hl F p0 hk_p0 M r9 h9) (K_X10_o hk_p0) rfl rfl rfl rfl (Nat.le_of_ble_eq_true rfl) dL_tryUndo_1 (zrm_ok rfl) (fun e M1 hf => ?_) (fun v M1 hf => ?_)
  · refine z_ite hf (fun he hf => ?_) (fun hn hf => ?_)
    · subst he
      refine rW_catch C0 [] (0, 4, 5, 15) [] rfl (fun _ h => nomatch h) rfl (by decide) qw_566 qw_567 (fun q => ?_)
      refine r_astore_n (L' := [(1, .ref q), (0, .ref p0)]) C0 dL_tryUndo_5 rfl (by decide) rfl ?_
      refine r_sipush (v := -1003) C0 dL_tryUndo_6 (by decide) ?_
      obtain rfl := Option.some.inj hf
      exact rW_iret C0 dL_tryUndo_9
    cases hf
  refine r_eqst (st1 := [.int v]) rfl ?_
  obtain rfl := Option.some.inj hf
  exact rW_iret C0 dL_tryUndo_4
set_option maxHeartbeats 4000000 in
set_option maxRecDepth 100000 in
theorem c_L_tryNeeds {l : Launch} {E : zEn} {S : zSk} {X : zMl} (hl : l.stackTraces = false) (F : Nat) (p0 : Nat) (p1 : Int32) (p2 : Int32) (hk_p0 : K_X10 S p0) (M : zMi) (r : Int32) (hf : f_L_tryNeeds F p0 p1 p2 M = some r) : zMW l E yL_tryNeeds cL_tryNeeds 4 (Option.some Jvm.ClassFile.FieldType.int) [(0, 6, 7, 28), (0, 6, 12, 13)] { frames := 8, cells := 2, slots := 12, locals := 135 } 2 12 [.ref p0, .int p1, .int p2] S M X r M X := by
  refine zMW.intro (L0 := [(0, .ref p0), (1, .int p1), (2, .int p2)]) hl (by decide) (Nat.le_of_ble_eq_true rfl) rfl (fun Γ C0 => ?_)
  unfold f_L_tryNeeds at hf
  refine r_aload_n C0 dL_tryNeeds_0 rfl 0 rfl ?_
  refine r_iload_n C0 dL_tryNeeds_1 rfl 1 rfl ?_
  refine r_iload_n C0 dL_tryNeeds_2 rfl 2 rfl ?_
  refine rX_callVp C0 (st := []) (fun v => some (Value.int v)) [.int p1, .int p2] p0 hf vs_142 (fun hl r9 h9 => c_X10_needs hl F p0 p1 p2 hk_p0 M r9 h9) (K_X10_o hk_p0) rfl rfl rfl rfl (Nat.le_of_ble_eq_true rfl) dL_tryNeeds_3 (zrm_ok rfl) (fun e hf => ?_) (fun v h0 hf => ?_)
  · refine z_ite hf (fun he hf => ?_) (fun hn hf => ?_)
    · subst he
      refine rW_catch C0 [] (0, 6, 7, 28) [(0, 6, 12, 13)] rfl (fun _ h => nomatch h) rfl (by decide) qw_580 qw_581 (fun q => ?_)
      refine r_astore_n (L' := [(3, .ref q), (0, .ref p0), (1, .int p1), (2, .int p2)]) C0 dL_tryNeeds_7 rfl (by decide) rfl ?_
      refine r_sipush (v := -1001) C0 dL_tryNeeds_8 (by decide) ?_
      obtain rfl := Option.some.inj hf
      exact rW_iret C0 dL_tryNeeds_11
    refine z_ite hf (fun he hf => ?_) (fun hn hf => ?_)
    · subst he
      refine rW_catch C0 [(0, 6, 7, 28)] (0, 6, 12, 13) [] rfl (List.forall_mem_cons.mpr ⟨⟨by decide, 3, qw_580, by decide +kernel⟩, (fun _ h => nomatch h)⟩) rfl (by decide) qw_564 qw_565 (fun q => ?_)
      refine r_astore_n (L' := [(3, .ref q), (0, .ref p0), (1, .int p1), (2, .int p2)]) C0 dL_tryNeeds_12 rfl (by decide) rfl ?_
      refine r_sipush (v := -1002) C0 dL_tryNeeds_13 (by decide) ?_
      obtain rfl := Option.some.inj hf
      exact rW_iret C0 dL_tryNeeds_16
    cases hf
  refine r_eqst (st1 := [.int v]) rfl ?_
  obtain rfl := Option.some.inj hf
  exact rW_iret C0 dL_tryNeeds_6
set_option maxHeartbeats 4000000 in
set_option maxRecDepth 100000 in
theorem c_L_tryReach {l : Launch} {E : zEn} {S : zSk} {X : zMl} (hl : l.stackTraces = false) (F : Nat) (p0 : Nat) (p1 : Int32) (p2 : Int32) (hk_p0 : K_X10 S p0) (M : zMi) (r : Int32) (hf : f_L_tryReach F p0 p1 p2 M = some r) : zMW l E yL_tryReach cL_tryReach 4 (Option.some Jvm.ClassFile.FieldType.int) [(0, 6, 7, 28)] { frames := 8, cells := 2, slots := 12, locals := 136 } 2 12 [.ref p0, .int p1, .int p2] S M X r M X := by
  refine zMW.intro (L0 := [(0, .ref p0), (1, .int p1), (2, .int p2)]) hl (by decide) (Nat.le_of_ble_eq_true rfl) rfl (fun Γ C0 => ?_)
  unfold f_L_tryReach at hf
  refine r_aload_n C0 dL_tryReach_0 rfl 0 rfl ?_
  refine r_iload_n C0 dL_tryReach_1 rfl 1 rfl ?_
  refine r_iload_n C0 dL_tryReach_2 rfl 2 rfl ?_
  refine rX_callVp C0 (st := []) (fun v => some (Value.int v)) [.int p1, .int p2] p0 hf vs_143 (fun hl r9 h9 => c_X10_reach hl F p0 p1 p2 hk_p0 M r9 h9) (K_X10_o hk_p0) rfl rfl rfl rfl (Nat.le_of_ble_eq_true rfl) dL_tryReach_3 (zrm_ok rfl) (fun e hf => ?_) (fun v h0 hf => ?_)
  · refine z_ite hf (fun he hf => ?_) (fun hn hf => ?_)
    · subst he
      refine rW_catch C0 [] (0, 6, 7, 28) [] rfl (fun _ h => nomatch h) rfl (by decide) qw_580 qw_581 (fun q => ?_)
      refine r_astore_n (L' := [(3, .ref q), (0, .ref p0), (1, .int p1), (2, .int p2)]) C0 dL_tryReach_7 rfl (by decide) rfl ?_
      refine r_sipush (v := -1001) C0 dL_tryReach_8 (by decide) ?_
      obtain rfl := Option.some.inj hf
      exact rW_iret C0 dL_tryReach_11
    cases hf
  refine r_eqst (st1 := [.int v]) rfl ?_
  obtain rfl := Option.some.inj hf
  exact rW_iret C0 dL_tryReach_6
set_option maxHeartbeats 4000000 in
set_option maxRecDepth 100000 in
theorem c_L_tryCalmDays {l : Launch} {E : zEn} {S : zSk} {X : zMl} (hl : l.stackTraces = false) (F : Nat) (p0 : Nat) (p1 : Int32) (p2 : Int32) (hk_p0 : K_X10 S p0) (M : zMi) (r : Int32) (hf : f_L_tryCalmDays F p0 p1 p2 M = some r) : zMW l E yL_tryCalmDays cL_tryCalmDays 4 (Option.some Jvm.ClassFile.FieldType.int) [(0, 6, 7, 28)] { frames := 8, cells := 2, slots := 12, locals := 138 } 2 12 [.ref p0, .int p1, .int p2] S M X r M X := by
  refine zMW.intro (L0 := [(0, .ref p0), (1, .int p1), (2, .int p2)]) hl (by decide) (Nat.le_of_ble_eq_true rfl) rfl (fun Γ C0 => ?_)
  unfold f_L_tryCalmDays at hf
  refine r_aload_n C0 dL_tryCalmDays_0 rfl 0 rfl ?_
  refine r_iload_n C0 dL_tryCalmDays_1 rfl 1 rfl ?_
  refine r_iload_n C0 dL_tryCalmDays_2 rfl 2 rfl ?_
  refine rX_callVp C0 (st := []) (fun v => some (Value.int v)) [.int p1, .int p2] p0 hf vs_144 (fun hl r9 h9 => c_X10_calmDays hl F p0 p1 p2 hk_p0 M r9 h9) (K_X10_o hk_p0) rfl rfl rfl rfl (Nat.le_of_ble_eq_true rfl) dL_tryCalmDays_3 (zrm_ok rfl) (fun e hf => ?_) (fun v h0 hf => ?_)
  · refine z_ite hf (fun he hf => ?_) (fun hn hf => ?_)
    · subst he
      refine rW_catch C0 [] (0, 6, 7, 28) [] rfl (fun _ h => nomatch h) rfl (by decide) qw_580 qw_581 (fun q => ?_)
      refine r_astore_n (L' := [(3, .ref q), (0, .ref p0), (1, .int p1), (2, .int p2)]) C0 dL_tryCalmDays_7 rfl (by decide) rfl ?_
      refine r_sipush (v := -1001) C0 dL_tryCalmDays_8 (by decide) ?_
      obtain rfl := Option.some.inj hf
      exact rW_iret C0 dL_tryCalmDays_11
    cases hf
  refine r_eqst (st1 := [.int v]) rfl ?_
  obtain rfl := Option.some.inj hf
  exact rW_iret C0 dL_tryCalmDays_6
set_option maxHeartbeats 4000000 in
set_option maxRecDepth 100000 in
theorem c_L_tryAhead {l : Launch} {E : zEn} {S : zSk} {X : zMl} (hl : l.stackTraces = false) (F : Nat) (p0 : Nat) (p1 : Int32) (p2 : Int32) (hk_p0 : K_X10 S p0) (M : zMi) (r : Int32 × zMi) (hf : f_L_tryAhead F p0 p1 p2 M = some r) : zMW l E yL_tryAhead cL_tryAhead 4 (Option.some Jvm.ClassFile.FieldType.int) [(0, 6, 7, 13)] { frames := 8, cells := 2, slots := 12, locals := 158 } 2 12 [.ref p0, .int p1, .int p2] S M X r.1 r.2 X := by
  refine zMW.intro (L0 := [(0, .ref p0), (1, .int p1), (2, .int p2)]) hl (by decide) (Nat.le_of_ble_eq_true rfl) rfl (fun Γ C0 => ?_)
  unfold f_L_tryAhead at hf
  refine r_aload_n C0 dL_tryAhead_0 rfl 0 rfl ?_
  refine r_iload_n C0 dL_tryAhead_1 rfl 1 rfl ?_
  refine r_iload_n C0 dL_tryAhead_2 rfl 2 rfl ?_
  refine rX_callVw C0 (st := []) (fun v => some (Value.int v)) [.int p1, .int p2] p0 hf vs_145 (fun hl r9 h9 => c_X10_ahead hl F p0 p1 p2 hk_p0 M r9 h9) (K_X10_o hk_p0) rfl rfl rfl rfl (Nat.le_of_ble_eq_true rfl) dL_tryAhead_3 (zrm_ok rfl) (fun e M1 hf => ?_) (fun v M1 hf => ?_)
  · refine z_ite hf (fun he hf => ?_) (fun hn hf => ?_)
    · subst he
      refine rW_catch C0 [] (0, 6, 7, 13) [] rfl (fun _ h => nomatch h) rfl (by decide) qw_564 qw_565 (fun q => ?_)
      refine r_astore_n (L' := [(3, .ref q), (0, .ref p0), (1, .int p1), (2, .int p2)]) C0 dL_tryAhead_7 rfl (by decide) rfl ?_
      refine r_sipush (v := -1002) C0 dL_tryAhead_8 (by decide) ?_
      obtain rfl := Option.some.inj hf
      exact rW_iret C0 dL_tryAhead_11
    cases hf
  refine r_eqst (st1 := [.int v]) rfl ?_
  obtain rfl := Option.some.inj hf
  exact rW_iret C0 dL_tryAhead_6
set_option maxHeartbeats 4000000 in
set_option maxRecDepth 100000 in
theorem c_L_tryDoneAfter {l : Launch} {E : zEn} {S : zSk} {X : zMl} (hl : l.stackTraces = false) (F : Nat) (p0 : Nat) (p1 : Int32) (hk_p0 : K_X10 S p0) (M : zMi) (r : Int32 × zMi) (hf : f_L_tryDoneAfter F p0 p1 M = some r) : zMW l E yL_tryDoneAfter cL_tryDoneAfter 3 (Option.some Jvm.ClassFile.FieldType.int) [(0, 5, 6, 28)] { frames := 8, cells := 1, slots := 6, locals := 157 } 1 6 [.ref p0, .int p1] S M X r.1 r.2 X := by
  refine zMW.intro (L0 := [(0, .ref p0), (1, .int p1)]) hl (by decide) (Nat.le_of_ble_eq_true rfl) rfl (fun Γ C0 => ?_)
  unfold f_L_tryDoneAfter at hf
  refine r_aload_n C0 dL_tryDoneAfter_0 rfl 0 rfl ?_
  refine r_iload_n C0 dL_tryDoneAfter_1 rfl 1 rfl ?_
  refine rX_callVw C0 (st := []) (fun v => some (Value.int v)) [.int p1] p0 hf vs_146 (fun hl r9 h9 => c_X10_doneAfter hl F p0 p1 hk_p0 M r9 h9) (K_X10_o hk_p0) rfl rfl rfl rfl (Nat.le_of_ble_eq_true rfl) dL_tryDoneAfter_2 (zrm_ok rfl) (fun e M1 hf => ?_) (fun v M1 hf => ?_)
  · refine z_ite hf (fun he hf => ?_) (fun hn hf => ?_)
    · subst he
      refine rW_catch C0 [] (0, 5, 6, 28) [] rfl (fun _ h => nomatch h) rfl (by decide) qw_580 qw_581 (fun q => ?_)
      refine r_astore_n (L' := [(2, .ref q), (0, .ref p0), (1, .int p1)]) C0 dL_tryDoneAfter_6 rfl (by decide) rfl ?_
      refine r_sipush (v := -1001) C0 dL_tryDoneAfter_7 (by decide) ?_
      obtain rfl := Option.some.inj hf
      exact rW_iret C0 dL_tryDoneAfter_10
    cases hf
  refine r_eqst (st1 := [.int v]) rfl ?_
  obtain rfl := Option.some.inj hf
  exact rW_iret C0 dL_tryDoneAfter_5
set_option maxHeartbeats 4000000 in
set_option maxRecDepth 100000 in
theorem c_L_tryExtension {l : Launch} {E : zEn} {S : zSk} {X : zMl} (hl : l.stackTraces = false) (F : Nat) (p0 : Nat) (p1 : Int32) (hk_p0 : K_X10 S p0) (M : zMi) (r : Int32 × zMi) (hf : f_L_tryExtension F p0 p1 M = some r) : zMW l E yL_tryExtension cL_tryExtension 3 (Option.some Jvm.ClassFile.FieldType.int) [(0, 5, 6, 28)] { frames := 8, cells := 1, slots := 6, locals := 160 } 1 6 [.ref p0, .int p1] S M X r.1 r.2 X := by
  refine zMW.intro (L0 := [(0, .ref p0), (1, .int p1)]) hl (by decide) (Nat.le_of_ble_eq_true rfl) rfl (fun Γ C0 => ?_)
  unfold f_L_tryExtension at hf
  refine r_aload_n C0 dL_tryExtension_0 rfl 0 rfl ?_
  refine r_iload_n C0 dL_tryExtension_1 rfl 1 rfl ?_
  refine rX_callVw C0 (st := []) (fun v => some (Value.int v)) [.int p1] p0 hf vs_147 (fun hl r9 h9 => c_X10_extension hl F p0 p1 hk_p0 M r9 h9) (K_X10_o hk_p0) rfl rfl rfl rfl (Nat.le_of_ble_eq_true rfl) dL_tryExtension_2 (zrm_ok rfl) (fun e M1 hf => ?_) (fun v M1 hf => ?_)
  · refine z_ite hf (fun he hf => ?_) (fun hn hf => ?_)
    · subst he
      refine rW_catch C0 [] (0, 5, 6, 28) [] rfl (fun _ h => nomatch h) rfl (by decide) qw_580 qw_581 (fun q => ?_)
      refine r_astore_n (L' := [(2, .ref q), (0, .ref p0), (1, .int p1)]) C0 dL_tryExtension_6 rfl (by decide) rfl ?_
      refine r_sipush (v := -1001) C0 dL_tryExtension_7 (by decide) ?_
      obtain rfl := Option.some.inj hf
      exact rW_iret C0 dL_tryExtension_10
    cases hf
  refine r_eqst (st1 := [.int v]) rfl ?_
  obtain rfl := Option.some.inj hf
  exact rW_iret C0 dL_tryExtension_5
set_option maxHeartbeats 4000000 in
set_option maxRecDepth 100000 in
theorem c_L_tryScript {l : Launch} {E : zEn} {S : zSk} {X : zMl} (hl : l.stackTraces = false) (F : Nat) (p0 : Nat) (p1 : Int32) (p2 : Int64) (hk_p0 : K_X10 S p0) (M : zMi) (r : Int32 × zMi) (hf : f_L_tryScript F p0 p1 p2 M = some r) : zMW l E yL_tryScript cL_tryScript 5 (Option.some Jvm.ClassFile.FieldType.int) [(0, 6, 7, 13)] { frames := 8, cells := 2, slots := 12, locals := 184 } 2 12 [.ref p0, .int p1, .long p2] S M X r.1 r.2 X := by
  refine zMW.intro (L0 := [(0, .ref p0), (1, .int p1), (2, .long p2)]) hl (by decide) (Nat.le_of_ble_eq_true rfl) rfl (fun Γ C0 => ?_)
  unfold f_L_tryScript at hf
  refine r_aload_n C0 dL_tryScript_0 rfl 0 rfl ?_
  refine r_iload_n C0 dL_tryScript_1 rfl 1 rfl ?_
  refine r_lload_n C0 dL_tryScript_2 rfl 2 rfl ?_
  refine rX_callVw C0 (st := []) (fun v => some (Value.int v)) [.int p1, .long p2] p0 hf vs_148 (fun hl r9 h9 => c_X10_runScript hl F p0 p1 p2 hk_p0 M r9 h9) (K_X10_o hk_p0) rfl rfl rfl rfl (Nat.le_of_ble_eq_true rfl) dL_tryScript_3 (zrm_ok rfl) (fun e M1 hf => ?_) (fun v M1 hf => ?_)
  · refine z_ite hf (fun he hf => ?_) (fun hn hf => ?_)
    · subst he
      refine rW_catch C0 [] (0, 6, 7, 13) [] rfl (fun _ h => nomatch h) rfl (by decide) qw_564 qw_565 (fun q => ?_)
      refine r_astore (L' := [(4, .ref q), (0, .ref p0), (1, .int p1), (2, .long p2)]) C0 dL_tryScript_7 (by decide) rfl ?_
      refine r_sipush (v := -1002) C0 dL_tryScript_9 (by decide) ?_
      obtain rfl := Option.some.inj hf
      exact rW_iret C0 dL_tryScript_12
    cases hf
  refine r_eqst (st1 := [.int v]) rfl ?_
  obtain rfl := Option.some.inj hf
  exact rW_iret C0 dL_tryScript_6
set_option maxHeartbeats 4000000 in
set_option maxRecDepth 100000 in
theorem c_L_trySimulate {l : Launch} {E : zEn} {S : zSk} {X : zMl} (hl : l.stackTraces = false) (F : Nat) (p0 : Nat) (p1 : Int64) (p2 : Int32) (hk_p0 : K_X10 S p0) (M : zMi) (r : Int32 × zMi) (hf : f_L_trySimulate F p0 p1 p2 M = some r) : zMW l E yL_trySimulate cL_trySimulate 5 (Option.some Jvm.ClassFile.FieldType.int) [(0, 6, 7, 13)] { frames := 8, cells := 1, slots := 6, locals := 162 } 1 6 [.ref p0, .long p1, .int p2] S M X r.1 r.2 X := by
  refine zMW.intro (L0 := [(0, .ref p0), (1, .long p1), (3, .int p2)]) hl (by decide) (Nat.le_of_ble_eq_true rfl) rfl (fun Γ C0 => ?_)
  unfold f_L_trySimulate at hf
  refine r_aload_n C0 dL_trySimulate_0 rfl 0 rfl ?_
  refine r_lload_n C0 dL_trySimulate_1 rfl 1 rfl ?_
  refine r_iload_n C0 dL_trySimulate_2 rfl 2 rfl ?_
  refine rX_callVw C0 (st := []) (fun v => some (Value.int v)) [.long p1, .int p2] p0 hf vs_149 (fun hl r9 h9 => c_X10_simulate hl F p0 p1 p2 hk_p0 M r9 h9) (K_X10_o hk_p0) rfl rfl rfl rfl (Nat.le_of_ble_eq_true rfl) dL_trySimulate_3 (zrm_ok rfl) (fun e M1 hf => ?_) (fun v M1 hf => ?_)
  · refine z_ite hf (fun he hf => ?_) (fun hn hf => ?_)
    · subst he
      refine rW_catch C0 [] (0, 6, 7, 13) [] rfl (fun _ h => nomatch h) rfl (by decide) qw_564 qw_565 (fun q => ?_)
      refine r_astore (L' := [(4, .ref q), (0, .ref p0), (1, .long p1), (3, .int p2)]) C0 dL_trySimulate_7 (by decide) rfl ?_
      refine r_sipush (v := -1002) C0 dL_trySimulate_9 (by decide) ?_
      obtain rfl := Option.some.inj hf
      exact rW_iret C0 dL_trySimulate_12
    cases hf
  refine r_eqst (st1 := [.int v]) rfl ?_
  obtain rfl := Option.some.inj hf
  exact rW_iret C0 dL_trySimulate_6
set_option maxHeartbeats 4000000 in
set_option maxRecDepth 100000 in
theorem c_L_trySave {l : Launch} {E : zEn} {S : zSk} {X : zMl} (hl : l.stackTraces = false) (F : Nat) (p0 : Nat) (p1 : Int32) (hk_p0 : K_X10 S p0) (M : zMi) (r : Int32 × zMi) (hf : f_L_trySave F p0 p1 M = some r) : zMW l E yL_trySave cL_trySave 3 (Option.some Jvm.ClassFile.FieldType.int) [(0, 5, 6, 28)] { frames := 8, cells := 1, slots := 6, locals := 133 } 1 6 [.ref p0, .int p1] S M X r.1 r.2 X := by
  refine zMW.intro (L0 := [(0, .ref p0), (1, .int p1)]) hl (by decide) (Nat.le_of_ble_eq_true rfl) rfl (fun Γ C0 => ?_)
  unfold f_L_trySave at hf
  refine r_aload_n C0 dL_trySave_0 rfl 0 rfl ?_
  refine r_iload_n C0 dL_trySave_1 rfl 1 rfl ?_
  refine rX_callVw C0 (st := []) (fun v => some (Value.int v)) [.int p1] p0 hf vs_150 (fun hl r9 h9 => c_X10_save hl F p0 p1 hk_p0 M r9 h9) (K_X10_o hk_p0) rfl rfl rfl rfl (Nat.le_of_ble_eq_true rfl) dL_trySave_2 (zrm_ok rfl) (fun e M1 hf => ?_) (fun v M1 hf => ?_)
  · refine z_ite hf (fun he hf => ?_) (fun hn hf => ?_)
    · subst he
      refine rW_catch C0 [] (0, 5, 6, 28) [] rfl (fun _ h => nomatch h) rfl (by decide) qw_580 qw_581 (fun q => ?_)
      refine r_astore_n (L' := [(2, .ref q), (0, .ref p0), (1, .int p1)]) C0 dL_trySave_6 rfl (by decide) rfl ?_
      refine r_sipush (v := -1001) C0 dL_trySave_7 (by decide) ?_
      obtain rfl := Option.some.inj hf
      exact rW_iret C0 dL_trySave_10
    cases hf
  refine r_eqst (st1 := [.int v]) rfl ?_
  obtain rfl := Option.some.inj hf
  exact rW_iret C0 dL_trySave_5
set_option maxHeartbeats 4000000 in
set_option maxRecDepth 100000 in
theorem c_L_tryRestore {l : Launch} {E : zEn} {S : zSk} {X : zMl} (hl : l.stackTraces = false) (F : Nat) (p0 : Nat) (p1 : Int32) (hk_p0 : K_X10 S p0) (M : zMi) (r : Int32 × zMi) (hf : f_L_tryRestore F p0 p1 M = some r) : zMW l E yL_tryRestore cL_tryRestore 3 (Option.some Jvm.ClassFile.FieldType.int) [(0, 5, 6, 28), (0, 5, 11, 15)] { frames := 8, cells := 2, slots := 12, locals := 133 } 2 12 [.ref p0, .int p1] S M X r.1 r.2 X := by
  refine zMW.intro (L0 := [(0, .ref p0), (1, .int p1)]) hl (by decide) (Nat.le_of_ble_eq_true rfl) rfl (fun Γ C0 => ?_)
  unfold f_L_tryRestore at hf
  refine r_aload_n C0 dL_tryRestore_0 rfl 0 rfl ?_
  refine r_iload_n C0 dL_tryRestore_1 rfl 1 rfl ?_
  refine rX_callVw C0 (st := []) (fun v => some (Value.int v)) [.int p1] p0 hf vs_151 (fun hl r9 h9 => c_X10_restore hl F p0 p1 hk_p0 M r9 h9) (K_X10_o hk_p0) rfl rfl rfl rfl (Nat.le_of_ble_eq_true rfl) dL_tryRestore_2 (zrm_ok rfl) (fun e M1 hf => ?_) (fun v M1 hf => ?_)
  · refine z_ite hf (fun he hf => ?_) (fun hn hf => ?_)
    · subst he
      refine rW_catch C0 [] (0, 5, 6, 28) [(0, 5, 11, 15)] rfl (fun _ h => nomatch h) rfl (by decide) qw_580 qw_581 (fun q => ?_)
      refine r_astore_n (L' := [(2, .ref q), (0, .ref p0), (1, .int p1)]) C0 dL_tryRestore_6 rfl (by decide) rfl ?_
      refine r_sipush (v := -1001) C0 dL_tryRestore_7 (by decide) ?_
      obtain rfl := Option.some.inj hf
      exact rW_iret C0 dL_tryRestore_10
    refine z_ite hf (fun he hf => ?_) (fun hn hf => ?_)
    · subst he
      refine rW_catch C0 [(0, 5, 6, 28)] (0, 5, 11, 15) [] rfl (List.forall_mem_cons.mpr ⟨⟨by decide, 3, qw_580, by decide +kernel⟩, (fun _ h => nomatch h)⟩) rfl (by decide) qw_566 qw_567 (fun q => ?_)
      refine r_astore_n (L' := [(2, .ref q), (0, .ref p0), (1, .int p1)]) C0 dL_tryRestore_11 rfl (by decide) rfl ?_
      refine r_sipush (v := -1003) C0 dL_tryRestore_12 (by decide) ?_
      obtain rfl := Option.some.inj hf
      exact rW_iret C0 dL_tryRestore_15
    cases hf
  refine r_eqst (st1 := [.int v]) rfl ?_
  obtain rfl := Option.some.inj hf
  exact rW_iret C0 dL_tryRestore_5
