set_option maxHeartbeats 4000000 in
set_option maxRecDepth 100000 in
theorem c_X10_existingZone {l : Launch} {E : zEn} {S : zSk} {X : zMl} (hl : l.stackTraces = false) (F : Nat) (p0 : Nat) (p1 : Int32) (hk_p0 : K_X5 S p0) (M : zMi) (r : Nat ⊕ Nat) (hf : f_X10_existingZone F p0 p1 M = some r) : zMX l E yX10_existingZone cX10_existingZone 3 (Option.some (Jvm.ClassFile.FieldType.object "CableLanding$Zone")) { frames := 6, cells := 1, slots := 6, locals := 90 } 1 6 [.ref p0, .int p1] S M X (Sum.map id (fun q => some (Value.ref q)) r, M) := by
  refine zMX.intro (L0 := [(0, .ref p0), (1, .int p1)]) hl (by decide) (Nat.le_of_ble_eq_true rfl) rfl (fun Γ C0 => ?_)
  unfold f_X10_existingZone at hf
  refine r_aload_n C0 dX10_existingZone_0 rfl 0 rfl ?_
  refine r_iload_n C0 dX10_existingZone_1 rfl 1 rfl ?_
  refine r_callVr C0 (st := []) [.int p1] p0 hf vs_82 (fun hl r1 hr1 => c_X5_zoneNumbered hl F p0 p1 hk_p0 M r1 hr1) (K_X5_o hk_p0) rfl rfl rfl rfl (Nat.le_of_ble_eq_true rfl) dX10_existingZone_2 (zrm_ok rfl) (fun r1 hr1 hf => ?_)
  refine r_opt hf (fun hf => ?_) (fun q2 eq2 hf => ?_)
  · refine r_astoreN_n (L' := [(2, .null), (0, .ref p0), (1, .int p1)]) C0 dX10_existingZone_5 rfl (by decide) rfl ?_
    refine r_aloadN_n C0 dX10_existingZone_6 rfl 0 rfl ?_
    refine r_ifnonnullN C0 dX10_existingZone_7 ?_
    obtain rfl := Option.some.inj hf
    exact rX_throwSW C0 (e := 3) (text := "no such zone") (by decide +kernel) qw_396 qw_397 (by decide +kernel) ht_83_a ht_83_b dX10_existingZone_10 dX10_existingZone_13 dX10_existingZone_14 dX10_existingZone_17 dX10_existingZone_20 rfl (Nat.le_of_ble_eq_true rfl) (Nat.le_of_ble_eq_true rfl) (Nat.le_of_ble_eq_true rfl) (Nat.le_of_ble_eq_true rfl) (Nat.le_of_ble_eq_true rfl) (Nat.le_of_ble_eq_true rfl)
  · have hk_q2 := n_X5_zoneNumbered (by rw [← eq2]; exact hr1) hk_p0
    refine r_astore_n (L' := [(2, .ref q2), (0, .ref p0), (1, .int p1)]) C0 dX10_existingZone_5 rfl (by decide) rfl ?_
    refine r_aload_n C0 dX10_existingZone_6 rfl 0 rfl ?_
    refine r_ifnonnull C0 21 dX10_existingZone_7 (by decide) ?_
    refine r_aload_n C0 dX10_existingZone_21 rfl 0 rfl ?_
    obtain rfl := Option.some.inj hf
    refine r_widen (k1 := 1) (s1 := 6) (by decide) (by decide) ?_
    exact rX_aret C0 rfl dX10_existingZone_22
theorem n_X10_existingZone {F : Nat} {p0 : Nat} {p1 : Int32} {M : zMi} {S : zSk} {q : Nat} (h : f_X10_existingZone F p0 p1 M = some (.inr q)) (hk_p0 : K_X5 S p0) : K_X9 S q := by
  unfold f_X10_existingZone at h
  obtain ⟨r1, h1, h⟩ := cal_some h
  cases r1 with
  | none => cases h
  | some q1 => cases h; exact n_X5_zoneNumbered h1 hk_p0
set_option maxHeartbeats 4000000 in
set_option maxRecDepth 100000 in
theorem c_X10_zone {l : Launch} {E : zEn} {S : zSk} {X : zMl} (hl : l.stackTraces = false) (F : Nat) (p0 : Nat) (p1 : Int32) (p2 : Int32) (hk_p0 : K_X10 S p0) (M : zMi) (r : Nat ⊕ Int32) (hf : f_X10_zone F p0 p1 p2 M = some r) : zMX l E yX10_zone cX10_zone 4 (Option.some Jvm.ClassFile.FieldType.int) { frames := 7, cells := 2, slots := 12, locals := 112 } 2 12 [.ref p0, .int p1, .int p2] S M X (Sum.map id (fun v => some (Value.int v)) r, M) := by
  refine zMX.intro (L0 := [(0, .ref p0), (1, .int p1), (2, .int p2)]) hl (by decide) (Nat.le_of_ble_eq_true rfl) rfl (fun Γ C0 => ?_)
  unfold f_X10_zone at hf
  refine r_aload_n C0 dX10_zone_0 rfl 0 rfl ?_
  refine r_getR C0 (C := RX10) (T := TX10) cl_X10 (K_X10_o hk_p0) (k := 1) (by decide) qw_365 rfl (K_X10_now_r hk_p0) dX10_zone_1 ?_
  refine r_iload_n C0 dX10_zone_4 rfl 1 rfl ?_
  refine rX_callSp C0 (st := []) (fun q => some (Value.ref q)) [.ref (p0 + 3), .int p1] hf vs_84 (fun hl r9 h9 => c_X10_existingZone hl F (p0 + 3) p1 (K_X10_now_k hk_p0) M r9 h9) rfl rfl (Nat.le_of_ble_eq_true rfl) dX10_zone_5 (zrm_ok rfl) (fun e hf => ?_) (fun q2 hq2 hf => ?_)
  · obtain rfl := Option.some.inj hf
    exact rX_out C0 rfl (by decide) (by decide)
  refine r_eqst (st1 := [.ref q2]) rfl ?_
  have hk_q2 := n_X10_existingZone hq2 (K_X10_now_k hk_p0)
  refine r_astore_n (L' := [(3, .ref q2), (0, .ref p0), (1, .int p1), (2, .int p2)]) C0 dX10_zone_8 rfl (by decide) rfl ?_
  refine r_iload_n C0 dX10_zone_9 rfl 3 rfl ?_
  refine z_ite hf (fun hx hf => ?_) (fun hx0 hf => ?_)
  · refine r_tsIn (off := 34) C0 44 dX10_zone_10 (by rw [hx]; decide) (by rw [hx]; decide) (by rw [hx]; decide) (by decide) ?_
    refine r_aload_n C0 dX10_zone_44 rfl 0 rfl ?_
    refine r_getI C0 (C := RX9) (T := TX9) cl_X9 (K_X9_o hk_q2) (k := 0) (by decide) qw_401 rfl dX10_zone_45 ?_
    obtain rfl := Option.some.inj hf
    refine r_widen (k1 := 2) (s1 := 12) (by decide) (by decide) ?_
    exact rX_iret C0 rfl dX10_zone_48
  refine z_ite hf (fun hx hf => ?_) (fun hx1 hf => ?_)
  · refine r_tsIn (off := 39) C0 49 dX10_zone_10 (by rw [hx]; decide) (by rw [hx]; decide) (by rw [hx]; decide) (by decide) ?_
    refine r_aload_n C0 dX10_zone_49 rfl 0 rfl ?_
    refine r_getI C0 (C := RX9) (T := TX9) cl_X9 (K_X9_o hk_q2) (k := 1) (by decide) qw_402 rfl dX10_zone_50 ?_
    obtain rfl := Option.some.inj hf
    refine r_widen (k1 := 2) (s1 := 12) (by decide) (by decide) ?_
    exact rX_iret C0 rfl dX10_zone_53
  refine z_ite hf (fun hx hf => ?_) (fun hx2 hf => ?_)
  · refine r_tsIn (off := 44) C0 54 dX10_zone_10 (by rw [hx]; decide) (by rw [hx]; decide) (by rw [hx]; decide) (by decide) ?_
    refine r_aload_n C0 dX10_zone_54 rfl 0 rfl ?_
    refine r_getI C0 (C := RX9) (T := TX9) cl_X9 (K_X9_o hk_q2) (k := 2) (by decide) qw_403 rfl dX10_zone_55 ?_
    obtain rfl := Option.some.inj hf
    refine r_widen (k1 := 2) (s1 := 12) (by decide) (by decide) ?_
    exact rX_iret C0 rfl dX10_zone_58
  refine z_ite hf (fun hx hf => ?_) (fun hx3 hf => ?_)
  · refine r_tsIn (off := 49) C0 59 dX10_zone_10 (by rw [hx]; decide) (by rw [hx]; decide) (by rw [hx]; decide) (by decide) ?_
    refine r_aload_n C0 dX10_zone_59 rfl 0 rfl ?_
    refine r_getI C0 (C := RX9) (T := TX9) cl_X9 (K_X9_o hk_q2) (k := 3) (by decide) qw_404 rfl dX10_zone_60 ?_
    obtain rfl := Option.some.inj hf
    refine r_widen (k1 := 2) (s1 := 12) (by decide) (by decide) ?_
    exact rX_iret C0 rfl dX10_zone_63
  refine z_ite hf (fun hx hf => ?_) (fun hx4 hf => ?_)
  · refine r_tsIn (off := 54) C0 64 dX10_zone_10 (by rw [hx]; decide) (by rw [hx]; decide) (by rw [hx]; decide) (by decide) ?_
    refine r_aload_n C0 dX10_zone_64 rfl 1 rfl ?_
    refine r_getR C0 (C := RX10) (T := TX10) cl_X10 (K_X10_o hk_p0) (k := 1) (by decide) qw_365 rfl (K_X10_now_r hk_p0) dX10_zone_65 ?_
    refine r_aload_n C0 dX10_zone_68 rfl 0 rfl ?_
    refine r_iload_n C0 dX10_zone_69 rfl 2 rfl ?_
    refine r_callVi C0 (st := []) [.ref q2, .int p1] (p0 + 3) hf vs_85 (fun hl r3 hr3 => c_X5_leftIn hl F (p0 + 3) q2 p1 (K_X10_now_k hk_p0) hk_q2 M r3 hr3) (K_X5_o (K_X10_now_k hk_p0)) rfl rfl rfl rfl (Nat.le_of_ble_eq_true rfl) dX10_zone_70 (zrm_ok rfl) (fun r3 hr3 hf => ?_)
    obtain rfl := Option.some.inj hf
    refine r_widen (k1 := 2) (s1 := 12) (by decide) (by decide) ?_
    exact rX_iret C0 rfl dX10_zone_73
  have hy0 := z_ne (a := 0) hx0 (by decide)
  have hy1 := z_ne (a := 1) hx1 (by decide)
  have hy2 := z_ne (a := 2) hx2 (by decide)
  have hy3 := z_ne (a := 3) hx3 (by decide)
  have hy4 := z_ne (a := 4) hx4 (by decide)
  refine r_tsOut C0 74 dX10_zone_10 (by omega) (by decide) ?_
  obtain rfl := Option.some.inj hf
  exact rX_throwS C0 (e := 1) (text := "no such number of a zone") (by decide +kernel) qw_339 qw_340 (by decide +kernel) ht_69_a ht_69_b dX10_zone_74 dX10_zone_77 dX10_zone_78 dX10_zone_80 dX10_zone_83 rfl (Nat.le_of_ble_eq_true rfl) (Nat.le_of_ble_eq_true rfl) (Nat.le_of_ble_eq_true rfl) (Nat.le_of_ble_eq_true rfl) (Nat.le_of_ble_eq_true rfl) (Nat.le_of_ble_eq_true rfl)
set_option maxHeartbeats 4000000 in
set_option maxRecDepth 100000 in
theorem c_X10_existingShip {l : Launch} {E : zEn} {S : zSk} {X : zMl} (hl : l.stackTraces = false) (F : Nat) (p0 : Nat) (p1 : Int32) (hk_p0 : K_X10 S p0) (M : zMi) (r : Nat ⊕ Nat) (hf : f_X10_existingShip F p0 p1 M = some r) : zMX l E yX10_existingShip cX10_existingShip 3 (Option.some (Jvm.ClassFile.FieldType.object "CableLanding$Ship")) { frames := 6, cells := 1, slots := 6, locals := 90 } 1 6 [.ref p0, .int p1] S M X (Sum.map id (fun q => some (Value.ref q)) r, M) := by
  refine zMX.intro (L0 := [(0, .ref p0), (1, .int p1)]) hl (by decide) (Nat.le_of_ble_eq_true rfl) rfl (fun Γ C0 => ?_)
  unfold f_X10_existingShip at hf
  refine r_aload_n C0 dX10_existingShip_0 rfl 0 rfl ?_
  refine r_getR C0 (C := RX10) (T := TX10) cl_X10 (K_X10_o hk_p0) (k := 1) (by decide) qw_365 rfl (K_X10_now_r hk_p0) dX10_existingShip_1 ?_
  refine r_iload_n C0 dX10_existingShip_4 rfl 1 rfl ?_
  refine r_callVr C0 (st := []) [.int p1] (p0 + 3) hf vs_86 (fun hl r1 hr1 => c_X5_shipNumbered hl F (p0 + 3) p1 (K_X10_now_k hk_p0) M r1 hr1) (K_X5_o (K_X10_now_k hk_p0)) rfl rfl rfl rfl (Nat.le_of_ble_eq_true rfl) dX10_existingShip_5 (zrm_ok rfl) (fun r1 hr1 hf => ?_)
  refine r_opt hf (fun hf => ?_) (fun q2 eq2 hf => ?_)
  · refine r_astoreN_n (L' := [(2, .null), (0, .ref p0), (1, .int p1)]) C0 dX10_existingShip_8 rfl (by decide) rfl ?_
    refine r_aloadN_n C0 dX10_existingShip_9 rfl 0 rfl ?_
    refine r_ifnonnullN C0 dX10_existingShip_10 ?_
    obtain rfl := Option.some.inj hf
    exact rX_throwSW C0 (e := 3) (text := "no such ship") (by decide +kernel) qw_396 qw_397 (by decide +kernel) ht_83_a ht_83_b dX10_existingShip_13 dX10_existingShip_16 dX10_existingShip_17 dX10_existingShip_20 dX10_existingShip_23 rfl (Nat.le_of_ble_eq_true rfl) (Nat.le_of_ble_eq_true rfl) (Nat.le_of_ble_eq_true rfl) (Nat.le_of_ble_eq_true rfl) (Nat.le_of_ble_eq_true rfl) (Nat.le_of_ble_eq_true rfl)
  · have hk_q2 := n_X5_shipNumbered (by rw [← eq2]; exact hr1) (K_X10_now_k hk_p0)
    refine r_astore_n (L' := [(2, .ref q2), (0, .ref p0), (1, .int p1)]) C0 dX10_existingShip_8 rfl (by decide) rfl ?_
    refine r_aload_n C0 dX10_existingShip_9 rfl 0 rfl ?_
    refine r_ifnonnull C0 24 dX10_existingShip_10 (by decide) ?_
    refine r_aload_n C0 dX10_existingShip_24 rfl 0 rfl ?_
    obtain rfl := Option.some.inj hf
    refine r_widen (k1 := 1) (s1 := 6) (by decide) (by decide) ?_
    exact rX_aret C0 rfl dX10_existingShip_25
theorem n_X10_existingShip {F : Nat} {p0 : Nat} {p1 : Int32} {M : zMi} {S : zSk} {q : Nat} (h : f_X10_existingShip F p0 p1 M = some (.inr q)) (hk_p0 : K_X10 S p0) : K_X3 S q := by
  unfold f_X10_existingShip at h
  obtain ⟨r1, h1, h⟩ := cal_some h
  cases r1 with
  | none => cases h
  | some q1 => cases h; exact n_X5_shipNumbered h1 (K_X10_now_k hk_p0)
set_option maxHeartbeats 4000000 in
set_option maxRecDepth 100000 in
theorem c_X10_ship {l : Launch} {E : zEn} {S : zSk} {X : zMl} (hl : l.stackTraces = false) (F : Nat) (p0 : Nat) (p1 : Int32) (p2 : Int32) (hk_p0 : K_X10 S p0) (M : zMi) (r : Nat ⊕ Int32) (hf : f_X10_ship F p0 p1 p2 M = some r) : zMX l E yX10_ship cX10_ship 4 (Option.some Jvm.ClassFile.FieldType.int) { frames := 7, cells := 2, slots := 12, locals := 112 } 2 12 [.ref p0, .int p1, .int p2] S M X (Sum.map id (fun v => some (Value.int v)) r, M) := by
  refine zMX.intro (L0 := [(0, .ref p0), (1, .int p1), (2, .int p2)]) hl (by decide) (Nat.le_of_ble_eq_true rfl) rfl (fun Γ C0 => ?_)
  unfold f_X10_ship at hf
  refine r_aload_n C0 dX10_ship_0 rfl 0 rfl ?_
  refine r_iload_n C0 dX10_ship_1 rfl 1 rfl ?_
  refine rX_callVp C0 (st := []) (fun q => some (Value.ref q)) [.int p1] p0 hf vs_87 (fun hl r9 h9 => c_X10_existingShip hl F p0 p1 hk_p0 M r9 h9) (K_X10_o hk_p0) rfl rfl rfl rfl (Nat.le_of_ble_eq_true rfl) dX10_ship_2 (zrm_ok rfl) (fun e hf => ?_) (fun q2 hq2 hf => ?_)
  · obtain rfl := Option.some.inj hf
    exact rX_out C0 rfl (by decide) (by decide)
  refine r_eqst (st1 := [.ref q2]) rfl ?_
  have hk_q2 := n_X10_existingShip hq2 hk_p0
  refine r_astore_n (L' := [(3, .ref q2), (0, .ref p0), (1, .int p1), (2, .int p2)]) C0 dX10_ship_5 rfl (by decide) rfl ?_
  refine r_iload_n C0 dX10_ship_6 rfl 3 rfl ?_
  refine z_ite hf (fun hx hf => ?_) (fun hx0 hf => ?_)
  · refine r_tsIn (off := 45) C0 52 dX10_ship_7 (by rw [hx]; decide) (by rw [hx]; decide) (by rw [hx]; decide) (by decide) ?_
    refine r_aload_n C0 dX10_ship_52 rfl 0 rfl ?_
    refine r_getI C0 (C := RX3) (T := TX3) cl_X3 (K_X3_o hk_q2) (k := 0) (by decide) qw_414 rfl dX10_ship_53 ?_
    obtain rfl := Option.some.inj hf
    refine r_widen (k1 := 2) (s1 := 12) (by decide) (by decide) ?_
    exact rX_iret C0 rfl dX10_ship_56
  refine z_ite hf (fun hx hf => ?_) (fun hx1 hf => ?_)
  · refine r_tsIn (off := 50) C0 57 dX10_ship_7 (by rw [hx]; decide) (by rw [hx]; decide) (by rw [hx]; decide) (by decide) ?_
    refine r_aload_n C0 dX10_ship_57 rfl 0 rfl ?_
    refine r_getI C0 (C := RX3) (T := TX3) cl_X3 (K_X3_o hk_q2) (k := 1) (by decide) qw_415 rfl dX10_ship_58 ?_
    obtain rfl := Option.some.inj hf
    refine r_widen (k1 := 2) (s1 := 12) (by decide) (by decide) ?_
    exact rX_iret C0 rfl dX10_ship_61
  refine z_ite hf (fun hx hf => ?_) (fun hx2 hf => ?_)
  · refine r_tsIn (off := 55) C0 62 dX10_ship_7 (by rw [hx]; decide) (by rw [hx]; decide) (by rw [hx]; decide) (by decide) ?_
    refine r_aload_n C0 dX10_ship_62 rfl 0 rfl ?_
    refine r_getI C0 (C := RX3) (T := TX3) cl_X3 (K_X3_o hk_q2) (k := 2) (by decide) qw_416 rfl dX10_ship_63 ?_
    obtain rfl := Option.some.inj hf
    refine r_widen (k1 := 2) (s1 := 12) (by decide) (by decide) ?_
    exact rX_iret C0 rfl dX10_ship_66
  refine z_ite hf (fun hx hf => ?_) (fun hx3 hf => ?_)
  · refine r_tsIn (off := 60) C0 67 dX10_ship_7 (by rw [hx]; decide) (by rw [hx]; decide) (by rw [hx]; decide) (by decide) ?_
    refine r_aload_n C0 dX10_ship_67 rfl 0 rfl ?_
    refine r_getI C0 (C := RX3) (T := TX3) cl_X3 (K_X3_o hk_q2) (k := 3) (by decide) qw_417 rfl dX10_ship_68 ?_
    obtain rfl := Option.some.inj hf
    refine r_widen (k1 := 2) (s1 := 12) (by decide) (by decide) ?_
    exact rX_iret C0 rfl dX10_ship_71
  refine z_ite hf (fun hx hf => ?_) (fun hx4 hf => ?_)
  · refine r_tsIn (off := 65) C0 72 dX10_ship_7 (by rw [hx]; decide) (by rw [hx]; decide) (by rw [hx]; decide) (by decide) ?_
    refine r_aload_n C0 dX10_ship_72 rfl 0 rfl ?_
    refine r_getI C0 (C := RX3) (T := TX3) cl_X3 (K_X3_o hk_q2) (k := 4) (by decide) qw_418 rfl dX10_ship_73 ?_
    obtain rfl := Option.some.inj hf
    refine r_widen (k1 := 2) (s1 := 12) (by decide) (by decide) ?_
    exact rX_iret C0 rfl dX10_ship_76
  refine z_ite hf (fun hx hf => ?_) (fun hx5 hf => ?_)
  · refine r_tsIn (off := 70) C0 77 dX10_ship_7 (by rw [hx]; decide) (by rw [hx]; decide) (by rw [hx]; decide) (by decide) ?_
    refine r_aload_n C0 dX10_ship_77 rfl 0 rfl ?_
    refine r_getI C0 (C := RX3) (T := TX3) cl_X3 (K_X3_o hk_q2) (k := 5) (by decide) qw_419 rfl dX10_ship_78 ?_
    obtain rfl := Option.some.inj hf
    refine r_widen (k1 := 2) (s1 := 12) (by decide) (by decide) ?_
    exact rX_iret C0 rfl dX10_ship_81
  refine z_ite hf (fun hx hf => ?_) (fun hx6 hf => ?_)
  · refine r_tsIn (off := 75) C0 82 dX10_ship_7 (by rw [hx]; decide) (by rw [hx]; decide) (by rw [hx]; decide) (by decide) ?_
    refine r_aload_n C0 dX10_ship_82 rfl 0 rfl ?_
    refine r_getI C0 (C := RX3) (T := TX3) cl_X3 (K_X3_o hk_q2) (k := 6) (by decide) qw_420 rfl dX10_ship_83 ?_
    obtain rfl := Option.some.inj hf
    refine r_widen (k1 := 2) (s1 := 12) (by decide) (by decide) ?_
    exact rX_iret C0 rfl dX10_ship_86
  refine z_ite hf (fun hx hf => ?_) (fun hx7 hf => ?_)
  · refine r_tsIn (off := 80) C0 87 dX10_ship_7 (by rw [hx]; decide) (by rw [hx]; decide) (by rw [hx]; decide) (by decide) ?_
    refine r_aload_n C0 dX10_ship_87 rfl 0 rfl ?_
    refine r_getI C0 (C := RX3) (T := TX3) cl_X3 (K_X3_o hk_q2) (k := 7) (by decide) qw_421 rfl dX10_ship_88 ?_
    obtain rfl := Option.some.inj hf
    refine r_widen (k1 := 2) (s1 := 12) (by decide) (by decide) ?_
    exact rX_iret C0 rfl dX10_ship_91
  have hy0 := z_ne (a := 0) hx0 (by decide)
  have hy1 := z_ne (a := 1) hx1 (by decide)
  have hy2 := z_ne (a := 2) hx2 (by decide)
  have hy3 := z_ne (a := 3) hx3 (by decide)
  have hy4 := z_ne (a := 4) hx4 (by decide)
  have hy5 := z_ne (a := 5) hx5 (by decide)
  have hy6 := z_ne (a := 6) hx6 (by decide)
  have hy7 := z_ne (a := 7) hx7 (by decide)
  refine r_tsOut C0 92 dX10_ship_7 (by omega) (by decide) ?_
  obtain rfl := Option.some.inj hf
  exact rX_throwS C0 (e := 1) (text := "no such number of a ship") (by decide +kernel) qw_339 qw_340 (by decide +kernel) ht_69_a ht_69_b dX10_ship_92 dX10_ship_95 dX10_ship_96 dX10_ship_98 dX10_ship_101 rfl (Nat.le_of_ble_eq_true rfl) (Nat.le_of_ble_eq_true rfl) (Nat.le_of_ble_eq_true rfl) (Nat.le_of_ble_eq_true rfl) (Nat.le_of_ble_eq_true rfl) (Nat.le_of_ble_eq_true rfl)
set_option maxHeartbeats 4000000 in
set_option maxRecDepth 100000 in
theorem c_X10_waves {l : Launch} {E : zEn} {S : zSk} {X : zMl} (hl : l.stackTraces = false) (F : Nat) (p0 : Nat) (p1 : Int32) (hk_p0 : K_X10 S p0) (M : zMi) (r : Nat ⊕ Int32) (hf : f_X10_waves F p0 p1 M = some r) : zMX l E yX10_waves cX10_waves 2 (Option.some Jvm.ClassFile.FieldType.int) { frames := 7, cells := 1, slots := 6, locals := 112 } 1 6 [.ref p0, .int p1] S M X (Sum.map id (fun v => some (Value.int v)) r, M) := by
  refine zMX.intro (L0 := [(0, .ref p0), (1, .int p1)]) hl (by decide) (Nat.le_of_ble_eq_true rfl) rfl (fun Γ C0 => ?_)
  unfold f_X10_waves at hf
  refine r_iload_n C0 dX10_waves_0 rfl 1 rfl ?_
  refine r_iconst (v := 0) C0 dX10_waves_1 (by decide) ?_
  refine r_sipush (v := 9999) C0 dX10_waves_2 (by decide) ?_
  refine rX_callSp C0 (st := []) (fun _ => none) [.int p1, .int (0 : Int32), .int (9999 : Int32)] hf vs_71 (fun hl r9 h9 => c_X10_requireRange hl F p1 (0 : Int32) (9999 : Int32) M r9 h9) rfl rfl (Nat.le_of_ble_eq_true rfl) dX10_waves_5 (zrm_ok rfl) (fun e hf => ?_) (fun x2 hx2 hf => ?_)
  · obtain rfl := Option.some.inj hf
    exact rX_out C0 rfl (by decide) (by decide)
  refine r_eqst (st1 := []) rfl ?_
  refine r_aload_n C0 dX10_waves_8 rfl 0 rfl ?_
  refine r_getR C0 (C := RX10) (T := TX10) cl_X10 (K_X10_o hk_p0) (k := 1) (by decide) qw_365 rfl (K_X10_now_r hk_p0) dX10_waves_9 ?_
  refine r_getR C0 (C := RX5) (T := TX5) cl_X5 (K_X5_o (K_X10_now_k hk_p0)) (k := 2) (by decide) qw_422 rfl (K_X5_weather_r (K_X10_now_k hk_p0)) dX10_waves_12 ?_
  refine r_iload_n C0 dX10_waves_15 rfl 1 rfl ?_
  refine r_callVi C0 (st := []) [.int p1] ((p0 + 3) + 3) hf vs_88 (fun hl r3 hr3 => c_X8_on hl F ((p0 + 3) + 3) p1 (K_X5_weather_k (K_X10_now_k hk_p0)) M r3 hr3) (K_X8_o (K_X5_weather_k (K_X10_now_k hk_p0))) rfl rfl rfl rfl (Nat.le_of_ble_eq_true rfl) dX10_waves_16 (zrm_ok rfl) (fun r3 hr3 hf => ?_)
  obtain rfl := Option.some.inj hf
  exact rX_iret C0 rfl dX10_waves_19
set_option maxHeartbeats 4000000 in
set_option maxRecDepth 100000 in
theorem c_X10_account {l : Launch} {E : zEn} {S : zSk} {X : zMl} (hl : l.stackTraces = false) (F : Nat) (p0 : Nat) (p1 : Int32) (hk_p0 : K_X10 S p0) (M : zMi) (r : Nat ⊕ Int32) (hf : f_X10_account F p0 p1 M = some r) : zMX l E yX10_account cX10_account 3 (Option.some Jvm.ClassFile.FieldType.int) { frames := 6, cells := 1, slots := 6, locals := 90 } 1 6 [.ref p0, .int p1] S M X (Sum.map id (fun v => some (Value.int v)) r, M) := by
  refine zMX.intro (L0 := [(0, .ref p0), (1, .int p1)]) hl (by decide) (Nat.le_of_ble_eq_true rfl) rfl (fun Γ C0 => ?_)
  unfold f_X10_account at hf
  refine r_aload_n C0 dX10_account_0 rfl 0 rfl ?_
  refine r_getR C0 (C := RX10) (T := TX10) cl_X10 (K_X10_o hk_p0) (k := 1) (by decide) qw_365 rfl (K_X10_now_r hk_p0) dX10_account_1 ?_
  refine r_getR C0 (C := RX5) (T := TX5) cl_X5 (K_X5_o (K_X10_now_k hk_p0)) (k := 4) (by decide) qw_424 rfl (K_X5_ledger_r (K_X10_now_k hk_p0)) dX10_account_4 ?_
  refine r_astore_n (L' := [(2, .ref ((p0 + 3) + 7)), (0, .ref p0), (1, .int p1)]) C0 dX10_account_7 rfl (by decide) rfl ?_
  refine r_iload_n C0 dX10_account_8 rfl 2 rfl ?_
  refine z_ite hf (fun hx hf => ?_) (fun hx0 hf => ?_)
  · refine r_tsIn (off := 47) C0 56 dX10_account_9 (by rw [hx]; decide) (by rw [hx]; decide) (by rw [hx]; decide) (by decide) ?_
    refine r_aload_n C0 dX10_account_56 rfl 0 rfl ?_
    refine r_getI C0 (C := RX1) (T := TX1) cl_X1 (K_X1_o (K_X5_ledger_k (K_X10_now_k hk_p0))) (k := 0) (by decide) qw_425 rfl dX10_account_57 ?_
    obtain rfl := Option.some.inj hf
    refine r_widen (k1 := 1) (s1 := 6) (by decide) (by decide) ?_
    exact rX_iret C0 rfl dX10_account_60
  refine z_ite hf (fun hx hf => ?_) (fun hx1 hf => ?_)
  · refine r_tsIn (off := 52) C0 61 dX10_account_9 (by rw [hx]; decide) (by rw [hx]; decide) (by rw [hx]; decide) (by decide) ?_
    refine r_aload_n C0 dX10_account_61 rfl 0 rfl ?_
    refine r_getI C0 (C := RX1) (T := TX1) cl_X1 (K_X1_o (K_X5_ledger_k (K_X10_now_k hk_p0))) (k := 1) (by decide) qw_426 rfl dX10_account_62 ?_
    obtain rfl := Option.some.inj hf
    refine r_widen (k1 := 1) (s1 := 6) (by decide) (by decide) ?_
    exact rX_iret C0 rfl dX10_account_65
  refine z_ite hf (fun hx hf => ?_) (fun hx2 hf => ?_)
  · refine r_tsIn (off := 57) C0 66 dX10_account_9 (by rw [hx]; decide) (by rw [hx]; decide) (by rw [hx]; decide) (by decide) ?_
    refine r_aload_n C0 dX10_account_66 rfl 0 rfl ?_
    refine r_getI C0 (C := RX1) (T := TX1) cl_X1 (K_X1_o (K_X5_ledger_k (K_X10_now_k hk_p0))) (k := 2) (by decide) qw_427 rfl dX10_account_67 ?_
    obtain rfl := Option.some.inj hf
    refine r_widen (k1 := 1) (s1 := 6) (by decide) (by decide) ?_
    exact rX_iret C0 rfl dX10_account_70
  refine z_ite hf (fun hx hf => ?_) (fun hx3 hf => ?_)
  · refine r_tsIn (off := 62) C0 71 dX10_account_9 (by rw [hx]; decide) (by rw [hx]; decide) (by rw [hx]; decide) (by decide) ?_
    refine r_aload_n C0 dX10_account_71 rfl 1 rfl ?_
    refine r_getR C0 (C := RX10) (T := TX10) cl_X10 (K_X10_o hk_p0) (k := 1) (by decide) qw_365 rfl (K_X10_now_r hk_p0) dX10_account_72 ?_
    refine r_callVi C0 (st := []) [] (p0 + 3) hf vs_89 (fun hl r1 hr1 => c_X5_aboardOfAll hl F (p0 + 3) (K_X10_now_k hk_p0) M r1 hr1) (K_X5_o (K_X10_now_k hk_p0)) rfl rfl rfl rfl (Nat.le_of_ble_eq_true rfl) dX10_account_75 (zrm_ok rfl) (fun r1 hr1 hf => ?_)
    obtain rfl := Option.some.inj hf
    refine r_widen (k1 := 1) (s1 := 6) (by decide) (by decide) ?_
    exact rX_iret C0 rfl dX10_account_78
  refine z_ite hf (fun hx hf => ?_) (fun hx4 hf => ?_)
  · refine r_tsIn (off := 70) C0 79 dX10_account_9 (by rw [hx]; decide) (by rw [hx]; decide) (by rw [hx]; decide) (by decide) ?_
    refine r_aload_n C0 dX10_account_79 rfl 0 rfl ?_
    refine r_getI C0 (C := RX1) (T := TX1) cl_X1 (K_X1_o (K_X5_ledger_k (K_X10_now_k hk_p0))) (k := 3) (by decide) qw_432 rfl dX10_account_80 ?_
    obtain rfl := Option.some.inj hf
    refine r_widen (k1 := 1) (s1 := 6) (by decide) (by decide) ?_
    exact rX_iret C0 rfl dX10_account_83
  refine z_ite hf (fun hx hf => ?_) (fun hx5 hf => ?_)
  · refine r_tsIn (off := 75) C0 84 dX10_account_9 (by rw [hx]; decide) (by rw [hx]; decide) (by rw [hx]; decide) (by decide) ?_
    refine r_aload_n C0 dX10_account_84 rfl 0 rfl ?_
    refine r_getI C0 (C := RX1) (T := TX1) cl_X1 (K_X1_o (K_X5_ledger_k (K_X10_now_k hk_p0))) (k := 4) (by decide) qw_433 rfl dX10_account_85 ?_
    obtain rfl := Option.some.inj hf
    refine r_widen (k1 := 1) (s1 := 6) (by decide) (by decide) ?_
    exact rX_iret C0 rfl dX10_account_88
  refine z_ite hf (fun hx hf => ?_) (fun hx6 hf => ?_)
  · refine r_tsIn (off := 80) C0 89 dX10_account_9 (by rw [hx]; decide) (by rw [hx]; decide) (by rw [hx]; decide) (by decide) ?_
    refine r_aload_n C0 dX10_account_89 rfl 0 rfl ?_
    refine r_getI C0 (C := RX1) (T := TX1) cl_X1 (K_X1_o (K_X5_ledger_k (K_X10_now_k hk_p0))) (k := 5) (by decide) qw_434 rfl dX10_account_90 ?_
    obtain rfl := Option.some.inj hf
    refine r_widen (k1 := 1) (s1 := 6) (by decide) (by decide) ?_
    exact rX_iret C0 rfl dX10_account_93
  refine z_ite hf (fun hx hf => ?_) (fun hx7 hf => ?_)
  · refine r_tsIn (off := 85) C0 94 dX10_account_9 (by rw [hx]; decide) (by rw [hx]; decide) (by rw [hx]; decide) (by decide) ?_
    refine r_aload_n C0 dX10_account_94 rfl 0 rfl ?_
    refine r_getI C0 (C := RX1) (T := TX1) cl_X1 (K_X1_o (K_X5_ledger_k (K_X10_now_k hk_p0))) (k := 6) (by decide) qw_435 rfl dX10_account_95 ?_
    obtain rfl := Option.some.inj hf
    refine r_widen (k1 := 1) (s1 := 6) (by decide) (by decide) ?_
    exact rX_iret C0 rfl dX10_account_98
  have hy0 := z_ne (a := 0) hx0 (by decide)
  have hy1 := z_ne (a := 1) hx1 (by decide)
  have hy2 := z_ne (a := 2) hx2 (by decide)
  have hy3 := z_ne (a := 3) hx3 (by decide)
  have hy4 := z_ne (a := 4) hx4 (by decide)
  have hy5 := z_ne (a := 5) hx5 (by decide)
  have hy6 := z_ne (a := 6) hx6 (by decide)
  have hy7 := z_ne (a := 7) hx7 (by decide)
  refine r_tsOut C0 99 dX10_account_9 (by omega) (by decide) ?_
  obtain rfl := Option.some.inj hf
  exact rX_throwS C0 (e := 1) (text := "no such account") (by decide +kernel) qw_339 qw_340 (by decide +kernel) ht_69_a ht_69_b dX10_account_99 dX10_account_102 dX10_account_103 dX10_account_105 dX10_account_108 rfl (Nat.le_of_ble_eq_true rfl) (Nat.le_of_ble_eq_true rfl) (Nat.le_of_ble_eq_true rfl) (Nat.le_of_ble_eq_true rfl) (Nat.le_of_ble_eq_true rfl) (Nat.le_of_ble_eq_true rfl)
set_option maxHeartbeats 4000000 in
set_option maxRecDepth 100000 in
theorem c_X10_take {l : Launch} {E : zEn} {S : zSk} {X : zMl} (hl : l.stackTraces = false) (F : Nat) (p0 : Nat) (p1 : Int32) (p2 : Int32) (hk_p0 : K_X10 S p0) (M : zMi) (r : (Nat ⊕ Int32) × zMi) (hf : f_X10_take F p0 p1 p2 M = some r) : zMX l E yX10_take cX10_take 4 (Option.some Jvm.ClassFile.FieldType.int) { frames := 7, cells := 3, slots := 18, locals := 112 } 3 18 [.ref p0, .int p1, .int p2] S M X (Sum.map id (fun v => some (Value.int v)) r.1, r.2) := by
  refine zMX.intro (L0 := [(0, .ref p0), (1, .int p1), (2, .int p2)]) hl (by decide) (Nat.le_of_ble_eq_true rfl) rfl (fun Γ C0 => ?_)
  unfold f_X10_take at hf
  refine r_aload_n C0 dX10_take_0 rfl 0 rfl ?_
  refine r_iload_n C0 dX10_take_1 rfl 1 rfl ?_
  refine rX_callVp C0 (st := []) (fun q => some (Value.ref q)) [.int p1] p0 hf vs_87 (fun hl r9 h9 => c_X10_existingShip hl F p0 p1 hk_p0 M r9 h9) (K_X10_o hk_p0) rfl rfl rfl rfl (Nat.le_of_ble_eq_true rfl) dX10_take_2 (zrm_ok rfl) (fun e hf => ?_) (fun q2 hq2 hf => ?_)
  · obtain rfl := Option.some.inj hf
    exact rX_out C0 rfl (by decide) (by decide)
  refine r_eqst (st1 := [.ref q2]) rfl ?_
  have hk_q2 := n_X10_existingShip hq2 hk_p0
  refine r_astore_n (L' := [(3, .ref q2), (0, .ref p0), (1, .int p1), (2, .int p2)]) C0 dX10_take_5 rfl (by decide) rfl ?_
  refine r_iload_n C0 dX10_take_6 rfl 3 rfl ?_
  refine r_iconst (v := 1) C0 dX10_take_7 (by decide) ?_
  refine r_sipush (v := 999) C0 dX10_take_8 (by decide) ?_
  refine rX_callSp C0 (st := []) (fun _ => none) [.int p2, .int (1 : Int32), .int (999 : Int32)] hf vs_71 (fun hl r9 h9 => c_X10_requireRange hl F p2 (1 : Int32) (999 : Int32) M r9 h9) rfl rfl (Nat.le_of_ble_eq_true rfl) dX10_take_11 (zrm_ok rfl) (fun e hf => ?_) (fun x4 hx4 hf => ?_)
  · obtain rfl := Option.some.inj hf
    exact rX_out C0 rfl (by decide) (by decide)
  refine r_eqst (st1 := []) rfl ?_
  refine r_aload_n C0 dX10_take_14 rfl 1 rfl ?_
  refine r_getR C0 (C := RX10) (T := TX10) cl_X10 (K_X10_o hk_p0) (k := 1) (by decide) qw_365 rfl (K_X10_now_r hk_p0) dX10_take_15 ?_
  refine r_aload_n C0 dX10_take_18 rfl 0 rfl ?_
  refine r_iload_n C0 dX10_take_19 rfl 3 rfl ?_
  refine r_callVi C0 (st := []) [.ref q2, .int p2] (p0 + 3) hf vs_90 (fun hl r5 hr5 => c_X5_canLoadOnto hl F (p0 + 3) q2 p2 (K_X10_now_k hk_p0) hk_q2 M r5 hr5) (K_X5_o (K_X10_now_k hk_p0)) rfl rfl rfl rfl (Nat.le_of_ble_eq_true rfl) dX10_take_20 (zrm_ok rfl) (fun r5 hr5 hf => ?_)
  refine rX_callSp C0 (st := []) (fun _ => none) [.int r5] hf vs_73 (fun hl r9 h9 => c_X10_require hl F r5 M r9 h9) rfl rfl (Nat.le_of_ble_eq_true rfl) dX10_take_23 (zrm_ok rfl) (fun e hf => ?_) (fun x7 hx7 hf => ?_)
  · obtain rfl := Option.some.inj hf
    exact rX_out C0 rfl (by decide) (by decide)
  refine r_eqst (st1 := []) rfl ?_
  refine r_aload_n C0 dX10_take_26 rfl 1 rfl ?_
  refine r_getR C0 (C := RX10) (T := TX10) cl_X10 (K_X10_o hk_p0) (k := 3) (by decide) qw_369 rfl (K_X10_history_r hk_p0) dX10_take_27 ?_
  refine r_aload_n C0 dX10_take_30 rfl 1 rfl ?_
  refine r_getR C0 (C := RX10) (T := TX10) cl_X10 (K_X10_o hk_p0) (k := 1) (by decide) qw_365 rfl (K_X10_now_r hk_p0) dX10_take_31 ?_
  refine r_callVm C0 (st := []) [.ref (p0 + 3)] (p0 + 45) hf vs_91 (fun hl r8 hr8 => c_X0_remember hl F (p0 + 45) (p0 + 3) (K_X10_history_k hk_p0) (K_X10_now_k hk_p0) M r8 hr8) (K_X0_o (K_X10_history_k hk_p0)) rfl rfl rfl rfl (Nat.le_of_ble_eq_true rfl) dX10_take_34 (zrm_ok rfl) (fun r8 hr8 hf => ?_)
  refine r_aload_n C0 dX10_take_37 rfl 1 rfl ?_
  refine r_getR C0 (C := RX10) (T := TX10) cl_X10 (K_X10_o hk_p0) (k := 1) (by decide) qw_365 rfl (K_X10_now_r hk_p0) dX10_take_38 ?_
  refine r_aload_n C0 dX10_take_41 rfl 0 rfl ?_
  refine r_iload_n C0 dX10_take_42 rfl 3 rfl ?_
  refine r_callVm C0 (st := []) [.ref q2, .int p2] (p0 + 3) hf vs_92 (fun hl r9 hr9 => c_X5_loadOnto hl F (p0 + 3) q2 p2 (K_X10_now_k hk_p0) hk_q2 r8 r9 hr9) (K_X5_o (K_X10_now_k hk_p0)) rfl rfl rfl rfl (Nat.le_of_ble_eq_true rfl) dX10_take_43 (zrm_ok rfl) (fun r9 hr9 hf => ?_)
  refine r_aload_n C0 dX10_take_46 rfl 0 rfl ?_
  refine r_getI C0 (C := RX3) (T := TX3) cl_X3 (K_X3_o hk_q2) (k := 4) (by decide) qw_418 rfl dX10_take_47 ?_
  obtain rfl := Option.some.inj hf
  exact rX_iret C0 rfl dX10_take_50
set_option maxHeartbeats 4000000 in
set_option maxRecDepth 100000 in
theorem c_X10_send {l : Launch} {E : zEn} {S : zSk} {X : zMl} (hl : l.stackTraces = false) (F : Nat) (p0 : Nat) (p1 : Int32) (hk_p0 : K_X10 S p0) (M : zMi) (r : (Nat ⊕ Int32) × zMi) (hf : f_X10_send F p0 p1 M = some r) : zMX l E yX10_send cX10_send 3 (Option.some Jvm.ClassFile.FieldType.int) { frames := 7, cells := 2, slots := 12, locals := 112 } 2 12 [.ref p0, .int p1] S M X (Sum.map id (fun v => some (Value.int v)) r.1, r.2) := by
  refine zMX.intro (L0 := [(0, .ref p0), (1, .int p1)]) hl (by decide) (Nat.le_of_ble_eq_true rfl) rfl (fun Γ C0 => ?_)
  unfold f_X10_send at hf
  refine r_aload_n C0 dX10_send_0 rfl 0 rfl ?_
  refine r_iload_n C0 dX10_send_1 rfl 1 rfl ?_
  refine rX_callVp C0 (st := []) (fun q => some (Value.ref q)) [.int p1] p0 hf vs_87 (fun hl r9 h9 => c_X10_existingShip hl F p0 p1 hk_p0 M r9 h9) (K_X10_o hk_p0) rfl rfl rfl rfl (Nat.le_of_ble_eq_true rfl) dX10_send_2 (zrm_ok rfl) (fun e hf => ?_) (fun q2 hq2 hf => ?_)
  · obtain rfl := Option.some.inj hf
    exact rX_out C0 rfl (by decide) (by decide)
  refine r_eqst (st1 := [.ref q2]) rfl ?_
  have hk_q2 := n_X10_existingShip hq2 hk_p0
  refine r_astore_n (L' := [(2, .ref q2), (0, .ref p0), (1, .int p1)]) C0 dX10_send_5 rfl (by decide) rfl ?_
  refine r_aload_n C0 dX10_send_6 rfl 1 rfl ?_
  refine r_getR C0 (C := RX10) (T := TX10) cl_X10 (K_X10_o hk_p0) (k := 1) (by decide) qw_365 rfl (K_X10_now_r hk_p0) dX10_send_7 ?_
  refine r_aload_n C0 dX10_send_10 rfl 0 rfl ?_
  refine r_callVi C0 (st := []) [.ref q2] (p0 + 3) hf vs_93 (fun hl r3 hr3 => c_X5_canSendOut hl F (p0 + 3) q2 (K_X10_now_k hk_p0) hk_q2 M r3 hr3) (K_X5_o (K_X10_now_k hk_p0)) rfl rfl rfl rfl (Nat.le_of_ble_eq_true rfl) dX10_send_11 (zrm_ok rfl) (fun r3 hr3 hf => ?_)
  refine rX_callSp C0 (st := []) (fun _ => none) [.int r3] hf vs_73 (fun hl r9 h9 => c_X10_require hl F r3 M r9 h9) rfl rfl (Nat.le_of_ble_eq_true rfl) dX10_send_14 (zrm_ok rfl) (fun e hf => ?_) (fun x5 hx5 hf => ?_)
  · obtain rfl := Option.some.inj hf
    exact rX_out C0 rfl (by decide) (by decide)
  refine r_eqst (st1 := []) rfl ?_
  refine r_aload_n C0 dX10_send_17 rfl 1 rfl ?_
  refine r_getR C0 (C := RX10) (T := TX10) cl_X10 (K_X10_o hk_p0) (k := 3) (by decide) qw_369 rfl (K_X10_history_r hk_p0) dX10_send_18 ?_
  refine r_aload_n C0 dX10_send_21 rfl 1 rfl ?_
  refine r_getR C0 (C := RX10) (T := TX10) cl_X10 (K_X10_o hk_p0) (k := 1) (by decide) qw_365 rfl (K_X10_now_r hk_p0) dX10_send_22 ?_
  refine r_callVm C0 (st := []) [.ref (p0 + 3)] (p0 + 45) hf vs_91 (fun hl r6 hr6 => c_X0_remember hl F (p0 + 45) (p0 + 3) (K_X10_history_k hk_p0) (K_X10_now_k hk_p0) M r6 hr6) (K_X0_o (K_X10_history_k hk_p0)) rfl rfl rfl rfl (Nat.le_of_ble_eq_true rfl) dX10_send_25 (zrm_ok rfl) (fun r6 hr6 hf => ?_)
  refine r_aload_n C0 dX10_send_28 rfl 1 rfl ?_
  refine r_getR C0 (C := RX10) (T := TX10) cl_X10 (K_X10_o hk_p0) (k := 1) (by decide) qw_365 rfl (K_X10_now_r hk_p0) dX10_send_29 ?_
  refine r_aload_n C0 dX10_send_32 rfl 0 rfl ?_
  refine r_callVm C0 (st := []) [.ref q2] (p0 + 3) hf vs_94 (fun hl r7 hr7 => c_X5_sendOut hl F (p0 + 3) q2 (K_X10_now_k hk_p0) hk_q2 r6 r7 hr7) (K_X5_o (K_X10_now_k hk_p0)) rfl rfl rfl rfl (Nat.le_of_ble_eq_true rfl) dX10_send_33 (zrm_ok rfl) (fun r7 hr7 hf => ?_)
  refine r_aload_n C0 dX10_send_36 rfl 0 rfl ?_
  refine r_getI C0 (C := RX3) (T := TX3) cl_X3 (K_X3_o hk_q2) (k := 6) (by decide) qw_420 rfl dX10_send_37 ?_
  obtain rfl := Option.some.inj hf
  exact rX_iret C0 rfl dX10_send_40
set_option maxHeartbeats 4000000 in
set_option maxRecDepth 100000 in
theorem c_X10_recall {l : Launch} {E : zEn} {S : zSk} {X : zMl} (hl : l.stackTraces = false) (F : Nat) (p0 : Nat) (p1 : Int32) (hk_p0 : K_X10 S p0) (M : zMi) (r : (Nat ⊕ Int32) × zMi) (hf : f_X10_recall F p0 p1 M = some r) : zMX l E yX10_recall cX10_recall 3 (Option.some Jvm.ClassFile.FieldType.int) { frames := 7, cells := 2, slots := 12, locals := 112 } 2 12 [.ref p0, .int p1] S M X (Sum.map id (fun v => some (Value.int v)) r.1, r.2) := by
  refine zMX.intro (L0 := [(0, .ref p0), (1, .int p1)]) hl (by decide) (Nat.le_of_ble_eq_true rfl) rfl (fun Γ C0 => ?_)
  unfold f_X10_recall at hf
  refine r_aload_n C0 dX10_recall_0 rfl 0 rfl ?_
  refine r_iload_n C0 dX10_recall_1 rfl 1 rfl ?_
  refine rX_callVp C0 (st := []) (fun q => some (Value.ref q)) [.int p1] p0 hf vs_87 (fun hl r9 h9 => c_X10_existingShip hl F p0 p1 hk_p0 M r9 h9) (K_X10_o hk_p0) rfl rfl rfl rfl (Nat.le_of_ble_eq_true rfl) dX10_recall_2 (zrm_ok rfl) (fun e hf => ?_) (fun q2 hq2 hf => ?_)
  · obtain rfl := Option.some.inj hf
    exact rX_out C0 rfl (by decide) (by decide)
  refine r_eqst (st1 := [.ref q2]) rfl ?_
  have hk_q2 := n_X10_existingShip hq2 hk_p0
  refine r_astore_n (L' := [(2, .ref q2), (0, .ref p0), (1, .int p1)]) C0 dX10_recall_5 rfl (by decide) rfl ?_
  refine r_aload_n C0 dX10_recall_6 rfl 1 rfl ?_
  refine r_getR C0 (C := RX10) (T := TX10) cl_X10 (K_X10_o hk_p0) (k := 1) (by decide) qw_365 rfl (K_X10_now_r hk_p0) dX10_recall_7 ?_
  refine r_aload_n C0 dX10_recall_10 rfl 0 rfl ?_
  refine r_callVi C0 (st := []) [.ref q2] (p0 + 3) hf vs_95 (fun hl r3 hr3 => c_X5_canCallHome hl F (p0 + 3) q2 (K_X10_now_k hk_p0) hk_q2 M r3 hr3) (K_X5_o (K_X10_now_k hk_p0)) rfl rfl rfl rfl (Nat.le_of_ble_eq_true rfl) dX10_recall_11 (zrm_ok rfl) (fun r3 hr3 hf => ?_)
  refine rX_callSp C0 (st := []) (fun _ => none) [.int r3] hf vs_73 (fun hl r9 h9 => c_X10_require hl F r3 M r9 h9) rfl rfl (Nat.le_of_ble_eq_true rfl) dX10_recall_14 (zrm_ok rfl) (fun e hf => ?_) (fun x5 hx5 hf => ?_)
  · obtain rfl := Option.some.inj hf
    exact rX_out C0 rfl (by decide) (by decide)
  refine r_eqst (st1 := []) rfl ?_
  refine r_aload_n C0 dX10_recall_17 rfl 1 rfl ?_
  refine r_getR C0 (C := RX10) (T := TX10) cl_X10 (K_X10_o hk_p0) (k := 3) (by decide) qw_369 rfl (K_X10_history_r hk_p0) dX10_recall_18 ?_
  refine r_aload_n C0 dX10_recall_21 rfl 1 rfl ?_
  refine r_getR C0 (C := RX10) (T := TX10) cl_X10 (K_X10_o hk_p0) (k := 1) (by decide) qw_365 rfl (K_X10_now_r hk_p0) dX10_recall_22 ?_
  refine r_callVm C0 (st := []) [.ref (p0 + 3)] (p0 + 45) hf vs_91 (fun hl r6 hr6 => c_X0_remember hl F (p0 + 45) (p0 + 3) (K_X10_history_k hk_p0) (K_X10_now_k hk_p0) M r6 hr6) (K_X0_o (K_X10_history_k hk_p0)) rfl rfl rfl rfl (Nat.le_of_ble_eq_true rfl) dX10_recall_25 (zrm_ok rfl) (fun r6 hr6 hf => ?_)
  refine r_aload_n C0 dX10_recall_28 rfl 1 rfl ?_
  refine r_getR C0 (C := RX10) (T := TX10) cl_X10 (K_X10_o hk_p0) (k := 1) (by decide) qw_365 rfl (K_X10_now_r hk_p0) dX10_recall_29 ?_
  refine r_aload_n C0 dX10_recall_32 rfl 0 rfl ?_
  refine r_callVm C0 (st := []) [.ref q2] (p0 + 3) hf vs_96 (fun hl r7 hr7 => c_X5_callHome hl F (p0 + 3) q2 (K_X10_now_k hk_p0) hk_q2 r6 r7 hr7) (K_X5_o (K_X10_now_k hk_p0)) rfl rfl rfl rfl (Nat.le_of_ble_eq_true rfl) dX10_recall_33 (zrm_ok rfl) (fun r7 hr7 hf => ?_)
  refine r_aload_n C0 dX10_recall_36 rfl 0 rfl ?_
  refine r_getI C0 (C := RX3) (T := TX3) cl_X3 (K_X3_o hk_q2) (k := 6) (by decide) qw_420 rfl dX10_recall_37 ?_
  obtain rfl := Option.some.inj hf
  exact rX_iret C0 rfl dX10_recall_40
set_option maxHeartbeats 4000000 in
set_option maxRecDepth 100000 in
theorem c_X10_extend {l : Launch} {E : zEn} {S : zSk} {X : zMl} (hl : l.stackTraces = false) (F : Nat) (p0 : Nat) (p1 : Int32) (p2 : Int32) (hk_p0 : K_X10 S p0) (M : zMi) (r : (Nat ⊕ Int32) × zMi) (hf : f_X10_extend F p0 p1 p2 M = some r) : zMX l E yX10_extend cX10_extend 4 (Option.some Jvm.ClassFile.FieldType.int) { frames := 7, cells := 3, slots := 18, locals := 112 } 3 18 [.ref p0, .int p1, .int p2] S M X (Sum.map id (fun v => some (Value.int v)) r.1, r.2) := by
  refine zMX.intro (L0 := [(0, .ref p0), (1, .int p1), (2, .int p2)]) hl (by decide) (Nat.le_of_ble_eq_true rfl) rfl (fun Γ C0 => ?_)
  unfold f_X10_extend at hf
  refine r_aload_n C0 dX10_extend_0 rfl 0 rfl ?_
  refine r_getR C0 (C := RX10) (T := TX10) cl_X10 (K_X10_o hk_p0) (k := 1) (by decide) qw_365 rfl (K_X10_now_r hk_p0) dX10_extend_1 ?_
  refine r_iload_n C0 dX10_extend_4 rfl 1 rfl ?_
  refine rX_callSp C0 (st := []) (fun q => some (Value.ref q)) [.ref (p0 + 3), .int p1] hf vs_84 (fun hl r9 h9 => c_X10_existingZone hl F (p0 + 3) p1 (K_X10_now_k hk_p0) M r9 h9) rfl rfl (Nat.le_of_ble_eq_true rfl) dX10_extend_5 (zrm_ok rfl) (fun e hf => ?_) (fun q2 hq2 hf => ?_)
  · obtain rfl := Option.some.inj hf
    exact rX_out C0 rfl (by decide) (by decide)
  refine r_eqst (st1 := [.ref q2]) rfl ?_
  have hk_q2 := n_X10_existingZone hq2 (K_X10_now_k hk_p0)
  refine r_astore_n (L' := [(3, .ref q2), (0, .ref p0), (1, .int p1), (2, .int p2)]) C0 dX10_extend_8 rfl (by decide) rfl ?_
  refine r_iload_n C0 dX10_extend_9 rfl 3 rfl ?_
  refine r_iconst (v := 1) C0 dX10_extend_10 (by decide) ?_
  refine r_bipush (v := 99) C0 dX10_extend_11 (by decide) ?_
  refine rX_callSp C0 (st := []) (fun _ => none) [.int p2, .int (1 : Int32), .int (99 : Int32)] hf vs_71 (fun hl r9 h9 => c_X10_requireRange hl F p2 (1 : Int32) (99 : Int32) M r9 h9) rfl rfl (Nat.le_of_ble_eq_true rfl) dX10_extend_13 (zrm_ok rfl) (fun e hf => ?_) (fun x4 hx4 hf => ?_)
  · obtain rfl := Option.some.inj hf
    exact rX_out C0 rfl (by decide) (by decide)
  refine r_eqst (st1 := []) rfl ?_
  refine r_aload_n C0 dX10_extend_16 rfl 1 rfl ?_
  refine r_getR C0 (C := RX10) (T := TX10) cl_X10 (K_X10_o hk_p0) (k := 1) (by decide) qw_365 rfl (K_X10_now_r hk_p0) dX10_extend_17 ?_
  refine r_aload_n C0 dX10_extend_20 rfl 0 rfl ?_
  refine r_iload_n C0 dX10_extend_21 rfl 3 rfl ?_
  refine r_callVi C0 (st := []) [.ref q2, .int p2] (p0 + 3) hf vs_97 (fun hl r5 hr5 => c_X5_canProlong hl F (p0 + 3) q2 p2 (K_X10_now_k hk_p0) hk_q2 M r5 hr5) (K_X5_o (K_X10_now_k hk_p0)) rfl rfl rfl rfl (Nat.le_of_ble_eq_true rfl) dX10_extend_22 (zrm_ok rfl) (fun r5 hr5 hf => ?_)
  refine rX_callSp C0 (st := []) (fun _ => none) [.int r5] hf vs_73 (fun hl r9 h9 => c_X10_require hl F r5 M r9 h9) rfl rfl (Nat.le_of_ble_eq_true rfl) dX10_extend_25 (zrm_ok rfl) (fun e hf => ?_) (fun x7 hx7 hf => ?_)
  · obtain rfl := Option.some.inj hf
    exact rX_out C0 rfl (by decide) (by decide)
  refine r_eqst (st1 := []) rfl ?_
  refine r_aload_n C0 dX10_extend_28 rfl 1 rfl ?_
  refine r_getR C0 (C := RX10) (T := TX10) cl_X10 (K_X10_o hk_p0) (k := 3) (by decide) qw_369 rfl (K_X10_history_r hk_p0) dX10_extend_29 ?_
  refine r_aload_n C0 dX10_extend_32 rfl 1 rfl ?_
  refine r_getR C0 (C := RX10) (T := TX10) cl_X10 (K_X10_o hk_p0) (k := 1) (by decide) qw_365 rfl (K_X10_now_r hk_p0) dX10_extend_33 ?_
  refine r_callVm C0 (st := []) [.ref (p0 + 3)] (p0 + 45) hf vs_91 (fun hl r8 hr8 => c_X0_remember hl F (p0 + 45) (p0 + 3) (K_X10_history_k hk_p0) (K_X10_now_k hk_p0) M r8 hr8) (K_X0_o (K_X10_history_k hk_p0)) rfl rfl rfl rfl (Nat.le_of_ble_eq_true rfl) dX10_extend_36 (zrm_ok rfl) (fun r8 hr8 hf => ?_)
  refine r_aload_n C0 dX10_extend_39 rfl 1 rfl ?_
  refine r_getR C0 (C := RX10) (T := TX10) cl_X10 (K_X10_o hk_p0) (k := 1) (by decide) qw_365 rfl (K_X10_now_r hk_p0) dX10_extend_40 ?_
  refine r_aload_n C0 dX10_extend_43 rfl 0 rfl ?_
  refine r_iload_n C0 dX10_extend_44 rfl 3 rfl ?_
  refine r_callVm C0 (st := []) [.ref q2, .int p2] (p0 + 3) hf vs_98 (fun hl r9 hr9 => c_X5_prolong hl F (p0 + 3) q2 p2 (K_X10_now_k hk_p0) hk_q2 r8 r9 hr9) (K_X5_o (K_X10_now_k hk_p0)) rfl rfl rfl rfl (Nat.le_of_ble_eq_true rfl) dX10_extend_45 (zrm_ok rfl) (fun r9 hr9 hf => ?_)
  refine r_aload_n C0 dX10_extend_48 rfl 0 rfl ?_
  refine r_getI C0 (C := RX9) (T := TX9) cl_X9 (K_X9_o hk_q2) (k := 2) (by decide) qw_403 rfl dX10_extend_49 ?_
  obtain rfl := Option.some.inj hf
  exact rX_iret C0 rfl dX10_extend_52
set_option maxHeartbeats 4000000 in
set_option maxRecDepth 100000 in
theorem c_X10_buy {l : Launch} {E : zEn} {S : zSk} {X : zMl} (hl : l.stackTraces = false) (F : Nat) (p0 : Nat) (p1 : Int32) (hk_p0 : K_X10 S p0) (M : zMi) (r : (Nat ⊕ Int32) × zMi) (hf : f_X10_buy F p0 p1 M = some r) : zMX l E yX10_buy cX10_buy 2 (Option.some Jvm.ClassFile.FieldType.int) { frames := 7, cells := 2, slots := 12, locals := 112 } 2 12 [.ref p0, .int p1] S M X (Sum.map id (fun v => some (Value.int v)) r.1, r.2) := by
  refine zMX.intro (L0 := [(0, .ref p0), (1, .int p1)]) hl (by decide) (Nat.le_of_ble_eq_true rfl) rfl (fun Γ C0 => ?_)
  unfold f_X10_buy at hf
  refine r_iload_n C0 dX10_buy_0 rfl 1 rfl ?_
  refine r_iconst (v := 1) C0 dX10_buy_1 (by decide) ?_
  refine r_sipush (v := 999) C0 dX10_buy_2 (by decide) ?_
  refine rX_callSp C0 (st := []) (fun _ => none) [.int p1, .int (1 : Int32), .int (999 : Int32)] hf vs_71 (fun hl r9 h9 => c_X10_requireRange hl F p1 (1 : Int32) (999 : Int32) M r9 h9) rfl rfl (Nat.le_of_ble_eq_true rfl) dX10_buy_5 (zrm_ok rfl) (fun e hf => ?_) (fun x2 hx2 hf => ?_)
  · obtain rfl := Option.some.inj hf
    exact rX_out C0 rfl (by decide) (by decide)
  refine r_eqst (st1 := []) rfl ?_
  refine r_aload_n C0 dX10_buy_8 rfl 0 rfl ?_
  refine r_getR C0 (C := RX10) (T := TX10) cl_X10 (K_X10_o hk_p0) (k := 1) (by decide) qw_365 rfl (K_X10_now_r hk_p0) dX10_buy_9 ?_
  refine r_iload_n C0 dX10_buy_12 rfl 1 rfl ?_
  refine r_callVi C0 (st := []) [.int p1] (p0 + 3) hf vs_99 (fun hl r3 hr3 => c_X5_canPurchase hl F (p0 + 3) p1 (K_X10_now_k hk_p0) M r3 hr3) (K_X5_o (K_X10_now_k hk_p0)) rfl rfl rfl rfl (Nat.le_of_ble_eq_true rfl) dX10_buy_13 (zrm_ok rfl) (fun r3 hr3 hf => ?_)
  refine rX_callSp C0 (st := []) (fun _ => none) [.int r3] hf vs_73 (fun hl r9 h9 => c_X10_require hl F r3 M r9 h9) rfl rfl (Nat.le_of_ble_eq_true rfl) dX10_buy_16 (zrm_ok rfl) (fun e hf => ?_) (fun x5 hx5 hf => ?_)
  · obtain rfl := Option.some.inj hf
    exact rX_out C0 rfl (by decide) (by decide)
  refine r_eqst (st1 := []) rfl ?_
  refine r_aload_n C0 dX10_buy_19 rfl 0 rfl ?_
  refine r_getR C0 (C := RX10) (T := TX10) cl_X10 (K_X10_o hk_p0) (k := 3) (by decide) qw_369 rfl (K_X10_history_r hk_p0) dX10_buy_20 ?_
  refine r_aload_n C0 dX10_buy_23 rfl 0 rfl ?_
  refine r_getR C0 (C := RX10) (T := TX10) cl_X10 (K_X10_o hk_p0) (k := 1) (by decide) qw_365 rfl (K_X10_now_r hk_p0) dX10_buy_24 ?_
  refine r_callVm C0 (st := []) [.ref (p0 + 3)] (p0 + 45) hf vs_91 (fun hl r6 hr6 => c_X0_remember hl F (p0 + 45) (p0 + 3) (K_X10_history_k hk_p0) (K_X10_now_k hk_p0) M r6 hr6) (K_X0_o (K_X10_history_k hk_p0)) rfl rfl rfl rfl (Nat.le_of_ble_eq_true rfl) dX10_buy_27 (zrm_ok rfl) (fun r6 hr6 hf => ?_)
  refine r_aload_n C0 dX10_buy_30 rfl 0 rfl ?_
  refine r_getR C0 (C := RX10) (T := TX10) cl_X10 (K_X10_o hk_p0) (k := 1) (by decide) qw_365 rfl (K_X10_now_r hk_p0) dX10_buy_31 ?_
  refine r_iload_n C0 dX10_buy_34 rfl 1 rfl ?_
  refine r_callVm C0 (st := []) [.int p1] (p0 + 3) hf vs_100 (fun hl r7 hr7 => c_X5_purchase hl F (p0 + 3) p1 (K_X10_now_k hk_p0) r6 r7 hr7) (K_X5_o (K_X10_now_k hk_p0)) rfl rfl rfl rfl (Nat.le_of_ble_eq_true rfl) dX10_buy_35 (zrm_ok rfl) (fun r7 hr7 hf => ?_)
  refine r_aload_n C0 dX10_buy_38 rfl 0 rfl ?_
  refine r_getR C0 (C := RX10) (T := TX10) cl_X10 (K_X10_o hk_p0) (k := 1) (by decide) qw_365 rfl (K_X10_now_r hk_p0) dX10_buy_39 ?_
  refine r_getI C0 (C := RX5) (T := TX5) cl_X5 (K_X5_o (K_X10_now_k hk_p0)) (k := 7) (by decide) qw_379 rfl dX10_buy_42 ?_
  obtain rfl := Option.some.inj hf
  exact rX_iret C0 rfl dX10_buy_45
set_option maxHeartbeats 4000000 in
set_option maxRecDepth 100000 in
theorem c_X10_setWaves {l : Launch} {E : zEn} {S : zSk} {X : zMl} (hl : l.stackTraces = false) (F : Nat) (p0 : Nat) (p1 : Int32) (p2 : Int32) (hk_p0 : K_X10 S p0) (M : zMi) (r : (Nat ⊕ Int32) × zMi) (hf : f_X10_setWaves F p0 p1 p2 M = some r) : zMX l E yX10_setWaves cX10_setWaves 3 (Option.some Jvm.ClassFile.FieldType.int) { frames := 7, cells := 2, slots := 12, locals := 112 } 2 12 [.ref p0, .int p1, .int p2] S M X (Sum.map id (fun v => some (Value.int v)) r.1, r.2) := by
  refine zMX.intro (L0 := [(0, .ref p0), (1, .int p1), (2, .int p2)]) hl (by decide) (Nat.le_of_ble_eq_true rfl) rfl (fun Γ C0 => ?_)
  unfold f_X10_setWaves at hf
  refine r_iload_n C0 dX10_setWaves_0 rfl 1 rfl ?_
  refine r_iconst (v := 0) C0 dX10_setWaves_1 (by decide) ?_
  refine r_aload_n C0 dX10_setWaves_2 rfl 0 rfl ?_
  refine r_getR C0 (C := RX10) (T := TX10) cl_X10 (K_X10_o hk_p0) (k := 1) (by decide) qw_365 rfl (K_X10_now_r hk_p0) dX10_setWaves_3 ?_
  refine r_getR C0 (C := RX5) (T := TX5) cl_X5 (K_X5_o (K_X10_now_k hk_p0)) (k := 2) (by decide) qw_422 rfl (K_X5_weather_r (K_X10_now_k hk_p0)) dX10_setWaves_6 ?_
  refine r_getI C0 (C := RX8) (T := TX8) cl_X8 (K_X8_o (K_X5_weather_k (K_X10_now_k hk_p0))) (k := 0) (by decide) qw_450 rfl dX10_setWaves_9 ?_
  refine r_iconst (v := 1) C0 dX10_setWaves_12 (by decide) ?_
  refine r_isub C0 dX10_setWaves_13 ?_
  refine rX_callSp C0 (st := []) (fun _ => none) [.int p1, .int (0 : Int32), .int ((M ((p0 + 3) + 3) 0) - (1 : Int32))] hf vs_71 (fun hl r9 h9 => c_X10_requireRange hl F p1 (0 : Int32) ((M ((p0 + 3) + 3) 0) - (1 : Int32)) M r9 h9) rfl rfl (Nat.le_of_ble_eq_true rfl) dX10_setWaves_14 (zrm_ok rfl) (fun e hf => ?_) (fun x2 hx2 hf => ?_)
  · obtain rfl := Option.some.inj hf
    exact rX_out C0 rfl (by decide) (by decide)
  refine r_eqst (st1 := []) rfl ?_
  refine r_iload_n C0 dX10_setWaves_17 rfl 2 rfl ?_
  refine r_iconst (v := 0) C0 dX10_setWaves_18 (by decide) ?_
  refine r_bipush (v := 9) C0 dX10_setWaves_19 (by decide) ?_
  refine rX_callSp C0 (st := []) (fun _ => none) [.int p2, .int (0 : Int32), .int (9 : Int32)] hf vs_71 (fun hl r9 h9 => c_X10_requireRange hl F p2 (0 : Int32) (9 : Int32) M r9 h9) rfl rfl (Nat.le_of_ble_eq_true rfl) dX10_setWaves_21 (zrm_ok rfl) (fun e hf => ?_) (fun x4 hx4 hf => ?_)
  · obtain rfl := Option.some.inj hf
    exact rX_out C0 rfl (by decide) (by decide)
  refine r_eqst (st1 := []) rfl ?_
  refine r_aload_n C0 dX10_setWaves_24 rfl 0 rfl ?_
  refine r_getR C0 (C := RX10) (T := TX10) cl_X10 (K_X10_o hk_p0) (k := 3) (by decide) qw_369 rfl (K_X10_history_r hk_p0) dX10_setWaves_25 ?_
  refine r_aload_n C0 dX10_setWaves_28 rfl 0 rfl ?_
  refine r_getR C0 (C := RX10) (T := TX10) cl_X10 (K_X10_o hk_p0) (k := 1) (by decide) qw_365 rfl (K_X10_now_r hk_p0) dX10_setWaves_29 ?_
  refine r_callVm C0 (st := []) [.ref (p0 + 3)] (p0 + 45) hf vs_91 (fun hl r5 hr5 => c_X0_remember hl F (p0 + 45) (p0 + 3) (K_X10_history_k hk_p0) (K_X10_now_k hk_p0) M r5 hr5) (K_X0_o (K_X10_history_k hk_p0)) rfl rfl rfl rfl (Nat.le_of_ble_eq_true rfl) dX10_setWaves_32 (zrm_ok rfl) (fun r5 hr5 hf => ?_)
  refine r_aload_n C0 dX10_setWaves_35 rfl 0 rfl ?_
  refine r_getR C0 (C := RX10) (T := TX10) cl_X10 (K_X10_o hk_p0) (k := 1) (by decide) qw_365 rfl (K_X10_now_r hk_p0) dX10_setWaves_36 ?_
  refine r_getR C0 (C := RX5) (T := TX5) cl_X5 (K_X5_o (K_X10_now_k hk_p0)) (k := 2) (by decide) qw_422 rfl (K_X5_weather_r (K_X10_now_k hk_p0)) dX10_setWaves_39 ?_
  refine r_iload_n C0 dX10_setWaves_42 rfl 1 rfl ?_
  refine r_iload_n C0 dX10_setWaves_43 rfl 2 rfl ?_
  refine r_callVim C0 (st := []) [.int p1, .int p2] ((p0 + 3) + 3) hf vs_101 (fun hl r6 hr6 => c_X8_change hl F ((p0 + 3) + 3) p1 p2 (K_X5_weather_k (K_X10_now_k hk_p0)) r5 r6 hr6) (K_X8_o (K_X5_weather_k (K_X10_now_k hk_p0))) rfl rfl rfl rfl (Nat.le_of_ble_eq_true rfl) dX10_setWaves_44 (zrm_ok rfl) (fun r6 hr6 hf => ?_)
  obtain rfl := Option.some.inj hf
  exact rX_iret C0 rfl dX10_setWaves_47
set_option maxHeartbeats 4000000 in
set_option maxRecDepth 100000 in
theorem c_X10_pass {l : Launch} {E : zEn} {S : zSk} {X : zMl} (hl : l.stackTraces = false) (F : Nat) (p0 : Nat) (p1 : Int32) (hk_p0 : K_X10 S p0) (M : zMi) (r : (Nat ⊕ Int32) × zMi) (hf : f_X10_pass F p0 p1 M = some r) : zMX l E yX10_pass cX10_pass 3 (Option.some Jvm.ClassFile.FieldType.int) { frames := 7, cells := 1, slots := 6, locals := 136 } 1 6 [.ref p0, .int p1] S M X (Sum.map id (fun v => some (Value.int v)) r.1, r.2) := by
  refine zMX.intro (L0 := [(0, .ref p0), (1, .int p1)]) hl (by decide) (Nat.le_of_ble_eq_true rfl) rfl (fun Γ C0 => ?_)
  unfold f_X10_pass at hf
  refine r_iload_n C0 dX10_pass_0 rfl 1 rfl ?_
  refine r_iconst (v := 1) C0 dX10_pass_1 (by decide) ?_
  refine r_bipush (v := 99) C0 dX10_pass_2 (by decide) ?_
  refine rX_callSp C0 (st := []) (fun _ => none) [.int p1, .int (1 : Int32), .int (99 : Int32)] hf vs_71 (fun hl r9 h9 => c_X10_requireRange hl F p1 (1 : Int32) (99 : Int32) M r9 h9) rfl rfl (Nat.le_of_ble_eq_true rfl) dX10_pass_4 (zrm_ok rfl) (fun e hf => ?_) (fun x2 hx2 hf => ?_)
  · obtain rfl := Option.some.inj hf
    exact rX_out C0 rfl (by decide) (by decide)
  refine r_eqst (st1 := []) rfl ?_
  refine r_aload_n C0 dX10_pass_7 rfl 0 rfl ?_
  refine r_getR C0 (C := RX10) (T := TX10) cl_X10 (K_X10_o hk_p0) (k := 3) (by decide) qw_369 rfl (K_X10_history_r hk_p0) dX10_pass_8 ?_
  refine r_aload_n C0 dX10_pass_11 rfl 0 rfl ?_
  refine r_getR C0 (C := RX10) (T := TX10) cl_X10 (K_X10_o hk_p0) (k := 1) (by decide) qw_365 rfl (K_X10_now_r hk_p0) dX10_pass_12 ?_
  refine r_callVm C0 (st := []) [.ref (p0 + 3)] (p0 + 45) hf vs_91 (fun hl r3 hr3 => c_X0_remember hl F (p0 + 45) (p0 + 3) (K_X10_history_k hk_p0) (K_X10_now_k hk_p0) M r3 hr3) (K_X0_o (K_X10_history_k hk_p0)) rfl rfl rfl rfl (Nat.le_of_ble_eq_true rfl) dX10_pass_15 (zrm_ok rfl) (fun r3 hr3 hf => ?_)
  refine r_aload_n C0 dX10_pass_18 rfl 0 rfl ?_
  refine r_getR C0 (C := RX10) (T := TX10) cl_X10 (K_X10_o hk_p0) (k := 1) (by decide) qw_365 rfl (K_X10_now_r hk_p0) dX10_pass_19 ?_
  refine r_getR C0 (C := RX5) (T := TX5) cl_X5 (K_X5_o (K_X10_now_k hk_p0)) (k := 4) (by decide) qw_424 rfl (K_X5_ledger_r (K_X10_now_k hk_p0)) dX10_pass_22 ?_
  refine r_getI C0 (C := RX1) (T := TX1) cl_X1 (K_X1_o (K_X5_ledger_k (K_X10_now_k hk_p0))) (k := 1) (by decide) qw_426 rfl dX10_pass_25 ?_
  refine r_nm hf (fun x4 hf => ?_)
  refine r_istore_n (L' := [(2, .int x4), (0, .ref p0), (1, .int p1)]) C0 dX10_pass_28 rfl (by decide) rfl ?_
  refine r_aload_n C0 dX10_pass_29 rfl 1 rfl ?_
  refine r_getR C0 (C := RX10) (T := TX10) cl_X10 (K_X10_o hk_p0) (k := 1) (by decide) qw_365 rfl (K_X10_now_r hk_p0) dX10_pass_30 ?_
  refine r_iload_n C0 dX10_pass_33 rfl 2 rfl ?_
  refine r_callVm C0 (st := []) [.int p1] (p0 + 3) hf vs_102 (fun hl r5 hr5 => c_X5_passDays hl F (p0 + 3) p1 (K_X10_now_k hk_p0) r3 r5 hr5) (K_X5_o (K_X10_now_k hk_p0)) rfl rfl rfl rfl (Nat.le_of_ble_eq_true rfl) dX10_pass_34 (zrm_ok rfl) (fun r5 hr5 hf => ?_)
  refine r_aload_n C0 dX10_pass_37 rfl 1 rfl ?_
  refine r_getR C0 (C := RX10) (T := TX10) cl_X10 (K_X10_o hk_p0) (k := 1) (by decide) qw_365 rfl (K_X10_now_r hk_p0) dX10_pass_38 ?_
  refine r_getR C0 (C := RX5) (T := TX5) cl_X5 (K_X5_o (K_X10_now_k hk_p0)) (k := 4) (by decide) qw_424 rfl (K_X5_ledger_r (K_X10_now_k hk_p0)) dX10_pass_41 ?_
  refine r_getI C0 (C := RX1) (T := TX1) cl_X1 (K_X1_o (K_X5_ledger_k (K_X10_now_k hk_p0))) (k := 1) (by decide) qw_426 rfl dX10_pass_44 ?_
  refine r_iload_n C0 dX10_pass_47 rfl 0 rfl ?_
  refine r_isub C0 dX10_pass_48 ?_
  obtain rfl := Option.some.inj hf
  exact rX_iret C0 rfl dX10_pass_49
set_option maxHeartbeats 4000000 in
set_option maxRecDepth 100000 in
theorem c_X10_undo {l : Launch} {E : zEn} {S : zSk} {X : zMl} (hl : l.stackTraces = false) (F : Nat) (p0 : Nat) (hk_p0 : K_X10 S p0) (M : zMi) (r : (Nat ⊕ Int32) × zMi) (hf : f_X10_undo F p0 M = some r) : zMX l E yX10_undo cX10_undo 1 (Option.some Jvm.ClassFile.FieldType.int) { frames := 7, cells := 1, slots := 6, locals := 110 } 1 6 [.ref p0] S M X (Sum.map id (fun v => some (Value.int v)) r.1, r.2) := by
  refine zMX.intro (L0 := [(0, .ref p0)]) hl (by decide) (Nat.le_of_ble_eq_true rfl) rfl (fun Γ C0 => ?_)
  unfold f_X10_undo at hf
  refine r_aload_n C0 dX10_undo_0 rfl 0 rfl ?_
  refine r_getR C0 (C := RX10) (T := TX10) cl_X10 (K_X10_o hk_p0) (k := 3) (by decide) qw_369 rfl (K_X10_history_r hk_p0) dX10_undo_1 ?_
  refine r_getI C0 (C := RX0) (T := TX0) cl_X0 (K_X0_o (K_X10_history_k hk_p0)) (k := 2) (by decide) qw_453 rfl dX10_undo_4 ?_
  refine r_if_le C0 14 dX10_undo_7 (by decide) hf (fun hf => ?_) (fun hf => ?_)
  · refine r_iconst (v := 0) C0 dX10_undo_14 (by decide) ?_
    refine rX_callSp C0 (st := []) (fun _ => none) [.int (0 : Int32)] hf vs_73 (fun hl r9 h9 => c_X10_require hl F (0 : Int32) M r9 h9) rfl rfl (Nat.le_of_ble_eq_true rfl) dX10_undo_15 (zrm_ok rfl) (fun e hf => ?_) (fun x2 hx2 hf => ?_)
    · obtain rfl := Option.some.inj hf
      exact rX_out C0 rfl (by decide) (by decide)
    refine r_eqst (st1 := []) rfl ?_
    refine r_aload_n C0 dX10_undo_18 rfl 0 rfl ?_
    refine r_getR C0 (C := RX10) (T := TX10) cl_X10 (K_X10_o hk_p0) (k := 3) (by decide) qw_369 rfl (K_X10_history_r hk_p0) dX10_undo_19 ?_
    refine r_aload_n C0 dX10_undo_22 rfl 0 rfl ?_
    refine r_getR C0 (C := RX10) (T := TX10) cl_X10 (K_X10_o hk_p0) (k := 1) (by decide) qw_365 rfl (K_X10_now_r hk_p0) dX10_undo_23 ?_
    refine r_callVim C0 (st := []) [.ref (p0 + 3)] (p0 + 45) hf vs_103 (fun hl r3 hr3 => c_X0_takeBack hl F (p0 + 45) (p0 + 3) (K_X10_history_k hk_p0) (K_X10_now_k hk_p0) M r3 hr3) (K_X0_o (K_X10_history_k hk_p0)) rfl rfl rfl rfl (Nat.le_of_ble_eq_true rfl) dX10_undo_26 (zrm_ok rfl) (fun r3 hr3 hf => ?_)
    obtain rfl := Option.some.inj hf
    exact rX_iret C0 rfl dX10_undo_29
  · refine r_iconst (v := 1) C0 dX10_undo_10 (by decide) ?_
    refine r_goto C0 15 dX10_undo_11 (by decide) ?_
    refine rX_callSp C0 (st := []) (fun _ => none) [.int (1 : Int32)] hf vs_73 (fun hl r9 h9 => c_X10_require hl F (1 : Int32) M r9 h9) rfl rfl (Nat.le_of_ble_eq_true rfl) dX10_undo_15 (zrm_ok rfl) (fun e hf => ?_) (fun x5 hx5 hf => ?_)
    · obtain rfl := Option.some.inj hf
      exact rX_out C0 rfl (by decide) (by decide)
    refine r_eqst (st1 := []) rfl ?_
    refine r_aload_n C0 dX10_undo_18 rfl 0 rfl ?_
    refine r_getR C0 (C := RX10) (T := TX10) cl_X10 (K_X10_o hk_p0) (k := 3) (by decide) qw_369 rfl (K_X10_history_r hk_p0) dX10_undo_19 ?_
    refine r_aload_n C0 dX10_undo_22 rfl 0 rfl ?_
    refine r_getR C0 (C := RX10) (T := TX10) cl_X10 (K_X10_o hk_p0) (k := 1) (by decide) qw_365 rfl (K_X10_now_r hk_p0) dX10_undo_23 ?_
    refine r_callVim C0 (st := []) [.ref (p0 + 3)] (p0 + 45) hf vs_103 (fun hl r6 hr6 => c_X0_takeBack hl F (p0 + 45) (p0 + 3) (K_X10_history_k hk_p0) (K_X10_now_k hk_p0) M r6 hr6) (K_X0_o (K_X10_history_k hk_p0)) rfl rfl rfl rfl (Nat.le_of_ble_eq_true rfl) dX10_undo_26 (zrm_ok rfl) (fun r6 hr6 hf => ?_)
    obtain rfl := Option.some.inj hf
    exact rX_iret C0 rfl dX10_undo_29
set_option maxHeartbeats 4000000 in
set_option maxRecDepth 100000 in
theorem c_X10_needs {l : Launch} {E : zEn} {S : zSk} {X : zMl} (hl : l.stackTraces = false) (F : Nat) (p0 : Nat) (p1 : Int32) (p2 : Int32) (hk_p0 : K_X10 S p0) (M : zMi) (r : Nat ⊕ Int32) (hf : f_X10_needs F p0 p1 p2 M = some r) : zMX l E yX10_needs cX10_needs 4 (Option.some Jvm.ClassFile.FieldType.int) { frames := 7, cells := 2, slots := 12, locals := 112 } 2 12 [.ref p0, .int p1, .int p2] S M X (Sum.map id (fun v => some (Value.int v)) r, M) := by
  refine zMX.intro (L0 := [(0, .ref p0), (1, .int p1), (2, .int p2)]) hl (by decide) (Nat.le_of_ble_eq_true rfl) rfl (fun Γ C0 => ?_)
  unfold f_X10_needs at hf
  refine r_aload_n C0 dX10_needs_0 rfl 0 rfl ?_
  refine r_getR C0 (C := RX10) (T := TX10) cl_X10 (K_X10_o hk_p0) (k := 1) (by decide) qw_365 rfl (K_X10_now_r hk_p0) dX10_needs_1 ?_
  refine r_iload_n C0 dX10_needs_4 rfl 1 rfl ?_
  refine rX_callSp C0 (st := []) (fun q => some (Value.ref q)) [.ref (p0 + 3), .int p1] hf vs_84 (fun hl r9 h9 => c_X10_existingZone hl F (p0 + 3) p1 (K_X10_now_k hk_p0) M r9 h9) rfl rfl (Nat.le_of_ble_eq_true rfl) dX10_needs_5 (zrm_ok rfl) (fun e hf => ?_) (fun q2 hq2 hf => ?_)
  · obtain rfl := Option.some.inj hf
    exact rX_out C0 rfl (by decide) (by decide)
  refine r_eqst (st1 := [.ref q2]) rfl ?_
  have hk_q2 := n_X10_existingZone hq2 (K_X10_now_k hk_p0)
  refine r_astore_n (L' := [(3, .ref q2), (0, .ref p0), (1, .int p1), (2, .int p2)]) C0 dX10_needs_8 rfl (by decide) rfl ?_
  refine r_iload_n C0 dX10_needs_9 rfl 3 rfl ?_
  refine r_iconst (v := 0) C0 dX10_needs_10 (by decide) ?_
  refine r_bipush (v := 99) C0 dX10_needs_11 (by decide) ?_
  refine rX_callSp C0 (st := []) (fun _ => none) [.int p2, .int (0 : Int32), .int (99 : Int32)] hf vs_71 (fun hl r9 h9 => c_X10_requireRange hl F p2 (0 : Int32) (99 : Int32) M r9 h9) rfl rfl (Nat.le_of_ble_eq_true rfl) dX10_needs_13 (zrm_ok rfl) (fun e hf => ?_) (fun x4 hx4 hf => ?_)
  · obtain rfl := Option.some.inj hf
    exact rX_out C0 rfl (by decide) (by decide)
  refine r_eqst (st1 := []) rfl ?_
  refine r_aload_n C0 dX10_needs_16 rfl 0 rfl ?_
  refine r_iload_n C0 dX10_needs_17 rfl 3 rfl ?_
  refine r_callVi C0 (st := []) [.int p2] q2 hf vs_104 (fun hl r5 hr5 => c_X9_cableFor hl F q2 p2 hk_q2 M r5 hr5) (K_X9_o hk_q2) rfl rfl rfl rfl (Nat.le_of_ble_eq_true rfl) dX10_needs_18 (zrm_ok rfl) (fun r5 hr5 hf => ?_)
  obtain rfl := Option.some.inj hf
  exact rX_iret C0 rfl dX10_needs_21
set_option maxHeartbeats 4000000 in
set_option maxRecDepth 100000 in
theorem c_X10_reach {l : Launch} {E : zEn} {S : zSk} {X : zMl} (hl : l.stackTraces = false) (F : Nat) (p0 : Nat) (p1 : Int32) (p2 : Int32) (hk_p0 : K_X10 S p0) (M : zMi) (r : Nat ⊕ Int32) (hf : f_X10_reach F p0 p1 p2 M = some r) : zMX l E yX10_reach cX10_reach 5 (Option.some Jvm.ClassFile.FieldType.int) { frames := 7, cells := 2, slots := 12, locals := 112 } 2 12 [.ref p0, .int p1, .int p2] S M X (Sum.map id (fun v => some (Value.int v)) r, M) := by
  refine zMX.intro (L0 := [(0, .ref p0), (1, .int p1), (2, .int p2)]) hl (by decide) (Nat.le_of_ble_eq_true rfl) rfl (fun Γ C0 => ?_)
  unfold f_X10_reach at hf
  refine r_aload_n C0 dX10_reach_0 rfl 0 rfl ?_
  refine r_iload_n C0 dX10_reach_1 rfl 1 rfl ?_
  refine rX_callVp C0 (st := []) (fun q => some (Value.ref q)) [.int p1] p0 hf vs_87 (fun hl r9 h9 => c_X10_existingShip hl F p0 p1 hk_p0 M r9 h9) (K_X10_o hk_p0) rfl rfl rfl rfl (Nat.le_of_ble_eq_true rfl) dX10_reach_2 (zrm_ok rfl) (fun e hf => ?_) (fun q2 hq2 hf => ?_)
  · obtain rfl := Option.some.inj hf
    exact rX_out C0 rfl (by decide) (by decide)
  refine r_eqst (st1 := [.ref q2]) rfl ?_
  have hk_q2 := n_X10_existingShip hq2 hk_p0
  refine r_astore_n (L' := [(3, .ref q2), (0, .ref p0), (1, .int p1), (2, .int p2)]) C0 dX10_reach_5 rfl (by decide) rfl ?_
  refine r_aload_n C0 dX10_reach_6 rfl 1 rfl ?_
  refine r_getR C0 (C := RX10) (T := TX10) cl_X10 (K_X10_o hk_p0) (k := 1) (by decide) qw_365 rfl (K_X10_now_r hk_p0) dX10_reach_7 ?_
  refine r_iload_n C0 dX10_reach_10 rfl 3 rfl ?_
  refine rX_callSp C0 (st := []) (fun q => some (Value.ref q)) [.ref (p0 + 3), .int p2] hf vs_84 (fun hl r9 h9 => c_X10_existingZone hl F (p0 + 3) p2 (K_X10_now_k hk_p0) M r9 h9) rfl rfl (Nat.le_of_ble_eq_true rfl) dX10_reach_11 (zrm_ok rfl) (fun e hf => ?_) (fun q4 hq4 hf => ?_)
  · obtain rfl := Option.some.inj hf
    exact rX_out C0 rfl (by decide) (by decide)
  refine r_eqst (st1 := [.ref q4]) rfl ?_
  have hk_q4 := n_X10_existingZone hq4 (K_X10_now_k hk_p0)
  refine r_astore (L' := [(4, .ref q4), (3, .ref q2), (0, .ref p0), (1, .int p1), (2, .int p2)]) C0 dX10_reach_14 (by decide) rfl ?_
  refine r_aload C0 dX10_reach_16 0 rfl ?_
  refine r_aload C0 dX10_reach_18 0 rfl ?_
  refine r_getI C0 (C := RX9) (T := TX9) cl_X9 (K_X9_o hk_q4) (k := 0) (by decide) qw_401 rfl dX10_reach_20 ?_
  refine r_aload_n C0 dX10_reach_23 rfl 1 rfl ?_
  refine r_getI C0 (C := RX3) (T := TX3) cl_X3 (K_X3_o hk_q2) (k := 4) (by decide) qw_418 rfl dX10_reach_24 ?_
  refine r_callVi C0 (st := []) [.int (M q4 0), .int (M q2 4)] q4 hf vs_105 (fun hl r5 hr5 => c_X9_mostUnits hl F q4 (M q4 0) (M q2 4) hk_q4 M r5 hr5) (K_X9_o hk_q4) rfl rfl rfl rfl (Nat.le_of_ble_eq_true rfl) dX10_reach_27 (zrm_ok rfl) (fun r5 hr5 hf => ?_)
  obtain rfl := Option.some.inj hf
  exact rX_iret C0 rfl dX10_reach_30
set_option maxHeartbeats 4000000 in
set_option maxRecDepth 100000 in
theorem g_X10_calmDays_36 {Γ : zCx} {E : zEn} {S : zSk} {X : zMl} {M : zMi} (C0 : zCt Γ E RX10 cX10_calmDays 7 (Option.some Jvm.ClassFile.FieldType.int) [] { frames := 7, cells := 2, slots := 12, locals := 112 }) (F : Nat) (p0 : Nat) (p1 : Int32) (p2 : Int32) (hk_p0 : K_X10 S p0) : ∀ (n : Nat) (v3 : Nat) (v4 : Nat) (v5 : Int32) (v6 : Int32) (r : Nat ⊕ Int32) (hk_v3 : K_X3 S v3) (hk_v4 : K_X9 S v4), f_X10_calmDays_36 F p0 p1 p2 n v3 v4 v5 v6 M = some r → zG Γ (zQX Γ E 2 12 S (Sum.map id (fun v => some (Value.int v)) r, M) X) E 7 2 12 S ZT M X 36 [(0, .ref p0), (3, .ref v3), (4, .ref v4), (5, .int v5), (6, .int v6)] [] := by
  intro n
  induction n with
  | zero => intro v3 v4 v5 v6 r hk_v3 hk_v4; intro hf; cases hf
  | succ n ih =>
    intro v3 v4 v5 v6 r hk_v3 hk_v4 hf
    refine r_iload C0 dX10_calmDays_36 4 rfl ?_
    refine r_aload C0 dX10_calmDays_38 2 rfl ?_
    refine r_getI C0 (C := RX9) (T := TX9) cl_X9 (K_X9_o hk_v4) (k := 2) (by decide) qw_403 rfl dX10_calmDays_40 ?_
    refine r_icmp_gt C0 74 dX10_calmDays_43 (by decide) hf (fun hf => ?_) (fun hf => ?_)
    · refine r_iload C0 dX10_calmDays_74 3 rfl ?_
      obtain rfl := Option.some.inj hf
      exact rX_iret C0 rfl dX10_calmDays_76
    · refine r_aload_n C0 dX10_calmDays_46 rfl 0 rfl ?_
      refine r_getR C0 (C := RX10) (T := TX10) cl_X10 (K_X10_o hk_p0) (k := 1) (by decide) qw_365 rfl (K_X10_now_r hk_p0) dX10_calmDays_47 ?_
      refine r_getR C0 (C := RX5) (T := TX5) cl_X5 (K_X5_o (K_X10_now_k hk_p0)) (k := 2) (by decide) qw_422 rfl (K_X5_weather_r (K_X10_now_k hk_p0)) dX10_calmDays_50 ?_
      refine r_iload C0 dX10_calmDays_53 4 rfl ?_
      refine r_callVi C0 (st := []) [.int v6] ((p0 + 3) + 3) hf vs_88 (fun hl r1 hr1 => c_X8_on hl F ((p0 + 3) + 3) v6 (K_X5_weather_k (K_X10_now_k hk_p0)) M r1 hr1) (K_X8_o (K_X5_weather_k (K_X10_now_k hk_p0))) rfl rfl rfl rfl (Nat.le_of_ble_eq_true rfl) dX10_calmDays_55 (zrm_ok rfl) (fun r1 hr1 hf => ?_)
      refine r_aload_n C0 dX10_calmDays_58 rfl 1 rfl ?_
      refine r_getI C0 (C := RX3) (T := TX3) cl_X3 (K_X3_o hk_v3) (k := 2) (by decide) qw_416 rfl dX10_calmDays_59 ?_
      refine r_icmp_gt C0 68 dX10_calmDays_62 (by decide) hf (fun hf => ?_) (fun hf => ?_)
      · refine r_iinc (j := 4) (v := (v6 + (1 : Int32))) (L' := [(6, .int (v6 + (1 : Int32))), (0, .ref p0), (3, .ref v3), (4, .ref v4), (5, .int v5)]) C0 dX10_calmDays_68 rfl rfl (by decide) rfl ?_
        refine r_goto C0 36 dX10_calmDays_71 (by decide) ?_
        refine r_sub (L' := [(0, .ref p0), (3, .ref v3), (4, .ref v4), (5, .int v5), (6, .int (v6 + (1 : Int32)))]) [1, 2, 3, 4, 0] rfl ?_
        exact ih v3 v4 v5 (v6 + (1 : Int32)) _ hk_v3 hk_v4 hf
      · refine r_iinc (j := 3) (v := (v5 + (1 : Int32))) (L' := [(5, .int (v5 + (1 : Int32))), (0, .ref p0), (3, .ref v3), (4, .ref v4), (6, .int v6)]) C0 dX10_calmDays_65 rfl rfl (by decide) rfl ?_
        refine r_iinc (j := 4) (v := (v6 + (1 : Int32))) (L' := [(6, .int (v6 + (1 : Int32))), (5, .int (v5 + (1 : Int32))), (0, .ref p0), (3, .ref v3), (4, .ref v4)]) C0 dX10_calmDays_68 rfl rfl (by decide) rfl ?_
        refine r_goto C0 36 dX10_calmDays_71 (by decide) ?_
        refine r_sub (L' := [(0, .ref p0), (3, .ref v3), (4, .ref v4), (5, .int (v5 + (1 : Int32))), (6, .int (v6 + (1 : Int32)))]) [2, 3, 4, 1, 0] rfl ?_
        exact ih v3 v4 (v5 + (1 : Int32)) (v6 + (1 : Int32)) _ hk_v3 hk_v4 hf
set_option maxHeartbeats 4000000 in
set_option maxRecDepth 100000 in
theorem c_X10_calmDays {l : Launch} {E : zEn} {S : zSk} {X : zMl} (hl : l.stackTraces = false) (F : Nat) (p0 : Nat) (p1 : Int32) (p2 : Int32) (hk_p0 : K_X10 S p0) (M : zMi) (r : Nat ⊕ Int32) (hf : f_X10_calmDays F p0 p1 p2 M = some r) : zMX l E yX10_calmDays cX10_calmDays 7 (Option.some Jvm.ClassFile.FieldType.int) { frames := 7, cells := 2, slots := 12, locals := 112 } 2 12 [.ref p0, .int p1, .int p2] S M X (Sum.map id (fun v => some (Value.int v)) r, M) := by
  refine zMX.intro (L0 := [(0, .ref p0), (1, .int p1), (2, .int p2)]) hl (by decide) (Nat.le_of_ble_eq_true rfl) rfl (fun Γ C0 => ?_)
  unfold f_X10_calmDays at hf
  refine r_aload_n C0 dX10_calmDays_0 rfl 0 rfl ?_
  refine r_iload_n C0 dX10_calmDays_1 rfl 1 rfl ?_
  refine rX_callVp C0 (st := []) (fun q => some (Value.ref q)) [.int p1] p0 hf vs_87 (fun hl r9 h9 => c_X10_existingShip hl F p0 p1 hk_p0 M r9 h9) (K_X10_o hk_p0) rfl rfl rfl rfl (Nat.le_of_ble_eq_true rfl) dX10_calmDays_2 (zrm_ok rfl) (fun e hf => ?_) (fun q2 hq2 hf => ?_)
  · obtain rfl := Option.some.inj hf
    exact rX_out C0 rfl (by decide) (by decide)
  refine r_eqst (st1 := [.ref q2]) rfl ?_
  have hk_q2 := n_X10_existingShip hq2 hk_p0
  refine r_astore_n (L' := [(3, .ref q2), (0, .ref p0), (1, .int p1), (2, .int p2)]) C0 dX10_calmDays_5 rfl (by decide) rfl ?_
  refine r_aload_n C0 dX10_calmDays_6 rfl 1 rfl ?_
  refine r_getR C0 (C := RX10) (T := TX10) cl_X10 (K_X10_o hk_p0) (k := 1) (by decide) qw_365 rfl (K_X10_now_r hk_p0) dX10_calmDays_7 ?_
  refine r_iload_n C0 dX10_calmDays_10 rfl 3 rfl ?_
  refine rX_callSp C0 (st := []) (fun q => some (Value.ref q)) [.ref (p0 + 3), .int p2] hf vs_84 (fun hl r9 h9 => c_X10_existingZone hl F (p0 + 3) p2 (K_X10_now_k hk_p0) M r9 h9) rfl rfl (Nat.le_of_ble_eq_true rfl) dX10_calmDays_11 (zrm_ok rfl) (fun e hf => ?_) (fun q4 hq4 hf => ?_)
  · obtain rfl := Option.some.inj hf
    exact rX_out C0 rfl (by decide) (by decide)
  refine r_eqst (st1 := [.ref q4]) rfl ?_
  have hk_q4 := n_X10_existingZone hq4 (K_X10_now_k hk_p0)
  refine r_astore (L' := [(4, .ref q4), (3, .ref q2), (0, .ref p0), (1, .int p1), (2, .int p2)]) C0 dX10_calmDays_14 (by decide) rfl ?_
  refine r_iconst (v := 0) C0 dX10_calmDays_16 (by decide) ?_
  refine r_istore (L' := [(5, .int (0 : Int32)), (4, .ref q4), (3, .ref q2), (0, .ref p0), (1, .int p1), (2, .int p2)]) C0 dX10_calmDays_17 (by decide) rfl ?_
  refine r_aload_n C0 dX10_calmDays_19 rfl 3 rfl ?_
  refine r_getR C0 (C := RX10) (T := TX10) cl_X10 (K_X10_o hk_p0) (k := 1) (by decide) qw_365 rfl (K_X10_now_r hk_p0) dX10_calmDays_20 ?_
  refine r_getI C0 (C := RX5) (T := TX5) cl_X5 (K_X5_o (K_X10_now_k hk_p0)) (k := 8) (by decide) qw_380 rfl dX10_calmDays_23 ?_
  refine r_aload C0 dX10_calmDays_26 1 rfl ?_
  refine r_getI C0 (C := RX9) (T := TX9) cl_X9 (K_X9_o hk_q4) (k := 1) (by decide) qw_402 rfl dX10_calmDays_28 ?_
  refine r_mmax C0 qw_460 qw_461 qw_144 qw_462 (Nat.le_of_ble_eq_true rfl) (Nat.le_of_ble_eq_true rfl) (Nat.le_of_ble_eq_true rfl) (Nat.le_of_ble_eq_true rfl) dX10_calmDays_31 ?_
  refine r_nm hf (fun x5 hf => ?_)
  refine r_istore (L' := [(6, .int x5), (5, .int (0 : Int32)), (4, .ref q4), (3, .ref q2), (0, .ref p0), (1, .int p1), (2, .int p2)]) C0 dX10_calmDays_34 (by decide) rfl ?_
  refine r_sub (L' := [(0, .ref p0), (3, .ref q2), (4, .ref q4), (5, .int (0 : Int32)), (6, .int x5)]) [4, 3, 2, 1, 0] rfl ?_
  exact g_X10_calmDays_36 C0 F p0 p1 p2 hk_p0 F q2 q4 (0 : Int32) x5 _ hk_q2 hk_q4 hf
set_option maxHeartbeats 4000000 in
set_option maxRecDepth 100000 in
theorem c_X10_ahead {l : Launch} {E : zEn} {S : zSk} {X : zMl} (hl : l.stackTraces = false) (F : Nat) (p0 : Nat) (p1 : Int32) (p2 : Int32) (hk_p0 : K_X10 S p0) (M : zMi) (r : (Nat ⊕ Int32) × zMi) (hf : f_X10_ahead F p0 p1 p2 M = some r) : zMX l E yX10_ahead cX10_ahead 3 (Option.some Jvm.ClassFile.FieldType.int) { frames := 7, cells := 2, slots := 12, locals := 136 } 2 12 [.ref p0, .int p1, .int p2] S M X (Sum.map id (fun v => some (Value.int v)) r.1, r.2) := by
  refine zMX.intro (L0 := [(0, .ref p0), (1, .int p1), (2, .int p2)]) hl (by decide) (Nat.le_of_ble_eq_true rfl) rfl (fun Γ C0 => ?_)
  unfold f_X10_ahead at hf
  refine r_iload_n C0 dX10_ahead_0 rfl 1 rfl ?_
  refine r_iconst (v := 0) C0 dX10_ahead_1 (by decide) ?_
  refine r_bipush (v := 99) C0 dX10_ahead_2 (by decide) ?_
  refine rX_callSp C0 (st := []) (fun _ => none) [.int p1, .int (0 : Int32), .int (99 : Int32)] hf vs_71 (fun hl r9 h9 => c_X10_requireRange hl F p1 (0 : Int32) (99 : Int32) M r9 h9) rfl rfl (Nat.le_of_ble_eq_true rfl) dX10_ahead_4 (zrm_ok rfl) (fun e hf => ?_) (fun x2 hx2 hf => ?_)
  · obtain rfl := Option.some.inj hf
    exact rX_out C0 rfl (by decide) (by decide)
  refine r_eqst (st1 := []) rfl ?_
  refine r_iload_n C0 dX10_ahead_7 rfl 2 rfl ?_
  refine r_iconst (v := 0) C0 dX10_ahead_8 (by decide) ?_
  refine r_iconst (v := 4) C0 dX10_ahead_9 (by decide) ?_
  refine rX_callSp C0 (st := []) (fun _ => none) [.int p2, .int (0 : Int32), .int (4 : Int32)] hf vs_71 (fun hl r9 h9 => c_X10_requireRange hl F p2 (0 : Int32) (4 : Int32) M r9 h9) rfl rfl (Nat.le_of_ble_eq_true rfl) dX10_ahead_10 (zrm_ok rfl) (fun e hf => ?_) (fun x4 hx4 hf => ?_)
  · obtain rfl := Option.some.inj hf
    exact rX_out C0 rfl (by decide) (by decide)
  refine r_eqst (st1 := []) rfl ?_
  refine r_aload_n C0 dX10_ahead_13 rfl 0 rfl ?_
  refine r_getR C0 (C := RX10) (T := TX10) cl_X10 (K_X10_o hk_p0) (k := 2) (by decide) qw_360 rfl (K_X10_trial_r hk_p0) dX10_ahead_14 ?_
  refine r_aload_n C0 dX10_ahead_17 rfl 0 rfl ?_
  refine r_getR C0 (C := RX10) (T := TX10) cl_X10 (K_X10_o hk_p0) (k := 1) (by decide) qw_365 rfl (K_X10_now_r hk_p0) dX10_ahead_18 ?_
  refine r_callVm C0 (st := []) [.ref (p0 + 3)] (p0 + 24) hf vs_77 (fun hl r5 hr5 => c_X5_copyFrom hl F (p0 + 24) (p0 + 3) (K_X10_trial_k hk_p0) (K_X10_now_k hk_p0) M r5 hr5) (K_X5_o (K_X10_trial_k hk_p0)) rfl rfl rfl rfl (Nat.le_of_ble_eq_true rfl) dX10_ahead_21 (zrm_ok rfl) (fun r5 hr5 hf => ?_)
  refine r_aload_n C0 dX10_ahead_24 rfl 0 rfl ?_
  refine r_getR C0 (C := RX10) (T := TX10) cl_X10 (K_X10_o hk_p0) (k := 2) (by decide) qw_360 rfl (K_X10_trial_r hk_p0) dX10_ahead_25 ?_
  refine r_iload_n C0 dX10_ahead_28 rfl 1 rfl ?_
  refine r_callVm C0 (st := []) [.int p1] (p0 + 24) hf vs_102 (fun hl r6 hr6 => c_X5_passDays hl F (p0 + 24) p1 (K_X10_trial_k hk_p0) r5 r6 hr6) (K_X5_o (K_X10_trial_k hk_p0)) rfl rfl rfl rfl (Nat.le_of_ble_eq_true rfl) dX10_ahead_29 (zrm_ok rfl) (fun r6 hr6 hf => ?_)
  refine r_iload_n C0 dX10_ahead_32 rfl 2 rfl ?_
  refine z_ite hf (fun hx hf => ?_) (fun hx0 hf => ?_)
  · refine r_tsIn (off := 31) C0 64 dX10_ahead_33 (by rw [hx]; decide) (by rw [hx]; decide) (by rw [hx]; decide) (by decide) ?_
    refine r_aload_n C0 dX10_ahead_64 rfl 0 rfl ?_
    refine r_getR C0 (C := RX10) (T := TX10) cl_X10 (K_X10_o hk_p0) (k := 2) (by decide) qw_360 rfl (K_X10_trial_r hk_p0) dX10_ahead_65 ?_
    refine r_getR C0 (C := RX5) (T := TX5) cl_X5 (K_X5_o (K_X10_trial_k hk_p0)) (k := 4) (by decide) qw_424 rfl (K_X5_ledger_r (K_X10_trial_k hk_p0)) dX10_ahead_68 ?_
    refine r_getI C0 (C := RX1) (T := TX1) cl_X1 (K_X1_o (K_X5_ledger_k (K_X10_trial_k hk_p0))) (k := 1) (by decide) qw_426 rfl dX10_ahead_71 ?_
    refine r_aload_n C0 dX10_ahead_74 rfl 0 rfl ?_
    refine r_getR C0 (C := RX10) (T := TX10) cl_X10 (K_X10_o hk_p0) (k := 1) (by decide) qw_365 rfl (K_X10_now_r hk_p0) dX10_ahead_75 ?_
    refine r_getR C0 (C := RX5) (T := TX5) cl_X5 (K_X5_o (K_X10_now_k hk_p0)) (k := 4) (by decide) qw_424 rfl (K_X5_ledger_r (K_X10_now_k hk_p0)) dX10_ahead_78 ?_
    refine r_getI C0 (C := RX1) (T := TX1) cl_X1 (K_X1_o (K_X5_ledger_k (K_X10_now_k hk_p0))) (k := 1) (by decide) qw_426 rfl dX10_ahead_81 ?_
    refine r_isub C0 dX10_ahead_84 ?_
    obtain rfl := Option.some.inj hf
    exact rX_iret C0 rfl dX10_ahead_85
  refine z_ite hf (fun hx hf => ?_) (fun hx1 hf => ?_)
  · refine r_tsIn (off := 53) C0 86 dX10_ahead_33 (by rw [hx]; decide) (by rw [hx]; decide) (by rw [hx]; decide) (by decide) ?_
    refine r_aload_n C0 dX10_ahead_86 rfl 0 rfl ?_
    refine r_getR C0 (C := RX10) (T := TX10) cl_X10 (K_X10_o hk_p0) (k := 2) (by decide) qw_360 rfl (K_X10_trial_r hk_p0) dX10_ahead_87 ?_
    refine r_getI C0 (C := RX5) (T := TX5) cl_X5 (K_X5_o (K_X10_trial_k hk_p0)) (k := 9) (by decide) qw_381 rfl dX10_ahead_90 ?_
    obtain rfl := Option.some.inj hf
    exact rX_iret C0 rfl dX10_ahead_93
  refine z_ite hf (fun hx hf => ?_) (fun hx2 hf => ?_)
  · refine r_tsIn (off := 61) C0 94 dX10_ahead_33 (by rw [hx]; decide) (by rw [hx]; decide) (by rw [hx]; decide) (by decide) ?_
    refine r_aload_n C0 dX10_ahead_94 rfl 0 rfl ?_
    refine r_getR C0 (C := RX10) (T := TX10) cl_X10 (K_X10_o hk_p0) (k := 2) (by decide) qw_360 rfl (K_X10_trial_r hk_p0) dX10_ahead_95 ?_
    refine r_getR C0 (C := RX5) (T := TX5) cl_X5 (K_X5_o (K_X10_trial_k hk_p0)) (k := 4) (by decide) qw_424 rfl (K_X5_ledger_r (K_X10_trial_k hk_p0)) dX10_ahead_98 ?_
    refine r_getI C0 (C := RX1) (T := TX1) cl_X1 (K_X1_o (K_X5_ledger_k (K_X10_trial_k hk_p0))) (k := 3) (by decide) qw_432 rfl dX10_ahead_101 ?_
    refine r_aload_n C0 dX10_ahead_104 rfl 0 rfl ?_
    refine r_getR C0 (C := RX10) (T := TX10) cl_X10 (K_X10_o hk_p0) (k := 1) (by decide) qw_365 rfl (K_X10_now_r hk_p0) dX10_ahead_105 ?_
    refine r_getR C0 (C := RX5) (T := TX5) cl_X5 (K_X5_o (K_X10_now_k hk_p0)) (k := 4) (by decide) qw_424 rfl (K_X5_ledger_r (K_X10_now_k hk_p0)) dX10_ahead_108 ?_
    refine r_getI C0 (C := RX1) (T := TX1) cl_X1 (K_X1_o (K_X5_ledger_k (K_X10_now_k hk_p0))) (k := 3) (by decide) qw_432 rfl dX10_ahead_111 ?_
    refine r_isub C0 dX10_ahead_114 ?_
    obtain rfl := Option.some.inj hf
    exact rX_iret C0 rfl dX10_ahead_115
  refine z_ite hf (fun hx hf => ?_) (fun hx3 hf => ?_)
  · refine r_tsIn (off := 83) C0 116 dX10_ahead_33 (by rw [hx]; decide) (by rw [hx]; decide) (by rw [hx]; decide) (by decide) ?_
    refine r_aload_n C0 dX10_ahead_116 rfl 0 rfl ?_
    refine r_getR C0 (C := RX10) (T := TX10) cl_X10 (K_X10_o hk_p0) (k := 2) (by decide) qw_360 rfl (K_X10_trial_r hk_p0) dX10_ahead_117 ?_
    refine r_getR C0 (C := RX5) (T := TX5) cl_X5 (K_X5_o (K_X10_trial_k hk_p0)) (k := 4) (by decide) qw_424 rfl (K_X5_ledger_r (K_X10_trial_k hk_p0)) dX10_ahead_120 ?_
    refine r_getI C0 (C := RX1) (T := TX1) cl_X1 (K_X1_o (K_X5_ledger_k (K_X10_trial_k hk_p0))) (k := 4) (by decide) qw_433 rfl dX10_ahead_123 ?_
    refine r_aload_n C0 dX10_ahead_126 rfl 0 rfl ?_
    refine r_getR C0 (C := RX10) (T := TX10) cl_X10 (K_X10_o hk_p0) (k := 1) (by decide) qw_365 rfl (K_X10_now_r hk_p0) dX10_ahead_127 ?_
    refine r_getR C0 (C := RX5) (T := TX5) cl_X5 (K_X5_o (K_X10_now_k hk_p0)) (k := 4) (by decide) qw_424 rfl (K_X5_ledger_r (K_X10_now_k hk_p0)) dX10_ahead_130 ?_
    refine r_getI C0 (C := RX1) (T := TX1) cl_X1 (K_X1_o (K_X5_ledger_k (K_X10_now_k hk_p0))) (k := 4) (by decide) qw_433 rfl dX10_ahead_133 ?_
    refine r_isub C0 dX10_ahead_136 ?_
    obtain rfl := Option.some.inj hf
    exact rX_iret C0 rfl dX10_ahead_137
  have hy0 := z_ne (a := 0) hx0 (by decide)
  have hy1 := z_ne (a := 1) hx1 (by decide)
  have hy2 := z_ne (a := 2) hx2 (by decide)
  have hy3 := z_ne (a := 3) hx3 (by decide)
  refine r_tsOut C0 138 dX10_ahead_33 (by omega) (by decide) ?_
  refine r_aload_n C0 dX10_ahead_138 rfl 0 rfl ?_
  refine r_getR C0 (C := RX10) (T := TX10) cl_X10 (K_X10_o hk_p0) (k := 2) (by decide) qw_360 rfl (K_X10_trial_r hk_p0) dX10_ahead_139 ?_
  refine r_getI C0 (C := RX5) (T := TX5) cl_X5 (K_X5_o (K_X10_trial_k hk_p0)) (k := 11) (by decide) qw_384 rfl dX10_ahead_142 ?_
  obtain rfl := Option.some.inj hf
  exact rX_iret C0 rfl dX10_ahead_145
set_option maxHeartbeats 4000000 in
set_option maxRecDepth 100000 in
theorem c_X10_doneAfter {l : Launch} {E : zEn} {S : zSk} {X : zMl} (hl : l.stackTraces = false) (F : Nat) (p0 : Nat) (p1 : Int32) (hk_p0 : K_X10 S p0) (M : zMi) (r : (Nat ⊕ Int32) × zMi) (hf : f_X10_doneAfter F p0 p1 M = some r) : zMX l E yX10_doneAfter cX10_doneAfter 2 (Option.some Jvm.ClassFile.FieldType.int) { frames := 7, cells := 1, slots := 6, locals := 136 } 1 6 [.ref p0, .int p1] S M X (Sum.map id (fun v => some (Value.int v)) r.1, r.2) := by
  refine zMX.intro (L0 := [(0, .ref p0), (1, .int p1)]) hl (by decide) (Nat.le_of_ble_eq_true rfl) rfl (fun Γ C0 => ?_)
  unfold f_X10_doneAfter at hf
  refine r_aload_n C0 dX10_doneAfter_0 rfl 0 rfl ?_
  refine r_getR C0 (C := RX10) (T := TX10) cl_X10 (K_X10_o hk_p0) (k := 1) (by decide) qw_365 rfl (K_X10_now_r hk_p0) dX10_doneAfter_1 ?_
  refine r_iload_n C0 dX10_doneAfter_4 rfl 1 rfl ?_
  refine rX_callSp C0 (st := []) (fun q => some (Value.ref q)) [.ref (p0 + 3), .int p1] hf vs_84 (fun hl r9 h9 => c_X10_existingZone hl F (p0 + 3) p1 (K_X10_now_k hk_p0) M r9 h9) rfl rfl (Nat.le_of_ble_eq_true rfl) dX10_doneAfter_5 (zrm_ok rfl) (fun e hf => ?_) (fun q2 hq2 hf => ?_)
  · obtain rfl := Option.some.inj hf
    exact rX_out C0 rfl (by decide) (by decide)
  refine r_eqst (st1 := [.ref q2]) rfl ?_
  have hk_q2 := n_X10_existingZone hq2 (K_X10_now_k hk_p0)
  refine r_pop C0 dX10_doneAfter_8 rfl ?_
  refine r_aload_n C0 dX10_doneAfter_9 rfl 0 rfl ?_
  refine r_getR C0 (C := RX10) (T := TX10) cl_X10 (K_X10_o hk_p0) (k := 2) (by decide) qw_360 rfl (K_X10_trial_r hk_p0) dX10_doneAfter_10 ?_
  refine r_aload_n C0 dX10_doneAfter_13 rfl 0 rfl ?_
  refine r_getR C0 (C := RX10) (T := TX10) cl_X10 (K_X10_o hk_p0) (k := 1) (by decide) qw_365 rfl (K_X10_now_r hk_p0) dX10_doneAfter_14 ?_
  refine r_callVm C0 (st := []) [.ref (p0 + 3)] (p0 + 24) hf vs_77 (fun hl r3 hr3 => c_X5_copyFrom hl F (p0 + 24) (p0 + 3) (K_X10_trial_k hk_p0) (K_X10_now_k hk_p0) M r3 hr3) (K_X5_o (K_X10_trial_k hk_p0)) rfl rfl rfl rfl (Nat.le_of_ble_eq_true rfl) dX10_doneAfter_17 (zrm_ok rfl) (fun r3 hr3 hf => ?_)
  refine r_aload_n C0 dX10_doneAfter_20 rfl 0 rfl ?_
  refine r_getR C0 (C := RX10) (T := TX10) cl_X10 (K_X10_o hk_p0) (k := 2) (by decide) qw_360 rfl (K_X10_trial_r hk_p0) dX10_doneAfter_21 ?_
  refine r_iload_n C0 dX10_doneAfter_24 rfl 1 rfl ?_
  refine r_callVim C0 (st := []) [.int p1] (p0 + 24) hf vs_106 (fun hl r4 hr4 => c_X5_daysUntilDone hl F (p0 + 24) p1 (K_X10_trial_k hk_p0) r3 r4 hr4) (K_X5_o (K_X10_trial_k hk_p0)) rfl rfl rfl rfl (Nat.le_of_ble_eq_true rfl) dX10_doneAfter_25 (zrm_ok rfl) (fun r4 hr4 hf => ?_)
  obtain rfl := Option.some.inj hf
  exact rX_iret C0 rfl dX10_doneAfter_28
set_option maxHeartbeats 4000000 in
set_option maxRecDepth 100000 in
theorem g_X10_bestShip_102 {Γ : zCx} {E : zEn} {S : zSk} {X : zMl} {Z : Nat → Prop} (C0 : zCt Γ E RX10 cX10_bestShip 7 (Option.some Jvm.ClassFile.FieldType.int) [] { frames := 6, cells := 0, slots := 0, locals := 136 }) (F : Nat) (p0 : Nat) (k_10 : Int32 → Int32 → Int32 → Int32 → zMi → Option (Int32 × zMi)) (hk_p0 : K_X10 S p0) (hk_k_10 : ∀ (v1_ : Int32) (v2_ : Int32) (v3_ : Int32) (v4_ : Int32) (M : zMi) (r : Int32 × zMi), k_10 v1_ v2_ v3_ v4_ M = some r → zG Γ (zQ Γ E 0 0 S Z (some (.int r.1)) r.2 X) E 7 0 0 S Z M X 10 [(0, .ref p0), (1, .int v1_), (2, .int v2_), (3, .int v3_), (4, .int v4_)] []) (v4 : Int32) (v5 : Int32) (v6 : Int32) (M : zMi) (r : Int32 × zMi)  (hf : f_X10_bestShip_102 F p0 k_10 v4 v5 v6 M = some r) : zG Γ (zQ Γ E 0 0 S Z (some (.int r.1)) r.2 X) E 7 0 0 S Z M X 102 [(0, .ref p0), (4, .int v4), (5, .int v5), (6, .int v6)] [] := by
  unfold f_X10_bestShip_102 at hf
  refine r_iload C0 dX10_bestShip_102 1 rfl ?_
  refine r_istore_n (L' := [(1, .int v4), (0, .ref p0), (4, .int v4), (5, .int v5), (6, .int v6)]) C0 dX10_bestShip_104 rfl (by decide) rfl ?_
  refine r_iload C0 dX10_bestShip_105 3 rfl ?_
  refine r_istore_n (L' := [(2, .int v5), (1, .int v4), (0, .ref p0), (4, .int v4), (5, .int v5), (6, .int v6)]) C0 dX10_bestShip_107 rfl (by decide) rfl ?_
  refine r_iload C0 dX10_bestShip_108 5 rfl ?_
  refine r_istore_n (L' := [(3, .int v6), (2, .int v5), (1, .int v4), (0, .ref p0), (4, .int v4), (5, .int v5), (6, .int v6)]) C0 dX10_bestShip_110 rfl (by decide) rfl ?_
  refine r_iinc (j := 4) (v := (v4 + (1 : Int32))) (L' := [(4, .int (v4 + (1 : Int32))), (3, .int v6), (2, .int v5), (1, .int v4), (0, .ref p0), (5, .int v5), (6, .int v6)]) C0 dX10_bestShip_111 rfl rfl (by decide) rfl ?_
  refine r_goto C0 10 dX10_bestShip_114 (by decide) ?_
  refine r_sub (L' := [(0, .ref p0), (1, .int v4), (2, .int v5), (3, .int v6), (4, .int (v4 + (1 : Int32)))]) [4, 3, 2, 1, 0] rfl ?_
  exact hk_k_10 v4 v5 v6 (v4 + (1 : Int32)) M _  hf
set_option maxHeartbeats 4000000 in
set_option maxRecDepth 100000 in
theorem g_X10_bestShip_10 {Γ : zCx} {E : zEn} {S : zSk} {X : zMl} {Z : Nat → Prop} (C0 : zCt Γ E RX10 cX10_bestShip 7 (Option.some Jvm.ClassFile.FieldType.int) [] { frames := 6, cells := 0, slots := 0, locals := 136 }) (F : Nat) (p0 : Nat) (hk_p0 : K_X10 S p0) : ∀ (n : Nat) (v1 : Int32) (v2 : Int32) (v3 : Int32) (v4 : Int32) (M : zMi) (r : Int32 × zMi) , f_X10_bestShip_10 F p0 n v1 v2 v3 v4 M = some r → zG Γ (zQ Γ E 0 0 S Z (some (.int r.1)) r.2 X) E 7 0 0 S Z M X 10 [(0, .ref p0), (1, .int v1), (2, .int v2), (3, .int v3), (4, .int v4)] [] := by
  intro n
  induction n with
  | zero => intro v1 v2 v3 v4 M r; intro hf; cases hf
  | succ n ih =>
    intro v1 v2 v3 v4 M r hf
    refine r_iload C0 dX10_bestShip_10 4 rfl ?_
    refine r_aload_n C0 dX10_bestShip_12 rfl 0 rfl ?_
    refine r_getR C0 (C := RX10) (T := TX10) cl_X10 (K_X10_o hk_p0) (k := 1) (by decide) qw_365 rfl (K_X10_now_r hk_p0) dX10_bestShip_13 ?_
    refine r_getI C0 (C := RX5) (T := TX5) cl_X5 (K_X5_o (K_X10_now_k hk_p0)) (k := 6) (by decide) qw_376 rfl dX10_bestShip_16 ?_
    refine r_icmp_ge C0 117 dX10_bestShip_19 (by decide) hf (fun hf => ?_) (fun hf => ?_)
    · refine r_iload_n C0 dX10_bestShip_117 rfl 1 rfl ?_
      obtain rfl := Option.some.inj hf
      exact r_iret C0 dX10_bestShip_118
    · refine r_aload_n C0 dX10_bestShip_22 rfl 0 rfl ?_
      refine r_getR C0 (C := RX10) (T := TX10) cl_X10 (K_X10_o hk_p0) (k := 2) (by decide) qw_360 rfl (K_X10_trial_r hk_p0) dX10_bestShip_23 ?_
      refine r_aload_n C0 dX10_bestShip_26 rfl 0 rfl ?_
      refine r_getR C0 (C := RX10) (T := TX10) cl_X10 (K_X10_o hk_p0) (k := 1) (by decide) qw_365 rfl (K_X10_now_r hk_p0) dX10_bestShip_27 ?_
      refine r_callVm C0 (st := []) [.ref (p0 + 3)] (p0 + 24) hf vs_77 (fun hl r1 hr1 => c_X5_copyFrom hl F (p0 + 24) (p0 + 3) (K_X10_trial_k hk_p0) (K_X10_now_k hk_p0) M r1 hr1) (K_X5_o (K_X10_trial_k hk_p0)) rfl rfl rfl rfl (Nat.le_of_ble_eq_true rfl) dX10_bestShip_30 (zrm_ok rfl) (fun r1 hr1 hf => ?_)
      refine r_aload_n C0 dX10_bestShip_33 rfl 0 rfl ?_
      refine r_getR C0 (C := RX10) (T := TX10) cl_X10 (K_X10_o hk_p0) (k := 2) (by decide) qw_360 rfl (K_X10_trial_r hk_p0) dX10_bestShip_34 ?_
      refine r_iload C0 dX10_bestShip_37 4 rfl ?_
      refine r_callVim C0 (st := []) [.int v4] (p0 + 24) hf vs_107 (fun hl r2 hr2 => c_X5_fillAndSend hl F (p0 + 24) v4 (K_X10_trial_k hk_p0) r1 r2 hr2) (K_X5_o (K_X10_trial_k hk_p0)) rfl rfl rfl rfl (Nat.le_of_ble_eq_true rfl) dX10_bestShip_39 (zrm_ok rfl) (fun r2 hr2 hf => ?_)
      refine r_if_eq C0 111 dX10_bestShip_42 (by decide) hf (fun hf => ?_) (fun hf => ?_)
      · refine r_iinc (j := 4) (v := (v4 + (1 : Int32))) (L' := [(4, .int (v4 + (1 : Int32))), (0, .ref p0), (1, .int v1), (2, .int v2), (3, .int v3)]) C0 dX10_bestShip_111 rfl rfl (by decide) rfl ?_
        refine r_goto C0 10 dX10_bestShip_114 (by decide) ?_
        refine r_sub (L' := [(0, .ref p0), (1, .int v1), (2, .int v2), (3, .int v3), (4, .int (v4 + (1 : Int32)))]) [1, 2, 3, 4, 0] rfl ?_
        exact ih v1 v2 v3 (v4 + (1 : Int32)) r2.2 _  hf
      · refine r_aload_n C0 dX10_bestShip_45 rfl 0 rfl ?_
        refine r_getR C0 (C := RX10) (T := TX10) cl_X10 (K_X10_o hk_p0) (k := 2) (by decide) qw_360 rfl (K_X10_trial_r hk_p0) dX10_bestShip_46 ?_
        refine r_bipush (v := 60) C0 dX10_bestShip_49 (by decide) ?_
        refine r_callVm C0 (st := []) [.int (60 : Int32)] (p0 + 24) hf vs_102 (fun hl r3 hr3 => c_X5_passDays hl F (p0 + 24) (60 : Int32) (K_X10_trial_k hk_p0) r2.2 r3 hr3) (K_X5_o (K_X10_trial_k hk_p0)) rfl rfl rfl rfl (Nat.le_of_ble_eq_true rfl) dX10_bestShip_51 (zrm_ok rfl) (fun r3 hr3 hf => ?_)
        refine r_aload_n C0 dX10_bestShip_54 rfl 0 rfl ?_
        refine r_getR C0 (C := RX10) (T := TX10) cl_X10 (K_X10_o hk_p0) (k := 2) (by decide) qw_360 rfl (K_X10_trial_r hk_p0) dX10_bestShip_55 ?_
        refine r_getR C0 (C := RX5) (T := TX5) cl_X5 (K_X5_o (K_X10_trial_k hk_p0)) (k := 4) (by decide) qw_424 rfl (K_X5_ledger_r (K_X10_trial_k hk_p0)) dX10_bestShip_58 ?_
        refine r_getI C0 (C := RX1) (T := TX1) cl_X1 (K_X1_o (K_X5_ledger_k (K_X10_trial_k hk_p0))) (k := 1) (by decide) qw_426 rfl dX10_bestShip_61 ?_
        refine r_nm hf (fun x4 hf => ?_)
        refine r_istore (L' := [(5, .int x4), (0, .ref p0), (1, .int v1), (2, .int v2), (3, .int v3), (4, .int v4)]) C0 dX10_bestShip_64 (by decide) rfl ?_
        refine r_aload_n C0 dX10_bestShip_66 rfl 1 rfl ?_
        refine r_getR C0 (C := RX10) (T := TX10) cl_X10 (K_X10_o hk_p0) (k := 2) (by decide) qw_360 rfl (K_X10_trial_r hk_p0) dX10_bestShip_67 ?_
        refine r_getR C0 (C := RX5) (T := TX5) cl_X5 (K_X5_o (K_X10_trial_k hk_p0)) (k := 4) (by decide) qw_424 rfl (K_X5_ledger_r (K_X10_trial_k hk_p0)) dX10_bestShip_70 ?_
        refine r_getI C0 (C := RX1) (T := TX1) cl_X1 (K_X1_o (K_X5_ledger_k (K_X10_trial_k hk_p0))) (k := 3) (by decide) qw_432 rfl dX10_bestShip_73 ?_
        refine r_nm hf (fun x5 hf => ?_)
        refine r_istore (L' := [(6, .int x5), (5, .int x4), (0, .ref p0), (1, .int v1), (2, .int v2), (3, .int v3), (4, .int v4)]) C0 dX10_bestShip_76 (by decide) rfl ?_
        refine r_iload_n C0 dX10_bestShip_78 rfl 3 rfl ?_
        refine r_bipush (v := -9) C0 dX10_bestShip_79 (by decide) ?_
        refine r_icmp_eq C0 102 dX10_bestShip_81 (by decide) hf (fun hf => ?_) (fun hf => ?_)
        · refine r_sub (L' := [(0, .ref p0), (4, .int v4), (5, .int x4), (6, .int x5)]) [2, 6, 1, 0] rfl ?_
          exact g_X10_bestShip_102 C0 F p0 (f_X10_bestShip_10 F p0 n) hk_p0 ih v4 x4 x5 r3 _  hf
        · refine r_iload C0 dX10_bestShip_84 1 rfl ?_
          refine r_iload_n C0 dX10_bestShip_86 rfl 4 rfl ?_
          refine r_icmp_gt C0 102 dX10_bestShip_87 (by decide) hf (fun hf => ?_) (fun hf => ?_)
          · refine r_sub (L' := [(0, .ref p0), (4, .int v4), (5, .int x4), (6, .int x5)]) [2, 6, 1, 0] rfl ?_
            exact g_X10_bestShip_102 C0 F p0 (f_X10_bestShip_10 F p0 n) hk_p0 ih v4 x4 x5 r3 _  hf
          · refine r_iload C0 dX10_bestShip_90 1 rfl ?_
            refine r_iload_n C0 dX10_bestShip_92 rfl 4 rfl ?_
            refine r_icmp_ne C0 111 dX10_bestShip_93 (by decide) hf (fun hf => ?_) (fun hf => ?_)
            · refine r_iinc (j := 6) (v := (v4 + (1 : Int32))) (L' := [(4, .int (v4 + (1 : Int32))), (6, .int x5), (5, .int x4), (0, .ref p0), (1, .int v1), (2, .int v2), (3, .int v3)]) C0 dX10_bestShip_111 rfl rfl (by decide) rfl ?_
              refine r_goto C0 10 dX10_bestShip_114 (by decide) ?_
              refine r_sub (L' := [(0, .ref p0), (1, .int v1), (2, .int v2), (3, .int v3), (4, .int (v4 + (1 : Int32)))]) [3, 4, 5, 6, 0] rfl ?_
              exact ih v1 v2 v3 (v4 + (1 : Int32)) r3 _  hf
            · refine r_iload C0 dX10_bestShip_96 0 rfl ?_
              refine r_iload_n C0 dX10_bestShip_98 rfl 5 rfl ?_
              refine r_icmp_ge C0 111 dX10_bestShip_99 (by decide) hf (fun hf => ?_) (fun hf => ?_)
              · refine r_iinc (j := 6) (v := (v4 + (1 : Int32))) (L' := [(4, .int (v4 + (1 : Int32))), (6, .int x5), (5, .int x4), (0, .ref p0), (1, .int v1), (2, .int v2), (3, .int v3)]) C0 dX10_bestShip_111 rfl rfl (by decide) rfl ?_
                refine r_goto C0 10 dX10_bestShip_114 (by decide) ?_
                refine r_sub (L' := [(0, .ref p0), (1, .int v1), (2, .int v2), (3, .int v3), (4, .int (v4 + (1 : Int32)))]) [3, 4, 5, 6, 0] rfl ?_
                exact ih v1 v2 v3 (v4 + (1 : Int32)) r3 _  hf
              · refine r_sub (L' := [(0, .ref p0), (4, .int v4), (5, .int x4), (6, .int x5)]) [2, 6, 1, 0] rfl ?_
                exact g_X10_bestShip_102 C0 F p0 (f_X10_bestShip_10 F p0 n) hk_p0 ih v4 x4 x5 r3 _  hf
set_option maxHeartbeats 4000000 in
set_option maxRecDepth 100000 in
theorem c_X10_bestShip {l : Launch} {E : zEn} {S : zSk} {X : zMl} {Z : Nat → Prop} (hl : l.stackTraces = false) (F : Nat) (p0 : Nat) (hk_p0 : K_X10 S p0) (M : zMi) (r : Int32 × zMi) (hf : f_X10_bestShip F p0 M = some r) : zM l E yX10_bestShip cX10_bestShip 7 (Option.some Jvm.ClassFile.FieldType.int) { frames := 6, cells := 0, slots := 0, locals := 136 } 0 0 [.ref p0] S Z M X S Z (some (.int r.1)) r.2 X := by
  refine zM.intro (L0 := [(0, .ref p0)]) hl (by decide) (Nat.le_of_ble_eq_true rfl) rfl (fun Γ C0 _ => ?_)
  unfold f_X10_bestShip at hf
  refine r_bipush (v := -9) C0 dX10_bestShip_0 (by decide) ?_
  refine r_istore_n (L' := [(1, .int (-9 : Int32)), (0, .ref p0)]) C0 dX10_bestShip_2 rfl (by decide) rfl ?_
  refine r_iconst (v := 0) C0 dX10_bestShip_3 (by decide) ?_
  refine r_istore_n (L' := [(2, .int (0 : Int32)), (1, .int (-9 : Int32)), (0, .ref p0)]) C0 dX10_bestShip_4 rfl (by decide) rfl ?_
  refine r_iconst (v := 0) C0 dX10_bestShip_5 (by decide) ?_
  refine r_istore_n (L' := [(3, .int (0 : Int32)), (2, .int (0 : Int32)), (1, .int (-9 : Int32)), (0, .ref p0)]) C0 dX10_bestShip_6 rfl (by decide) rfl ?_
  refine r_iconst (v := 0) C0 dX10_bestShip_7 (by decide) ?_
  refine r_istore (L' := [(4, .int (0 : Int32)), (3, .int (0 : Int32)), (2, .int (0 : Int32)), (1, .int (-9 : Int32)), (0, .ref p0)]) C0 dX10_bestShip_8 (by decide) rfl ?_
  refine r_sub (L' := [(0, .ref p0), (1, .int (-9 : Int32)), (2, .int (0 : Int32)), (3, .int (0 : Int32)), (4, .int (0 : Int32))]) [4, 3, 2, 1, 0] rfl ?_
  exact g_X10_bestShip_10 C0 F p0 hk_p0 F (-9 : Int32) (0 : Int32) (0 : Int32) (0 : Int32) M _  hf
