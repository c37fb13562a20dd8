set_option maxHeartbeats 4000000 in
set_option maxRecDepth 100000 in
theorem g_L_hands_1152 {Γ : zCx} {E : zEn} {S : zSk} {X : zMl} (C0 : zCt Γ E RL cL_hands 32 (Option.some Jvm.ClassFile.FieldType.boolean) [] { frames := 10, cells := 810, slots := 4860, locals := 209 }) (F : Nat) (p0 : Nat) (p1 : Int32) (hk_p0 : K_X10 S p0)  (v2 : Int32) (v11 : Int32) (M : zMi) (r : Int32 × zMi) (hf : f_L_hands_1152 F p0 p1 v2 v11 M = some r) (kc : Nat) (hkc : kc + (3) ≤ 810) : zG Γ (zQX Γ E 810 4860 S (.inr (some (.int r.1)), r.2) X) E 32 kc (6 * kc) S ZT M X 1152 [(0, .ref p0), (2, .int v2), (11, .int v11)] [] := by
  unfold f_L_hands_1152 at hf
  refine r_iload C0 dL_hands_1152 2 rfl ?_
  refine r_if_eq C0 1180 dL_hands_1154 (by decide) hf (fun hf => ?_) (fun hf => ?_)
  · refine r_iconst (v := 0) C0 dL_hands_1180 (by decide) ?_
    obtain rfl := Option.some.inj hf
    refine r_widen (k1 := 810) (s1 := 4860) (by omega) (by omega) ?_
    exact rX_zret C0 rfl rfl dL_hands_1181
  · refine r_aload_n C0 dL_hands_1157 rfl 0 rfl ?_
    refine r_iconst (v := 0) C0 dL_hands_1158 (by decide) ?_
    refine r_callWw C0 (st := []) (kc1 := kc + 2) [.ref p0, .int (0 : Int32)] hf vs_163 (fun hl r1 hr1 => c_L_tryRestore hl F p0 (0 : Int32) hk_p0 M r1 hr1) rfl rfl (Nat.le_of_ble_eq_true rfl) dL_hands_1159 (zrm_k 810 rfl (by omega)) (by omega) (fun r1 hr1 hf => ?_)
    refine r_iload_n C0 dL_hands_1162 rfl 1 rfl ?_
    refine r_icmp_ne C0 1180 dL_hands_1163 (by decide) hf (fun hf => ?_) (fun hf => ?_)
    · refine r_iconst (v := 0) C0 dL_hands_1180 (by decide) ?_
      obtain rfl := Option.some.inj hf
      refine r_widen (k1 := 810) (s1 := 4860) (by omega) (by omega) ?_
      exact rX_zret C0 rfl rfl dL_hands_1181
    · refine r_aload_n C0 dL_hands_1166 rfl 0 rfl ?_
      refine r_callWw C0 (st := []) (kc1 := kc + 3) [.ref p0] hf vs_162 (fun hl r2 hr2 => c_L_tryUndo hl F p0 hk_p0 r1.2 r2 hr2) rfl rfl (Nat.le_of_ble_eq_true rfl) dL_hands_1167 (zrm_k 810 rfl (by omega)) (by omega) (fun r2 hr2 hf => ?_)
      refine r_sipush (v := -1003) C0 dL_hands_1170 (by decide) ?_
      refine r_icmp_ne C0 1180 dL_hands_1173 (by decide) hf (fun hf => ?_) (fun hf => ?_)
      · refine r_iconst (v := 0) C0 dL_hands_1180 (by decide) ?_
        obtain rfl := Option.some.inj hf
        refine r_widen (k1 := 810) (s1 := 4860) (by omega) (by omega) ?_
        exact rX_zret C0 rfl rfl dL_hands_1181
      · refine r_iconst (v := 1) C0 dL_hands_1176 (by decide) ?_
        refine r_goto C0 1181 dL_hands_1177 (by decide) ?_
        obtain rfl := Option.some.inj hf
        refine r_widen (k1 := 810) (s1 := 4860) (by omega) (by omega) ?_
        exact rX_zret C0 rfl rfl dL_hands_1181
set_option maxHeartbeats 4000000 in
set_option maxRecDepth 100000 in
theorem g_L_hands_1047 {Γ : zCx} {E : zEn} {S : zSk} {X : zMl} (C0 : zCt Γ E RL cL_hands 32 (Option.some Jvm.ClassFile.FieldType.boolean) [] { frames := 10, cells := 810, slots := 4860, locals := 209 }) (F : Nat) (p0 : Nat) (p1 : Int32) (hk_p0 : K_X10 S p0)  (v2 : Int32) (v5 : Int32) (v9 : Int32) (v29 : Int32) (s0 : Int32) (M : zMi) (r : Int32 × zMi) (hf : f_L_hands_1047 F p0 p1 v2 v5 v9 v29 s0 M = some r) (kc : Nat) (hkc : kc + (93) ≤ 810) : zG Γ (zQX Γ E 810 4860 S (.inr (some (.int r.1)), r.2) X) E 32 kc (6 * kc) S ZT M X 1047 [(0, .ref p0), (2, .int v2), (5, .int v5), (9, .int v9), (29, .int v29)] [.int s0] := by
  unfold f_L_hands_1047 at hf
  refine r_istore (L' := [(11, .int s0), (0, .ref p0), (2, .int v2), (5, .int v5), (9, .int v9), (29, .int v29)]) C0 dL_hands_1047 (by decide) rfl ?_
  refine r_iload C0 dL_hands_1049 5 rfl ?_
  refine r_bipush (v := -9) C0 dL_hands_1051 (by decide) ?_
  refine r_icmp_eq C0 1152 dL_hands_1053 (by decide) hf (fun hf => ?_) (fun hf => ?_)
  · refine r_sub (L' := [(0, .ref p0), (2, .int v2), (11, .int s0)]) [1, 2, 0] rfl ?_
    exact g_L_hands_1152 C0 F p0 p1 hk_p0 v2 s0 M _ hf _ (by omega)
  · refine r_iload C0 dL_hands_1056 4 rfl ?_
    refine r_if_ne C0 1152 dL_hands_1058 (by decide) hf (fun hf => ?_) (fun hf => ?_)
    · refine r_sub (L' := [(0, .ref p0), (2, .int v2), (11, .int s0)]) [1, 2, 0] rfl ?_
      exact g_L_hands_1152 C0 F p0 p1 hk_p0 v2 s0 M _ hf _ (by omega)
    · refine r_iload C0 dL_hands_1061 0 rfl ?_
      refine r_if_eq C0 1152 dL_hands_1063 (by decide) hf (fun hf => ?_) (fun hf => ?_)
      · refine r_sub (L' := [(0, .ref p0), (2, .int v2), (11, .int s0)]) [1, 2, 0] rfl ?_
        exact g_L_hands_1152 C0 F p0 p1 hk_p0 v2 s0 M _ hf _ (by omega)
      · refine r_aload_n C0 dL_hands_1066 rfl 1 rfl ?_
        refine r_iload C0 dL_hands_1067 5 rfl ?_
        refine r_iconst (v := 0) C0 dL_hands_1069 (by decide) ?_
        refine r_iload_n C0 dL_hands_1070 rfl 2 rfl ?_
        refine r_callAw C0 (st := []) (kc1 := kc + 15) [.ref p0, .int v29, .int (0 : Int32), .int v2] hf vs_184 (fun hl r1 hr1 => c_L_after hl F p0 v29 (0 : Int32) v2 hk_p0 M r1 hr1) rfl rfl (Nat.le_of_ble_eq_true rfl) dL_hands_1071 (zrm_k 810 rfl (by omega)) (by omega) (fun r1 hr1 hf => ?_)
        refine r_istore (L' := [(30, .int r1.1), (11, .int s0), (0, .ref p0), (2, .int v2), (5, .int v5), (9, .int v9), (29, .int v29)]) C0 dL_hands_1074 (by decide) rfl ?_
        refine r_aload_n C0 dL_hands_1076 rfl 2 rfl ?_
        refine r_iload C0 dL_hands_1077 4 rfl ?_
        refine r_iconst (v := 0) C0 dL_hands_1079 (by decide) ?_
        refine r_iload_n C0 dL_hands_1080 rfl 3 rfl ?_
        refine r_callAw C0 (st := []) (kc1 := kc + 30) [.ref p0, .int v5, .int (0 : Int32), .int v2] hf vs_184 (fun hl r2 hr2 => c_L_after hl F p0 v5 (0 : Int32) v2 hk_p0 r1.2 r2 hr2) rfl rfl (Nat.le_of_ble_eq_true rfl) dL_hands_1081 (zrm_k 810 rfl (by omega)) (by omega) (fun r2 hr2 hf => ?_)
        refine r_istore (L' := [(31, .int r2.1), (30, .int r1.1), (11, .int s0), (0, .ref p0), (2, .int v2), (5, .int v5), (9, .int v9), (29, .int v29)]) C0 dL_hands_1084 (by decide) rfl ?_
        refine r_iload C0 dL_hands_1086 1 rfl ?_
        refine r_iload C0 dL_hands_1088 0 rfl ?_
        refine r_icmp_gt C0 1145 dL_hands_1090 (by decide) hf (fun hf => ?_) (fun hf => ?_)
        · refine r_iconst (v := 1) C0 dL_hands_1145 (by decide) ?_
          refine r_goto C0 1150 dL_hands_1146 (by decide) ?_
          refine r_istore (L' := [(11, .int (1 : Int32)), (31, .int r2.1), (30, .int r1.1), (0, .ref p0), (2, .int v2), (5, .int v5), (9, .int v9), (29, .int v29)]) C0 dL_hands_1150 (by decide) rfl ?_
          refine r_sub (L' := [(0, .ref p0), (2, .int v2), (11, .int (1 : Int32))]) [3, 4, 0] rfl ?_
          exact g_L_hands_1152 C0 F p0 p1 hk_p0 v2 (1 : Int32) r2.2 _ hf _ (by omega)
        · refine r_iload C0 dL_hands_1093 1 rfl ?_
          refine r_iload C0 dL_hands_1095 0 rfl ?_
          refine r_icmp_ne C0 1149 dL_hands_1097 (by decide) hf (fun hf => ?_) (fun hf => ?_)
          · refine r_iconst (v := 0) C0 dL_hands_1149 (by decide) ?_
            refine r_istore (L' := [(11, .int (0 : Int32)), (31, .int r2.1), (30, .int r1.1), (0, .ref p0), (2, .int v2), (5, .int v5), (9, .int v9), (29, .int v29)]) C0 dL_hands_1150 (by decide) rfl ?_
            refine r_sub (L' := [(0, .ref p0), (2, .int v2), (11, .int (0 : Int32))]) [3, 4, 0] rfl ?_
            exact g_L_hands_1152 C0 F p0 p1 hk_p0 v2 (0 : Int32) r2.2 _ hf _ (by omega)
          · refine r_aload_n C0 dL_hands_1100 rfl 3 rfl ?_
            refine r_iload C0 dL_hands_1101 7 rfl ?_
            refine r_iconst (v := 2) C0 dL_hands_1103 (by decide) ?_
            refine r_iload_n C0 dL_hands_1104 rfl 4 rfl ?_
            refine r_callAw C0 (st := []) (kc1 := kc + 45) [.ref p0, .int v29, .int (2 : Int32), .int v2] hf vs_184 (fun hl r3 hr3 => c_L_after hl F p0 v29 (2 : Int32) v2 hk_p0 r2.2 r3 hr3) rfl rfl (Nat.le_of_ble_eq_true rfl) dL_hands_1105 (zrm_k 810 rfl (by omega)) (by omega) (fun r3 hr3 hf => ?_)
            refine r_aload_n C0 dL_hands_1108 rfl 3 rfl ?_
            refine r_iload C0 dL_hands_1109 5 rfl ?_
            refine r_iconst (v := 2) C0 dL_hands_1111 (by decide) ?_
            refine r_iload_n C0 dL_hands_1112 rfl 4 rfl ?_
            refine r_callAw C0 (st := [.int r3.1]) (kc1 := kc + 60) [.ref p0, .int v5, .int (2 : Int32), .int v2] hf vs_184 (fun hl r4 hr4 => c_L_after hl F p0 v5 (2 : Int32) v2 hk_p0 r3.2 r4 hr4) rfl rfl (Nat.le_of_ble_eq_true rfl) dL_hands_1113 (zrm_k 810 rfl (by omega)) (by omega) (fun r4 hr4 hf => ?_)
            refine r_icmp_lt C0 1145 dL_hands_1116 (by decide) hf (fun hf => ?_) (fun hf => ?_)
            · refine r_iconst (v := 1) C0 dL_hands_1145 (by decide) ?_
              refine r_goto C0 1150 dL_hands_1146 (by decide) ?_
              refine r_istore (L' := [(11, .int (1 : Int32)), (31, .int r2.1), (30, .int r1.1), (0, .ref p0), (2, .int v2), (5, .int v5), (9, .int v9), (29, .int v29)]) C0 dL_hands_1150 (by decide) rfl ?_
              refine r_sub (L' := [(0, .ref p0), (2, .int v2), (11, .int (1 : Int32))]) [3, 4, 0] rfl ?_
              exact g_L_hands_1152 C0 F p0 p1 hk_p0 v2 (1 : Int32) r4.2 _ hf _ (by omega)
            · refine r_aload_n C0 dL_hands_1119 rfl 3 rfl ?_
              refine r_iload C0 dL_hands_1120 7 rfl ?_
              refine r_iconst (v := 2) C0 dL_hands_1122 (by decide) ?_
              refine r_iload_n C0 dL_hands_1123 rfl 4 rfl ?_
              refine r_callAw C0 (st := []) (kc1 := kc + 75) [.ref p0, .int v29, .int (2 : Int32), .int v2] hf vs_184 (fun hl r5 hr5 => c_L_after hl F p0 v29 (2 : Int32) v2 hk_p0 r4.2 r5 hr5) rfl rfl (Nat.le_of_ble_eq_true rfl) dL_hands_1124 (zrm_k 810 rfl (by omega)) (by omega) (fun r5 hr5 hf => ?_)
              refine r_aload_n C0 dL_hands_1127 rfl 3 rfl ?_
              refine r_iload C0 dL_hands_1128 5 rfl ?_
              refine r_iconst (v := 2) C0 dL_hands_1130 (by decide) ?_
              refine r_iload_n C0 dL_hands_1131 rfl 4 rfl ?_
              refine r_callAw C0 (st := [.int r5.1]) (kc1 := kc + 90) [.ref p0, .int v5, .int (2 : Int32), .int v2] hf vs_184 (fun hl r6 hr6 => c_L_after hl F p0 v5 (2 : Int32) v2 hk_p0 r5.2 r6 hr6) rfl rfl (Nat.le_of_ble_eq_true rfl) dL_hands_1132 (zrm_k 810 rfl (by omega)) (by omega) (fun r6 hr6 hf => ?_)
              refine r_icmp_ne C0 1149 dL_hands_1135 (by decide) hf (fun hf => ?_) (fun hf => ?_)
              · refine r_iconst (v := 0) C0 dL_hands_1149 (by decide) ?_
                refine r_istore (L' := [(11, .int (0 : Int32)), (31, .int r2.1), (30, .int r1.1), (0, .ref p0), (2, .int v2), (5, .int v5), (9, .int v9), (29, .int v29)]) C0 dL_hands_1150 (by decide) rfl ?_
                refine r_sub (L' := [(0, .ref p0), (2, .int v2), (11, .int (0 : Int32))]) [3, 4, 0] rfl ?_
                exact g_L_hands_1152 C0 F p0 p1 hk_p0 v2 (0 : Int32) r6.2 _ hf _ (by omega)
              · refine r_iload C0 dL_hands_1138 7 rfl ?_
                refine r_iload C0 dL_hands_1140 5 rfl ?_
                refine r_icmp_gt C0 1149 dL_hands_1142 (by decide) hf (fun hf => ?_) (fun hf => ?_)
                · refine r_iconst (v := 0) C0 dL_hands_1149 (by decide) ?_
                  refine r_istore (L' := [(11, .int (0 : Int32)), (31, .int r2.1), (30, .int r1.1), (0, .ref p0), (2, .int v2), (5, .int v5), (9, .int v9), (29, .int v29)]) C0 dL_hands_1150 (by decide) rfl ?_
                  refine r_sub (L' := [(0, .ref p0), (2, .int v2), (11, .int (0 : Int32))]) [3, 4, 0] rfl ?_
                  exact g_L_hands_1152 C0 F p0 p1 hk_p0 v2 (0 : Int32) r6.2 _ hf _ (by omega)
                · refine r_iconst (v := 1) C0 dL_hands_1145 (by decide) ?_
                  refine r_goto C0 1150 dL_hands_1146 (by decide) ?_
                  refine r_istore (L' := [(11, .int (1 : Int32)), (31, .int r2.1), (30, .int r1.1), (0, .ref p0), (2, .int v2), (5, .int v5), (9, .int v9), (29, .int v29)]) C0 dL_hands_1150 (by decide) rfl ?_
                  refine r_sub (L' := [(0, .ref p0), (2, .int v2), (11, .int (1 : Int32))]) [3, 4, 0] rfl ?_
                  exact g_L_hands_1152 C0 F p0 p1 hk_p0 v2 (1 : Int32) r6.2 _ hf _ (by omega)
set_option maxHeartbeats 4000000 in
set_option maxRecDepth 100000 in
theorem g_L_hands_1007 {Γ : zCx} {E : zEn} {S : zSk} {X : zMl} (C0 : zCt Γ E RL cL_hands 32 (Option.some Jvm.ClassFile.FieldType.boolean) [] { frames := 10, cells := 810, slots := 4860, locals := 209 }) (F : Nat) (p0 : Nat) (p1 : Int32) (hk_p0 : K_X10 S p0)  (v2 : Int32) (v4 : Int32) (v5 : Int32) (v7 : Int32) (v9 : Int32) (v11 : Int32) (M : zMi) (r : Int32 × zMi) (hf : f_L_hands_1007 F p0 p1 v2 v4 v5 v7 v9 v11 M = some r) (kc : Nat) (hkc : kc + (95) ≤ 810) : zG Γ (zQX Γ E 810 4860 S (.inr (some (.int r.1)), r.2) X) E 32 kc (6 * kc) S ZT M X 1007 [(0, .ref p0), (2, .int v2), (4, .int v4), (5, .int v5), (7, .int v7), (9, .int v9), (11, .int v11)] [] := by
  unfold f_L_hands_1007 at hf
  refine r_aload_n C0 dL_hands_1007 rfl 0 rfl ?_
  refine r_callVL C0 (st := []) [] p0 hf vs_183 (fun hl r1 hr1 => c_X10_bestShip hl F p0 hk_p0 M r1 hr1) (K_X10_o hk_p0) rfl rfl rfl rfl (Nat.le_of_ble_eq_true rfl) dL_hands_1008 (zrm_k 810 rfl (by omega)) (fun r1 hr1 hf => ?_)
  refine r_istore (L' := [(29, .int r1.1), (0, .ref p0), (2, .int v2), (4, .int v4), (5, .int v5), (7, .int v7), (9, .int v9), (11, .int v11)]) C0 dL_hands_1011 (by decide) rfl ?_
  refine r_iload C0 dL_hands_1013 7 rfl ?_
  refine r_if_eq C0 1046 dL_hands_1015 (by decide) hf (fun hf => ?_) (fun hf => ?_)
  · refine r_iconst (v := 0) C0 dL_hands_1046 (by decide) ?_
    refine r_sub (L' := [(0, .ref p0), (2, .int v2), (5, .int v5), (9, .int v9), (29, .int r1.1)]) [1, 2, 4, 6, 0] rfl ?_
    exact g_L_hands_1047 C0 F p0 p1 hk_p0 v2 v5 v9 r1.1 (0 : Int32) r1.2 _ hf _ (by omega)
  · refine r_iload C0 dL_hands_1018 0 rfl ?_
    refine r_bipush (v := -9) C0 dL_hands_1020 (by decide) ?_
    refine r_icmp_eq C0 1042 dL_hands_1022 (by decide) hf (fun hf => ?_) (fun hf => ?_)
    · refine r_iconst (v := 1) C0 dL_hands_1042 (by decide) ?_
      refine r_goto C0 1047 dL_hands_1043 (by decide) ?_
      refine r_sub (L' := [(0, .ref p0), (2, .int v2), (5, .int v5), (9, .int v9), (29, .int r1.1)]) [1, 2, 4, 6, 0] rfl ?_
      exact g_L_hands_1047 C0 F p0 p1 hk_p0 v2 v5 v9 r1.1 (1 : Int32) r1.2 _ hf _ (by omega)
    · refine r_aload_n C0 dL_hands_1025 rfl 1 rfl ?_
      refine r_iload C0 dL_hands_1026 0 rfl ?_
      refine r_iconst (v := 5) C0 dL_hands_1028 (by decide) ?_
      refine r_callWp C0 (st := []) (kc1 := kc + 2) [.ref p0, .int r1.1, .int (5 : Int32)] hf vs_161 (fun hl r2 hr2 => c_L_tryShip hl F p0 r1.1 (5 : Int32) hk_p0 r1.2 r2 hr2) rfl rfl (Nat.le_of_ble_eq_true rfl) dL_hands_1029 (zrm_k 810 rfl (by omega)) (by omega) (fun r2 hr2 hf => ?_)
      refine r_if_ne C0 1046 dL_hands_1032 (by decide) hf (fun hf => ?_) (fun hf => ?_)
      · refine r_iconst (v := 0) C0 dL_hands_1046 (by decide) ?_
        refine r_sub (L' := [(0, .ref p0), (2, .int v2), (5, .int v5), (9, .int v9), (29, .int r1.1)]) [1, 2, 4, 6, 0] rfl ?_
        exact g_L_hands_1047 C0 F p0 p1 hk_p0 v2 v5 v9 r1.1 (0 : Int32) r1.2 _ hf _ (by omega)
      · refine r_iload C0 dL_hands_1035 5 rfl ?_
        refine r_iload C0 dL_hands_1037 3 rfl ?_
        refine r_icmp_ge C0 1046 dL_hands_1039 (by decide) hf (fun hf => ?_) (fun hf => ?_)
        · refine r_iconst (v := 0) C0 dL_hands_1046 (by decide) ?_
          refine r_sub (L' := [(0, .ref p0), (2, .int v2), (5, .int v5), (9, .int v9), (29, .int r1.1)]) [1, 2, 4, 6, 0] rfl ?_
          exact g_L_hands_1047 C0 F p0 p1 hk_p0 v2 v5 v9 r1.1 (0 : Int32) r1.2 _ hf _ (by omega)
        · refine r_iconst (v := 1) C0 dL_hands_1042 (by decide) ?_
          refine r_goto C0 1047 dL_hands_1043 (by decide) ?_
          refine r_sub (L' := [(0, .ref p0), (2, .int v2), (5, .int v5), (9, .int v9), (29, .int r1.1)]) [1, 2, 4, 6, 0] rfl ?_
          exact g_L_hands_1047 C0 F p0 p1 hk_p0 v2 v5 v9 r1.1 (1 : Int32) r1.2 _ hf _ (by omega)
set_option maxHeartbeats 4000000 in
set_option maxRecDepth 100000 in
theorem g_L_hands_991 {Γ : zCx} {E : zEn} {S : zSk} {X : zMl} (C0 : zCt Γ E RL cL_hands 32 (Option.some Jvm.ClassFile.FieldType.boolean) [] { frames := 10, cells := 810, slots := 4860, locals := 209 }) (F : Nat) (p0 : Nat) (p1 : Int32) (hk_p0 : K_X10 S p0)  (v2 : Int32) (v4 : Int32) (v5 : Int32) (v7 : Int32) (v9 : Int32) (M : zMi) (r : Int32 × zMi) (hf : f_L_hands_991 F p0 p1 v2 v4 v5 v7 v9 M = some r) (kc : Nat) (hkc : kc + (97) ≤ 810) : zG Γ (zQX Γ E 810 4860 S (.inr (some (.int r.1)), r.2) X) E 32 kc (6 * kc) S ZT M X 991 [(0, .ref p0), (2, .int v2), (4, .int v4), (5, .int v5), (7, .int v7), (9, .int v9)] [] := by
  unfold f_L_hands_991 at hf
  refine r_aload_n C0 dL_hands_991 rfl 0 rfl ?_
  refine r_iconst (v := 0) C0 dL_hands_992 (by decide) ?_
  refine r_callWw C0 (st := []) (kc1 := kc + 2) [.ref p0, .int (0 : Int32)] hf vs_163 (fun hl r1 hr1 => c_L_tryRestore hl F p0 (0 : Int32) hk_p0 M r1 hr1) rfl rfl (Nat.le_of_ble_eq_true rfl) dL_hands_993 (zrm_k 810 rfl (by omega)) (by omega) (fun r1 hr1 hf => ?_)
  refine r_iload_n C0 dL_hands_996 rfl 1 rfl ?_
  refine r_icmp_ne C0 1004 dL_hands_997 (by decide) hf (fun hf => ?_) (fun hf => ?_)
  · refine r_iconst (v := 0) C0 dL_hands_1004 (by decide) ?_
    refine r_istore (L' := [(11, .int (0 : Int32)), (0, .ref p0), (2, .int v2), (4, .int v4), (5, .int v5), (7, .int v7), (9, .int v9)]) C0 dL_hands_1005 (by decide) rfl ?_
    refine r_sub (L' := [(0, .ref p0), (2, .int v2), (4, .int v4), (5, .int v5), (7, .int v7), (9, .int v9), (11, .int (0 : Int32))]) [1, 2, 3, 4, 5, 6, 0] rfl ?_
    exact g_L_hands_1007 C0 F p0 p1 hk_p0 v2 v4 v5 v7 v9 (0 : Int32) r1.2 _ hf _ (by omega)
  · refine r_iconst (v := 1) C0 dL_hands_1000 (by decide) ?_
    refine r_goto C0 1005 dL_hands_1001 (by decide) ?_
    refine r_istore (L' := [(11, .int (1 : Int32)), (0, .ref p0), (2, .int v2), (4, .int v4), (5, .int v5), (7, .int v7), (9, .int v9)]) C0 dL_hands_1005 (by decide) rfl ?_
    refine r_sub (L' := [(0, .ref p0), (2, .int v2), (4, .int v4), (5, .int v5), (7, .int v7), (9, .int v9), (11, .int (1 : Int32))]) [1, 2, 3, 4, 5, 6, 0] rfl ?_
    exact g_L_hands_1007 C0 F p0 p1 hk_p0 v2 v4 v5 v7 v9 (1 : Int32) r1.2 _ hf _ (by omega)
set_option maxHeartbeats 4000000 in
set_option maxRecDepth 100000 in
theorem g_L_hands_918 {Γ : zCx} {E : zEn} {S : zSk} {X : zMl} (C0 : zCt Γ E RL cL_hands 32 (Option.some Jvm.ClassFile.FieldType.boolean) [] { frames := 10, cells := 810, slots := 4860, locals := 209 }) (F : Nat) (p0 : Nat) (p1 : Int32) (hk_p0 : K_X10 S p0)  (v2 : Int32) (v4 : Int32) (v5 : Int32) (v6 : Int32) (v7 : Int32) (v9 : Int32) (v28 : Int32) (s0 : Int32) (M : zMi) (r : Int32 × zMi) (hf : f_L_hands_918 F p0 p1 v2 v4 v5 v6 v7 v9 v28 s0 M = some r) (kc : Nat) (hkc : kc + (107) ≤ 810) : zG Γ (zQX Γ E 810 4860 S (.inr (some (.int r.1)), r.2) X) E 32 kc (6 * kc) S ZT M X 918 [(0, .ref p0), (2, .int v2), (4, .int v4), (5, .int v5), (6, .int v6), (7, .int v7), (9, .int v9), (28, .int v28)] [.int s0] := by
  unfold f_L_hands_918 at hf
  refine r_istore (L' := [(11, .int s0), (0, .ref p0), (2, .int v2), (4, .int v4), (5, .int v5), (6, .int v6), (7, .int v7), (9, .int v9), (28, .int v28)]) C0 dL_hands_918 (by decide) rfl ?_
  refine r_iload C0 dL_hands_920 8 rfl ?_
  refine r_if_le C0 1007 dL_hands_922 (by decide) hf (fun hf => ?_) (fun hf => ?_)
  · refine r_sub (L' := [(0, .ref p0), (2, .int v2), (4, .int v4), (5, .int v5), (7, .int v7), (9, .int v9), (11, .int s0)]) [1, 2, 3, 4, 6, 7, 0] rfl ?_
    exact g_L_hands_1007 C0 F p0 p1 hk_p0 v2 v4 v5 v7 v9 s0 M _ hf _ (by omega)
  · refine r_iload C0 dL_hands_925 0 rfl ?_
    refine r_if_eq C0 1007 dL_hands_927 (by decide) hf (fun hf => ?_) (fun hf => ?_)
    · refine r_sub (L' := [(0, .ref p0), (2, .int v2), (4, .int v4), (5, .int v5), (7, .int v7), (9, .int v9), (11, .int s0)]) [1, 2, 3, 4, 6, 7, 0] rfl ?_
      exact g_L_hands_1007 C0 F p0 p1 hk_p0 v2 v4 v5 v7 v9 s0 M _ hf _ (by omega)
    · refine r_aload_n C0 dL_hands_930 rfl 1 rfl ?_
      refine r_iload C0 dL_hands_931 5 rfl ?_
      refine r_iload C0 dL_hands_933 8 rfl ?_
      refine r_callWw C0 (st := []) (kc1 := kc + 3) [.ref p0, .int v6, .int v28] hf vs_169 (fun hl r1 hr1 => c_L_tryExtend hl F p0 v6 v28 hk_p0 M r1 hr1) rfl rfl (Nat.le_of_ble_eq_true rfl) dL_hands_935 (zrm_k 810 rfl (by omega)) (by omega) (fun r1 hr1 hf => ?_)
      refine r_if_lt C0 1004 dL_hands_938 (by decide) hf (fun hf => ?_) (fun hf => ?_)
      · refine r_iconst (v := 0) C0 dL_hands_1004 (by decide) ?_
        refine r_istore (L' := [(11, .int (0 : Int32)), (0, .ref p0), (2, .int v2), (4, .int v4), (5, .int v5), (6, .int v6), (7, .int v7), (9, .int v9), (28, .int v28)]) C0 dL_hands_1005 (by decide) rfl ?_
        refine r_sub (L' := [(0, .ref p0), (2, .int v2), (4, .int v4), (5, .int v5), (7, .int v7), (9, .int v9), (11, .int (0 : Int32))]) [1, 2, 3, 4, 6, 7, 0] rfl ?_
        exact g_L_hands_1007 C0 F p0 p1 hk_p0 v2 v4 v5 v7 v9 (0 : Int32) r1.2 _ hf _ (by omega)
      · refine r_aload_n C0 dL_hands_941 rfl 1 rfl ?_
        refine r_iload C0 dL_hands_942 5 rfl ?_
        refine r_callWw C0 (st := []) (kc1 := kc + 4) [.ref p0, .int v6] hf vs_177 (fun hl r2 hr2 => c_L_tryDoneAfter hl F p0 v6 hk_p0 r1.2 r2 hr2) rfl rfl (Nat.le_of_ble_eq_true rfl) dL_hands_944 (zrm_k 810 rfl (by omega)) (by omega) (fun r2 hr2 hf => ?_)
        refine r_bipush (v := -9) C0 dL_hands_947 (by decide) ?_
        refine r_icmp_eq C0 1004 dL_hands_949 (by decide) hf (fun hf => ?_) (fun hf => ?_)
        · refine r_iconst (v := 0) C0 dL_hands_1004 (by decide) ?_
          refine r_istore (L' := [(11, .int (0 : Int32)), (0, .ref p0), (2, .int v2), (4, .int v4), (5, .int v5), (6, .int v6), (7, .int v7), (9, .int v9), (28, .int v28)]) C0 dL_hands_1005 (by decide) rfl ?_
          refine r_sub (L' := [(0, .ref p0), (2, .int v2), (4, .int v4), (5, .int v5), (7, .int v7), (9, .int v9), (11, .int (0 : Int32))]) [1, 2, 3, 4, 6, 7, 0] rfl ?_
          exact g_L_hands_1007 C0 F p0 p1 hk_p0 v2 v4 v5 v7 v9 (0 : Int32) r2.2 _ hf _ (by omega)
        · refine r_aload_n C0 dL_hands_952 rfl 1 rfl ?_
          refine r_iconst (v := 0) C0 dL_hands_953 (by decide) ?_
          refine r_callWw C0 (st := []) (kc1 := kc + 6) [.ref p0, .int (0 : Int32)] hf vs_163 (fun hl r3 hr3 => c_L_tryRestore hl F p0 (0 : Int32) hk_p0 r2.2 r3 hr3) rfl rfl (Nat.le_of_ble_eq_true rfl) dL_hands_954 (zrm_k 810 rfl (by omega)) (by omega) (fun r3 hr3 hf => ?_)
          refine r_iload_n C0 dL_hands_957 rfl 2 rfl ?_
          refine r_icmp_ne C0 1004 dL_hands_958 (by decide) hf (fun hf => ?_) (fun hf => ?_)
          · refine r_iconst (v := 0) C0 dL_hands_1004 (by decide) ?_
            refine r_istore (L' := [(11, .int (0 : Int32)), (0, .ref p0), (2, .int v2), (4, .int v4), (5, .int v5), (6, .int v6), (7, .int v7), (9, .int v9), (28, .int v28)]) C0 dL_hands_1005 (by decide) rfl ?_
            refine r_sub (L' := [(0, .ref p0), (2, .int v2), (4, .int v4), (5, .int v5), (7, .int v7), (9, .int v9), (11, .int (0 : Int32))]) [1, 2, 3, 4, 6, 7, 0] rfl ?_
            exact g_L_hands_1007 C0 F p0 p1 hk_p0 v2 v4 v5 v7 v9 (0 : Int32) r3.2 _ hf _ (by omega)
          · refine r_iload C0 dL_hands_961 8 rfl ?_
            refine r_iconst (v := 1) C0 dL_hands_963 (by decide) ?_
            refine r_icmp_eq C0 991 dL_hands_964 (by decide) hf (fun hf => ?_) (fun hf => ?_)
            · refine r_sub (L' := [(0, .ref p0), (2, .int v2), (4, .int v4), (5, .int v5), (7, .int v7), (9, .int v9)]) [1, 2, 3, 4, 6, 7] rfl ?_
              exact g_L_hands_991 C0 F p0 p1 hk_p0 v2 v4 v5 v7 v9 r3.2 _ hf _ (by omega)
            · refine r_aload_n C0 dL_hands_967 rfl 1 rfl ?_
              refine r_iload C0 dL_hands_968 5 rfl ?_
              refine r_iload C0 dL_hands_970 8 rfl ?_
              refine r_iconst (v := 1) C0 dL_hands_972 (by decide) ?_
              refine r_isub C0 dL_hands_973 ?_
              refine r_callWw C0 (st := []) (kc1 := kc + 9) [.ref p0, .int v6, .int (v28 - (1 : Int32))] hf vs_169 (fun hl r4 hr4 => c_L_tryExtend hl F p0 v6 (v28 - (1 : Int32)) hk_p0 r3.2 r4 hr4) rfl rfl (Nat.le_of_ble_eq_true rfl) dL_hands_974 (zrm_k 810 rfl (by omega)) (by omega) (fun r4 hr4 hf => ?_)
              refine r_if_lt C0 1004 dL_hands_977 (by decide) hf (fun hf => ?_) (fun hf => ?_)
              · refine r_iconst (v := 0) C0 dL_hands_1004 (by decide) ?_
                refine r_istore (L' := [(11, .int (0 : Int32)), (0, .ref p0), (2, .int v2), (4, .int v4), (5, .int v5), (6, .int v6), (7, .int v7), (9, .int v9), (28, .int v28)]) C0 dL_hands_1005 (by decide) rfl ?_
                refine r_sub (L' := [(0, .ref p0), (2, .int v2), (4, .int v4), (5, .int v5), (7, .int v7), (9, .int v9), (11, .int (0 : Int32))]) [1, 2, 3, 4, 6, 7, 0] rfl ?_
                exact g_L_hands_1007 C0 F p0 p1 hk_p0 v2 v4 v5 v7 v9 (0 : Int32) r4.2 _ hf _ (by omega)
              · refine r_aload_n C0 dL_hands_980 rfl 1 rfl ?_
                refine r_iload C0 dL_hands_981 5 rfl ?_
                refine r_callWw C0 (st := []) (kc1 := kc + 10) [.ref p0, .int v6] hf vs_177 (fun hl r5 hr5 => c_L_tryDoneAfter hl F p0 v6 hk_p0 r4.2 r5 hr5) rfl rfl (Nat.le_of_ble_eq_true rfl) dL_hands_983 (zrm_k 810 rfl (by omega)) (by omega) (fun r5 hr5 hf => ?_)
                refine r_bipush (v := -9) C0 dL_hands_986 (by decide) ?_
                refine r_icmp_ne C0 1004 dL_hands_988 (by decide) hf (fun hf => ?_) (fun hf => ?_)
                · refine r_iconst (v := 0) C0 dL_hands_1004 (by decide) ?_
                  refine r_istore (L' := [(11, .int (0 : Int32)), (0, .ref p0), (2, .int v2), (4, .int v4), (5, .int v5), (6, .int v6), (7, .int v7), (9, .int v9), (28, .int v28)]) C0 dL_hands_1005 (by decide) rfl ?_
                  refine r_sub (L' := [(0, .ref p0), (2, .int v2), (4, .int v4), (5, .int v5), (7, .int v7), (9, .int v9), (11, .int (0 : Int32))]) [1, 2, 3, 4, 6, 7, 0] rfl ?_
                  exact g_L_hands_1007 C0 F p0 p1 hk_p0 v2 v4 v5 v7 v9 (0 : Int32) r5.2 _ hf _ (by omega)
                · refine r_sub (L' := [(0, .ref p0), (2, .int v2), (4, .int v4), (5, .int v5), (7, .int v7), (9, .int v9)]) [1, 2, 3, 4, 6, 7] rfl ?_
                  exact g_L_hands_991 C0 F p0 p1 hk_p0 v2 v4 v5 v7 v9 r5.2 _ hf _ (by omega)
set_option maxHeartbeats 4000000 in
set_option maxRecDepth 100000 in
theorem g_L_hands_871 {Γ : zCx} {E : zEn} {S : zSk} {X : zMl} (C0 : zCt Γ E RL cL_hands 32 (Option.some Jvm.ClassFile.FieldType.boolean) [] { frames := 10, cells := 810, slots := 4860, locals := 209 }) (F : Nat) (p0 : Nat) (p1 : Int32) (hk_p0 : K_X10 S p0)  (v2 : Int32) (v4 : Int32) (v5 : Int32) (v6 : Int32) (v7 : Int32) (v9 : Int32) (v27 : Int32) (v28 : Int32) (s0 : Int32) (s1 : Int32) (M : zMi) (r : Int32 × zMi) (hf : f_L_hands_871 F p0 p1 v2 v4 v5 v6 v7 v9 v27 v28 s0 s1 M = some r) (kc : Nat) (hkc : kc + (111) ≤ 810) : zG Γ (zQX Γ E 810 4860 S (.inr (some (.int r.1)), r.2) X) E 32 kc (6 * kc) S ZT M X 871 [(0, .ref p0), (2, .int v2), (4, .int v4), (5, .int v5), (6, .int v6), (7, .int v7), (9, .int v9), (27, .int v27), (28, .int v28)] [.int s0, .int s1] := by
  unfold f_L_hands_871 at hf
  refine r_icmp_ne C0 917 dL_hands_871 (by decide) hf (fun hf => ?_) (fun hf => ?_)
  · refine r_iconst (v := 0) C0 dL_hands_917 (by decide) ?_
    refine r_sub (L' := [(0, .ref p0), (2, .int v2), (4, .int v4), (5, .int v5), (6, .int v6), (7, .int v7), (9, .int v9), (28, .int v28)]) [0, 1, 2, 3, 4, 5, 6, 8] rfl ?_
    exact g_L_hands_918 C0 F p0 p1 hk_p0 v2 v4 v5 v6 v7 v9 v28 (0 : Int32) M _ hf _ (by omega)
  · refine r_iload C0 dL_hands_874 7 rfl ?_
    refine r_iconst (v := 1) C0 dL_hands_876 (by decide) ?_
    refine r_icmp_lt C0 913 dL_hands_877 (by decide) hf (fun hf => ?_) (fun hf => ?_)
    · refine r_iconst (v := 1) C0 dL_hands_913 (by decide) ?_
      refine r_goto C0 918 dL_hands_914 (by decide) ?_
      refine r_sub (L' := [(0, .ref p0), (2, .int v2), (4, .int v4), (5, .int v5), (6, .int v6), (7, .int v7), (9, .int v9), (28, .int v28)]) [0, 1, 2, 3, 4, 5, 6, 8] rfl ?_
      exact g_L_hands_918 C0 F p0 p1 hk_p0 v2 v4 v5 v6 v7 v9 v28 (1 : Int32) M _ hf _ (by omega)
    · refine r_iload C0 dL_hands_880 7 rfl ?_
      refine r_bipush (v := 99) C0 dL_hands_882 (by decide) ?_
      refine r_icmp_gt C0 913 dL_hands_884 (by decide) hf (fun hf => ?_) (fun hf => ?_)
      · refine r_iconst (v := 1) C0 dL_hands_913 (by decide) ?_
        refine r_goto C0 918 dL_hands_914 (by decide) ?_
        refine r_sub (L' := [(0, .ref p0), (2, .int v2), (4, .int v4), (5, .int v5), (6, .int v6), (7, .int v7), (9, .int v9), (28, .int v28)]) [0, 1, 2, 3, 4, 5, 6, 8] rfl ?_
        exact g_L_hands_918 C0 F p0 p1 hk_p0 v2 v4 v5 v6 v7 v9 v28 (1 : Int32) M _ hf _ (by omega)
      · refine r_aload_n C0 dL_hands_887 rfl 0 rfl ?_
        refine r_iload C0 dL_hands_888 7 rfl ?_
        refine r_iconst (v := 1) C0 dL_hands_890 (by decide) ?_
        refine r_callWw C0 (st := []) (kc1 := kc + 2) [.ref p0, .int v27, .int (1 : Int32)] hf vs_176 (fun hl r1 hr1 => c_L_tryAhead hl F p0 v27 (1 : Int32) hk_p0 M r1 hr1) rfl rfl (Nat.le_of_ble_eq_true rfl) dL_hands_891 (zrm_k 810 rfl (by omega)) (by omega) (fun r1 hr1 hf => ?_)
        refine r_iload C0 dL_hands_894 4 rfl ?_
        refine r_icmp_le C0 917 dL_hands_896 (by decide) hf (fun hf => ?_) (fun hf => ?_)
        · refine r_iconst (v := 0) C0 dL_hands_917 (by decide) ?_
          refine r_sub (L' := [(0, .ref p0), (2, .int v2), (4, .int v4), (5, .int v5), (6, .int v6), (7, .int v7), (9, .int v9), (28, .int v28)]) [0, 1, 2, 3, 4, 5, 6, 8] rfl ?_
          exact g_L_hands_918 C0 F p0 p1 hk_p0 v2 v4 v5 v6 v7 v9 v28 (0 : Int32) r1.2 _ hf _ (by omega)
        · refine r_aload_n C0 dL_hands_899 rfl 0 rfl ?_
          refine r_iload C0 dL_hands_900 7 rfl ?_
          refine r_iconst (v := 1) C0 dL_hands_902 (by decide) ?_
          refine r_isub C0 dL_hands_903 ?_
          refine r_iconst (v := 1) C0 dL_hands_904 (by decide) ?_
          refine r_callWw C0 (st := []) (kc1 := kc + 4) [.ref p0, .int (v27 - (1 : Int32)), .int (1 : Int32)] hf vs_176 (fun hl r2 hr2 => c_L_tryAhead hl F p0 (v27 - (1 : Int32)) (1 : Int32) hk_p0 r1.2 r2 hr2) rfl rfl (Nat.le_of_ble_eq_true rfl) dL_hands_905 (zrm_k 810 rfl (by omega)) (by omega) (fun r2 hr2 hf => ?_)
          refine r_iload C0 dL_hands_908 4 rfl ?_
          refine r_icmp_gt C0 917 dL_hands_910 (by decide) hf (fun hf => ?_) (fun hf => ?_)
          · refine r_iconst (v := 0) C0 dL_hands_917 (by decide) ?_
            refine r_sub (L' := [(0, .ref p0), (2, .int v2), (4, .int v4), (5, .int v5), (6, .int v6), (7, .int v7), (9, .int v9), (28, .int v28)]) [0, 1, 2, 3, 4, 5, 6, 8] rfl ?_
            exact g_L_hands_918 C0 F p0 p1 hk_p0 v2 v4 v5 v6 v7 v9 v28 (0 : Int32) r2.2 _ hf _ (by omega)
          · refine r_iconst (v := 1) C0 dL_hands_913 (by decide) ?_
            refine r_goto C0 918 dL_hands_914 (by decide) ?_
            refine r_sub (L' := [(0, .ref p0), (2, .int v2), (4, .int v4), (5, .int v5), (6, .int v6), (7, .int v7), (9, .int v9), (28, .int v28)]) [0, 1, 2, 3, 4, 5, 6, 8] rfl ?_
            exact g_L_hands_918 C0 F p0 p1 hk_p0 v2 v4 v5 v6 v7 v9 v28 (1 : Int32) r2.2 _ hf _ (by omega)
set_option maxHeartbeats 4000000 in
set_option maxRecDepth 100000 in
theorem g_L_hands_859 {Γ : zCx} {E : zEn} {S : zSk} {X : zMl} (C0 : zCt Γ E RL cL_hands 32 (Option.some Jvm.ClassFile.FieldType.boolean) [] { frames := 10, cells := 810, slots := 4860, locals := 209 }) (F : Nat) (p0 : Nat) (p1 : Int32) (hk_p0 : K_X10 S p0)  (v2 : Int32) (v4 : Int32) (v5 : Int32) (v6 : Int32) (v7 : Int32) (v9 : Int32) (v27 : Int32) (v28 : Int32) (s0 : Int32) (M : zMi) (r : Int32 × zMi) (hf : f_L_hands_859 F p0 p1 v2 v4 v5 v6 v7 v9 v27 v28 s0 M = some r) (kc : Nat) (hkc : kc + (111) ≤ 810) : zG Γ (zQX Γ E 810 4860 S (.inr (some (.int r.1)), r.2) X) E 32 kc (6 * kc) S ZT M X 859 [(0, .ref p0), (2, .int v2), (4, .int v4), (5, .int v5), (6, .int v6), (7, .int v7), (9, .int v9), (27, .int v27), (28, .int v28)] [.int s0] := by
  unfold f_L_hands_859 at hf
  refine r_iload C0 dL_hands_859 7 rfl ?_
  refine r_bipush (v := -9) C0 dL_hands_861 (by decide) ?_
  refine r_icmp_eq C0 870 dL_hands_863 (by decide) hf (fun hf => ?_) (fun hf => ?_)
  · refine r_iconst (v := 0) C0 dL_hands_870 (by decide) ?_
    refine r_sub (L' := [(0, .ref p0), (2, .int v2), (4, .int v4), (5, .int v5), (6, .int v6), (7, .int v7), (9, .int v9), (27, .int v27), (28, .int v28)]) [0, 1, 2, 3, 4, 5, 6, 7, 8] rfl ?_
    exact g_L_hands_871 C0 F p0 p1 hk_p0 v2 v4 v5 v6 v7 v9 v27 v28 (0 : Int32) s0 M _ hf _ (by omega)
  · refine r_iconst (v := 1) C0 dL_hands_866 (by decide) ?_
    refine r_goto C0 871 dL_hands_867 (by decide) ?_
    refine r_sub (L' := [(0, .ref p0), (2, .int v2), (4, .int v4), (5, .int v5), (6, .int v6), (7, .int v7), (9, .int v9), (27, .int v27), (28, .int v28)]) [0, 1, 2, 3, 4, 5, 6, 7, 8] rfl ?_
    exact g_L_hands_871 C0 F p0 p1 hk_p0 v2 v4 v5 v6 v7 v9 v27 v28 (1 : Int32) s0 M _ hf _ (by omega)
set_option maxHeartbeats 4000000 in
set_option maxRecDepth 100000 in
theorem g_L_hands_846 {Γ : zCx} {E : zEn} {S : zSk} {X : zMl} (C0 : zCt Γ E RL cL_hands 32 (Option.some Jvm.ClassFile.FieldType.boolean) [] { frames := 10, cells := 810, slots := 4860, locals := 209 }) (F : Nat) (p0 : Nat) (p1 : Int32) (hk_p0 : K_X10 S p0)  (v2 : Int32) (v4 : Int32) (v5 : Int32) (v6 : Int32) (v7 : Int32) (v9 : Int32) (v27 : Int32) (v28 : Int32) (s0 : Int32) (s1 : Int32) (M : zMi) (r : Int32 × zMi) (hf : f_L_hands_846 F p0 p1 v2 v4 v5 v6 v7 v9 v27 v28 s0 s1 M = some r) (kc : Nat) (hkc : kc + (111) ≤ 810) : zG Γ (zQX Γ E 810 4860 S (.inr (some (.int r.1)), r.2) X) E 32 kc (6 * kc) S ZT M X 846 [(0, .ref p0), (2, .int v2), (4, .int v4), (5, .int v5), (6, .int v6), (7, .int v7), (9, .int v9), (27, .int v27), (28, .int v28)] [.int s0, .int s1] := by
  unfold f_L_hands_846 at hf
  refine r_icmp_ne C0 917 dL_hands_846 (by decide) hf (fun hf => ?_) (fun hf => ?_)
  · refine r_iconst (v := 0) C0 dL_hands_917 (by decide) ?_
    refine r_sub (L' := [(0, .ref p0), (2, .int v2), (4, .int v4), (5, .int v5), (6, .int v6), (7, .int v7), (9, .int v9), (28, .int v28)]) [0, 1, 2, 3, 4, 5, 6, 8] rfl ?_
    exact g_L_hands_918 C0 F p0 p1 hk_p0 v2 v4 v5 v6 v7 v9 v28 (0 : Int32) M _ hf _ (by omega)
  · refine r_iload C0 dL_hands_849 8 rfl ?_
    refine r_if_ne C0 858 dL_hands_851 (by decide) hf (fun hf => ?_) (fun hf => ?_)
    · refine r_iconst (v := 0) C0 dL_hands_858 (by decide) ?_
      refine r_sub (L' := [(0, .ref p0), (2, .int v2), (4, .int v4), (5, .int v5), (6, .int v6), (7, .int v7), (9, .int v9), (27, .int v27), (28, .int v28)]) [0, 1, 2, 3, 4, 5, 6, 7, 8] rfl ?_
      exact g_L_hands_859 C0 F p0 p1 hk_p0 v2 v4 v5 v6 v7 v9 v27 v28 (0 : Int32) M _ hf _ (by omega)
    · refine r_iconst (v := 1) C0 dL_hands_854 (by decide) ?_
      refine r_goto C0 859 dL_hands_855 (by decide) ?_
      refine r_sub (L' := [(0, .ref p0), (2, .int v2), (4, .int v4), (5, .int v5), (6, .int v6), (7, .int v7), (9, .int v9), (27, .int v27), (28, .int v28)]) [0, 1, 2, 3, 4, 5, 6, 7, 8] rfl ?_
      exact g_L_hands_859 C0 F p0 p1 hk_p0 v2 v4 v5 v6 v7 v9 v27 v28 (1 : Int32) M _ hf _ (by omega)
set_option maxHeartbeats 4000000 in
set_option maxRecDepth 100000 in
theorem g_L_hands_834 {Γ : zCx} {E : zEn} {S : zSk} {X : zMl} (C0 : zCt Γ E RL cL_hands 32 (Option.some Jvm.ClassFile.FieldType.boolean) [] { frames := 10, cells := 810, slots := 4860, locals := 209 }) (F : Nat) (p0 : Nat) (p1 : Int32) (hk_p0 : K_X10 S p0)  (v2 : Int32) (v4 : Int32) (v5 : Int32) (v6 : Int32) (v7 : Int32) (v9 : Int32) (v27 : Int32) (v28 : Int32) (s0 : Int32) (M : zMi) (r : Int32 × zMi) (hf : f_L_hands_834 F p0 p1 v2 v4 v5 v6 v7 v9 v27 v28 s0 M = some r) (kc : Nat) (hkc : kc + (111) ≤ 810) : zG Γ (zQX Γ E 810 4860 S (.inr (some (.int r.1)), r.2) X) E 32 kc (6 * kc) S ZT M X 834 [(0, .ref p0), (2, .int v2), (4, .int v4), (5, .int v5), (6, .int v6), (7, .int v7), (9, .int v9), (27, .int v27), (28, .int v28)] [.int s0] := by
  unfold f_L_hands_834 at hf
  refine r_iload C0 dL_hands_834 4 rfl ?_
  refine r_iload C0 dL_hands_836 5 rfl ?_
  refine r_icmp_ge C0 845 dL_hands_838 (by decide) hf (fun hf => ?_) (fun hf => ?_)
  · refine r_iconst (v := 0) C0 dL_hands_845 (by decide) ?_
    refine r_sub (L' := [(0, .ref p0), (2, .int v2), (4, .int v4), (5, .int v5), (6, .int v6), (7, .int v7), (9, .int v9), (27, .int v27), (28, .int v28)]) [0, 1, 2, 3, 4, 5, 6, 7, 8] rfl ?_
    exact g_L_hands_846 C0 F p0 p1 hk_p0 v2 v4 v5 v6 v7 v9 v27 v28 (0 : Int32) s0 M _ hf _ (by omega)
  · refine r_iconst (v := 1) C0 dL_hands_841 (by decide) ?_
    refine r_goto C0 846 dL_hands_842 (by decide) ?_
    refine r_sub (L' := [(0, .ref p0), (2, .int v2), (4, .int v4), (5, .int v5), (6, .int v6), (7, .int v7), (9, .int v9), (27, .int v27), (28, .int v28)]) [0, 1, 2, 3, 4, 5, 6, 7, 8] rfl ?_
    exact g_L_hands_846 C0 F p0 p1 hk_p0 v2 v4 v5 v6 v7 v9 v27 v28 (1 : Int32) s0 M _ hf _ (by omega)
set_option maxHeartbeats 4000000 in
set_option maxRecDepth 100000 in
theorem g_L_hands_801 {Γ : zCx} {E : zEn} {S : zSk} {X : zMl} (C0 : zCt Γ E RL cL_hands 32 (Option.some Jvm.ClassFile.FieldType.boolean) [] { frames := 10, cells := 810, slots := 4860, locals := 209 }) (F : Nat) (p0 : Nat) (p1 : Int32) (hk_p0 : K_X10 S p0)  (v2 : Int32) (v4 : Int32) (v5 : Int32) (v6 : Int32) (v7 : Int32) (v9 : Int32) (s0 : Int32) (M : zMi) (r : Int32 × zMi) (hf : f_L_hands_801 F p0 p1 v2 v4 v5 v6 v7 v9 s0 M = some r) (kc : Nat) (hkc : kc + (113) ≤ 810) : zG Γ (zQX Γ E 810 4860 S (.inr (some (.int r.1)), r.2) X) E 32 kc (6 * kc) S ZT M X 801 [(0, .ref p0), (2, .int v2), (4, .int v4), (5, .int v5), (6, .int v6), (7, .int v7), (9, .int v9)] [.int s0] := by
  unfold f_L_hands_801 at hf
  refine r_istore (L' := [(11, .int s0), (0, .ref p0), (2, .int v2), (4, .int v4), (5, .int v5), (6, .int v6), (7, .int v7), (9, .int v9)]) C0 dL_hands_801 (by decide) rfl ?_
  refine r_aload_n C0 dL_hands_803 rfl 1 rfl ?_
  refine r_iload C0 dL_hands_804 5 rfl ?_
  refine r_callWw C0 (st := []) (kc1 := kc + 1) [.ref p0, .int v6] hf vs_177 (fun hl r1 hr1 => c_L_tryDoneAfter hl F p0 v6 hk_p0 M r1 hr1) rfl rfl (Nat.le_of_ble_eq_true rfl) dL_hands_806 (zrm_k 810 rfl (by omega)) (by omega) (fun r1 hr1 hf => ?_)
  refine r_istore (L' := [(27, .int r1.1), (11, .int s0), (0, .ref p0), (2, .int v2), (4, .int v4), (5, .int v5), (6, .int v6), (7, .int v7), (9, .int v9)]) C0 dL_hands_809 (by decide) rfl ?_
  refine r_aload_n C0 dL_hands_811 rfl 2 rfl ?_
  refine r_iload C0 dL_hands_812 6 rfl ?_
  refine r_callWw C0 (st := []) (kc1 := kc + 2) [.ref p0, .int v6] hf vs_178 (fun hl r2 hr2 => c_L_tryExtension hl F p0 v6 hk_p0 r1.2 r2 hr2) rfl rfl (Nat.le_of_ble_eq_true rfl) dL_hands_814 (zrm_k 810 rfl (by omega)) (by omega) (fun r2 hr2 hf => ?_)
  refine r_istore (L' := [(28, .int r2.1), (27, .int r1.1), (11, .int s0), (0, .ref p0), (2, .int v2), (4, .int v4), (5, .int v5), (6, .int v6), (7, .int v7), (9, .int v9)]) C0 dL_hands_817 (by decide) rfl ?_
  refine r_iload C0 dL_hands_819 2 rfl ?_
  refine r_if_eq C0 917 dL_hands_821 (by decide) hf (fun hf => ?_) (fun hf => ?_)
  · refine r_iconst (v := 0) C0 dL_hands_917 (by decide) ?_
    refine r_sub (L' := [(0, .ref p0), (2, .int v2), (4, .int v4), (5, .int v5), (6, .int v6), (7, .int v7), (9, .int v9), (28, .int r2.1)]) [3, 4, 5, 6, 7, 8, 9, 0] rfl ?_
    exact g_L_hands_918 C0 F p0 p1 hk_p0 v2 v4 v5 v6 v7 v9 r2.1 (0 : Int32) r2.2 _ hf _ (by omega)
  · refine r_iload C0 dL_hands_824 1 rfl ?_
    refine r_if_ne C0 833 dL_hands_826 (by decide) hf (fun hf => ?_) (fun hf => ?_)
    · refine r_iconst (v := 0) C0 dL_hands_833 (by decide) ?_
      refine r_sub (L' := [(0, .ref p0), (2, .int v2), (4, .int v4), (5, .int v5), (6, .int v6), (7, .int v7), (9, .int v9), (27, .int r1.1), (28, .int r2.1)]) [3, 4, 5, 6, 7, 8, 9, 1, 0] rfl ?_
      exact g_L_hands_834 C0 F p0 p1 hk_p0 v2 v4 v5 v6 v7 v9 r1.1 r2.1 (0 : Int32) r2.2 _ hf _ (by omega)
    · refine r_iconst (v := 1) C0 dL_hands_829 (by decide) ?_
      refine r_goto C0 834 dL_hands_830 (by decide) ?_
      refine r_sub (L' := [(0, .ref p0), (2, .int v2), (4, .int v4), (5, .int v5), (6, .int v6), (7, .int v7), (9, .int v9), (27, .int r1.1), (28, .int r2.1)]) [3, 4, 5, 6, 7, 8, 9, 1, 0] rfl ?_
      exact g_L_hands_834 C0 F p0 p1 hk_p0 v2 v4 v5 v6 v7 v9 r1.1 r2.1 (1 : Int32) r2.2 _ hf _ (by omega)
set_option maxHeartbeats 4000000 in
set_option maxRecDepth 100000 in
theorem g_L_hands_793 {Γ : zCx} {E : zEn} {S : zSk} {X : zMl} (C0 : zCt Γ E RL cL_hands 32 (Option.some Jvm.ClassFile.FieldType.boolean) [] { frames := 10, cells := 810, slots := 4860, locals := 209 }) (F : Nat) (p0 : Nat) (p1 : Int32) (hk_p0 : K_X10 S p0)  (v2 : Int32) (v4 : Int32) (v5 : Int32) (v6 : Int32) (v7 : Int32) (v9 : Int32) (s0 : Int32) (s1 : Int32) (M : zMi) (r : Int32 × zMi) (hf : f_L_hands_793 F p0 p1 v2 v4 v5 v6 v7 v9 s0 s1 M = some r) (kc : Nat) (hkc : kc + (113) ≤ 810) : zG Γ (zQX Γ E 810 4860 S (.inr (some (.int r.1)), r.2) X) E 32 kc (6 * kc) S ZT M X 793 [(0, .ref p0), (2, .int v2), (4, .int v4), (5, .int v5), (6, .int v6), (7, .int v7), (9, .int v9)] [.int s0, .int s1] := by
  unfold f_L_hands_793 at hf
  refine r_icmp_gt C0 800 dL_hands_793 (by decide) hf (fun hf => ?_) (fun hf => ?_)
  · refine r_iconst (v := 0) C0 dL_hands_800 (by decide) ?_
    refine r_sub (L' := [(0, .ref p0), (2, .int v2), (4, .int v4), (5, .int v5), (6, .int v6), (7, .int v7), (9, .int v9)]) [0, 1, 2, 3, 4, 5, 6] rfl ?_
    exact g_L_hands_801 C0 F p0 p1 hk_p0 v2 v4 v5 v6 v7 v9 (0 : Int32) M _ hf _ (by omega)
  · refine r_iconst (v := 1) C0 dL_hands_796 (by decide) ?_
    refine r_goto C0 801 dL_hands_797 (by decide) ?_
    refine r_sub (L' := [(0, .ref p0), (2, .int v2), (4, .int v4), (5, .int v5), (6, .int v6), (7, .int v7), (9, .int v9)]) [0, 1, 2, 3, 4, 5, 6] rfl ?_
    exact g_L_hands_801 C0 F p0 p1 hk_p0 v2 v4 v5 v6 v7 v9 (1 : Int32) M _ hf _ (by omega)
set_option maxHeartbeats 4000000 in
set_option maxRecDepth 100000 in
theorem g_L_hands_761 {Γ : zCx} {E : zEn} {S : zSk} {X : zMl} (C0 : zCt Γ E RL cL_hands 32 (Option.some Jvm.ClassFile.FieldType.boolean) [] { frames := 10, cells := 810, slots := 4860, locals := 209 }) (F : Nat) (p0 : Nat) (p1 : Int32) (hk_p0 : K_X10 S p0)  (v2 : Int32) (v4 : Int32) (v5 : Int32) (v6 : Int32) (v7 : Int32) (v9 : Int32) (v11 : Int32) (v19 : Int32) (v25 : Int32) (s0 : Int32) (M : zMi) (r : Int32 × zMi) (hf : f_L_hands_761 F p0 p1 v2 v4 v5 v6 v7 v9 v11 v19 v25 s0 M = some r) (kc : Nat) (hkc : kc + (113) ≤ 810) : zG Γ (zQX Γ E 810 4860 S (.inr (some (.int r.1)), r.2) X) E 32 kc (6 * kc) S ZT M X 761 [(0, .ref p0), (2, .int v2), (4, .int v4), (5, .int v5), (6, .int v6), (7, .int v7), (9, .int v9), (11, .int v11), (19, .int v19), (25, .int v25)] [.int s0] := by
  unfold f_L_hands_761 at hf
  refine r_istore (L' := [(26, .int s0), (0, .ref p0), (2, .int v2), (4, .int v4), (5, .int v5), (6, .int v6), (7, .int v7), (9, .int v9), (11, .int v11), (19, .int v19), (25, .int v25)]) C0 dL_hands_761 (by decide) rfl ?_
  refine r_iload C0 dL_hands_763 8 rfl ?_
  refine r_if_eq C0 800 dL_hands_765 (by decide) hf (fun hf => ?_) (fun hf => ?_)
  · refine r_iconst (v := 0) C0 dL_hands_800 (by decide) ?_
    refine r_sub (L' := [(0, .ref p0), (2, .int v2), (4, .int v4), (5, .int v5), (6, .int v6), (7, .int v7), (9, .int v9)]) [1, 2, 3, 4, 5, 6, 7] rfl ?_
    exact g_L_hands_801 C0 F p0 p1 hk_p0 v2 v4 v5 v6 v7 v9 (0 : Int32) M _ hf _ (by omega)
  · refine r_iload C0 dL_hands_768 10 rfl ?_
    refine r_if_lt C0 800 dL_hands_770 (by decide) hf (fun hf => ?_) (fun hf => ?_)
    · refine r_iconst (v := 0) C0 dL_hands_800 (by decide) ?_
      refine r_sub (L' := [(0, .ref p0), (2, .int v2), (4, .int v4), (5, .int v5), (6, .int v6), (7, .int v7), (9, .int v9)]) [1, 2, 3, 4, 5, 6, 7] rfl ?_
      exact g_L_hands_801 C0 F p0 p1 hk_p0 v2 v4 v5 v6 v7 v9 (0 : Int32) M _ hf _ (by omega)
    · refine r_iload C0 dL_hands_773 10 rfl ?_
      refine r_iload C0 dL_hands_775 9 rfl ?_
      refine r_iload C0 dL_hands_777 0 rfl ?_
      refine r_icmp_ge C0 786 dL_hands_779 (by decide) hf (fun hf => ?_) (fun hf => ?_)
      · refine r_iload C0 dL_hands_786 9 rfl ?_
        refine r_iload C0 dL_hands_788 0 rfl ?_
        refine r_isub C0 dL_hands_790 ?_
        refine r_iconst (v := 1) C0 dL_hands_791 (by decide) ?_
        refine r_iadd C0 dL_hands_792 ?_
        refine r_sub (L' := [(0, .ref p0), (2, .int v2), (4, .int v4), (5, .int v5), (6, .int v6), (7, .int v7), (9, .int v9)]) [1, 2, 3, 4, 5, 6, 7] rfl ?_
        exact g_L_hands_793 C0 F p0 p1 hk_p0 v2 v4 v5 v6 v7 v9 ((v19 - s0) + (1 : Int32)) v25 M _ hf _ (by omega)
      · refine r_iconst (v := 0) C0 dL_hands_782 (by decide) ?_
        refine r_goto C0 793 dL_hands_783 (by decide) ?_
        refine r_sub (L' := [(0, .ref p0), (2, .int v2), (4, .int v4), (5, .int v5), (6, .int v6), (7, .int v7), (9, .int v9)]) [1, 2, 3, 4, 5, 6, 7] rfl ?_
        exact g_L_hands_793 C0 F p0 p1 hk_p0 v2 v4 v5 v6 v7 v9 (0 : Int32) v25 M _ hf _ (by omega)
set_option maxHeartbeats 4000000 in
set_option maxRecDepth 100000 in
theorem g_L_hands_727 {Γ : zCx} {E : zEn} {S : zSk} {X : zMl} (C0 : zCt Γ E RL cL_hands 32 (Option.some Jvm.ClassFile.FieldType.boolean) [] { frames := 10, cells := 810, slots := 4860, locals := 209 }) (F : Nat) (p0 : Nat) (p1 : Int32) (hk_p0 : K_X10 S p0)  (v2 : Int32) (v4 : Int32) (v5 : Int32) (v6 : Int32) (v7 : Int32) (v9 : Int32) (v19 : Int32) (s0 : Int32) (M : zMi) (r : Int32 × zMi) (hf : f_L_hands_727 F p0 p1 v2 v4 v5 v6 v7 v9 v19 s0 M = some r) (kc : Nat) (hkc : kc + (119) ≤ 810) : zG Γ (zQX Γ E 810 4860 S (.inr (some (.int r.1)), r.2) X) E 32 kc (6 * kc) S ZT M X 727 [(0, .ref p0), (2, .int v2), (4, .int v4), (5, .int v5), (6, .int v6), (7, .int v7), (9, .int v9), (19, .int v19)] [.int s0] := by
  unfold f_L_hands_727 at hf
  refine r_istore (L' := [(11, .int s0), (0, .ref p0), (2, .int v2), (4, .int v4), (5, .int v5), (6, .int v6), (7, .int v7), (9, .int v9), (19, .int v19)]) C0 dL_hands_727 (by decide) rfl ?_
  refine r_aload_n C0 dL_hands_729 rfl 1 rfl ?_
  refine r_iload C0 dL_hands_730 4 rfl ?_
  refine r_iload C0 dL_hands_732 5 rfl ?_
  refine r_callWp C0 (st := []) (kc1 := kc + 2) [.ref p0, .int v5, .int v6] hf vs_175 (fun hl r1 hr1 => c_L_tryCalmDays hl F p0 v5 v6 hk_p0 M r1 hr1) rfl rfl (Nat.le_of_ble_eq_true rfl) dL_hands_734 (zrm_k 810 rfl (by omega)) (by omega) (fun r1 hr1 hf => ?_)
  refine r_istore (L' := [(25, .int r1), (11, .int s0), (0, .ref p0), (2, .int v2), (4, .int v4), (5, .int v5), (6, .int v6), (7, .int v7), (9, .int v9), (19, .int v19)]) C0 dL_hands_737 (by decide) rfl ?_
  refine r_aload_n C0 dL_hands_739 rfl 2 rfl ?_
  refine r_iload C0 dL_hands_740 6 rfl ?_
  refine r_iconst (v := 1) C0 dL_hands_742 (by decide) ?_
  refine r_callWp C0 (st := []) (kc1 := kc + 4) [.ref p0, .int v6, .int (1 : Int32)] hf vs_164 (fun hl r2 hr2 => c_L_tryZone hl F p0 v6 (1 : Int32) hk_p0 M r2 hr2) rfl rfl (Nat.le_of_ble_eq_true rfl) dL_hands_743 (zrm_k 810 rfl (by omega)) (by omega) (fun r2 hr2 hf => ?_)
  refine r_iload_n C0 dL_hands_746 rfl 3 rfl ?_
  refine r_icmp_le C0 760 dL_hands_747 (by decide) hf (fun hf => ?_) (fun hf => ?_)
  · refine r_iload_n C0 dL_hands_760 rfl 3 rfl ?_
    refine r_sub (L' := [(0, .ref p0), (2, .int v2), (4, .int v4), (5, .int v5), (6, .int v6), (7, .int v7), (9, .int v9), (11, .int s0), (19, .int v19), (25, .int r1)]) [2, 3, 4, 5, 6, 7, 8, 1, 9, 0] rfl ?_
    exact g_L_hands_761 C0 F p0 p1 hk_p0 v2 v4 v5 v6 v7 v9 s0 v19 r1 v2 M _ hf _ (by omega)
  · refine r_aload_n C0 dL_hands_750 rfl 2 rfl ?_
    refine r_iload C0 dL_hands_751 6 rfl ?_
    refine r_iconst (v := 1) C0 dL_hands_753 (by decide) ?_
    refine r_callWp C0 (st := []) (kc1 := kc + 6) [.ref p0, .int v6, .int (1 : Int32)] hf vs_164 (fun hl r3 hr3 => c_L_tryZone hl F p0 v6 (1 : Int32) hk_p0 M r3 hr3) rfl rfl (Nat.le_of_ble_eq_true rfl) dL_hands_754 (zrm_k 810 rfl (by omega)) (by omega) (fun r3 hr3 hf => ?_)
    refine r_goto C0 761 dL_hands_757 (by decide) ?_
    refine r_sub (L' := [(0, .ref p0), (2, .int v2), (4, .int v4), (5, .int v5), (6, .int v6), (7, .int v7), (9, .int v9), (11, .int s0), (19, .int v19), (25, .int r1)]) [2, 3, 4, 5, 6, 7, 8, 1, 9, 0] rfl ?_
    exact g_L_hands_761 C0 F p0 p1 hk_p0 v2 v4 v5 v6 v7 v9 s0 v19 r1 r3 M _ hf _ (by omega)
set_option maxHeartbeats 4000000 in
set_option maxRecDepth 100000 in
theorem g_L_hands_715 {Γ : zCx} {E : zEn} {S : zSk} {X : zMl} (C0 : zCt Γ E RL cL_hands 32 (Option.some Jvm.ClassFile.FieldType.boolean) [] { frames := 10, cells := 810, slots := 4860, locals := 209 }) (F : Nat) (p0 : Nat) (p1 : Int32) (hk_p0 : K_X10 S p0)  (v2 : Int32) (v4 : Int32) (v5 : Int32) (v6 : Int32) (v7 : Int32) (v9 : Int32) (v19 : Int32) (v22 : Int32) (v24 : Int32) (M : zMi) (r : Int32 × zMi) (hf : f_L_hands_715 F p0 p1 v2 v4 v5 v6 v7 v9 v19 v22 v24 M = some r) (kc : Nat) (hkc : kc + (119) ≤ 810) : zG Γ (zQX Γ E 810 4860 S (.inr (some (.int r.1)), r.2) X) E 32 kc (6 * kc) S ZT M X 715 [(0, .ref p0), (2, .int v2), (4, .int v4), (5, .int v5), (6, .int v6), (7, .int v7), (9, .int v9), (19, .int v19), (22, .int v22), (24, .int v24)] [] := by
  unfold f_L_hands_715 at hf
  refine r_iload C0 dL_hands_715 8 rfl ?_
  refine r_iload C0 dL_hands_717 9 rfl ?_
  refine r_icmp_gt C0 726 dL_hands_719 (by decide) hf (fun hf => ?_) (fun hf => ?_)
  · refine r_iconst (v := 0) C0 dL_hands_726 (by decide) ?_
    refine r_sub (L' := [(0, .ref p0), (2, .int v2), (4, .int v4), (5, .int v5), (6, .int v6), (7, .int v7), (9, .int v9), (19, .int v19)]) [0, 1, 2, 3, 4, 5, 6, 7] rfl ?_
    exact g_L_hands_727 C0 F p0 p1 hk_p0 v2 v4 v5 v6 v7 v9 v19 (0 : Int32) M _ hf _ (by omega)
  · refine r_iconst (v := 1) C0 dL_hands_722 (by decide) ?_
    refine r_goto C0 727 dL_hands_723 (by decide) ?_
    refine r_sub (L' := [(0, .ref p0), (2, .int v2), (4, .int v4), (5, .int v5), (6, .int v6), (7, .int v7), (9, .int v9), (19, .int v19)]) [0, 1, 2, 3, 4, 5, 6, 7] rfl ?_
    exact g_L_hands_727 C0 F p0 p1 hk_p0 v2 v4 v5 v6 v7 v9 v19 (1 : Int32) M _ hf _ (by omega)
set_option maxHeartbeats 4000000 in
set_option maxRecDepth 100000 in
theorem g_L_hands_574 {Γ : zCx} {E : zEn} {S : zSk} {X : zMl} (C0 : zCt Γ E RL cL_hands 32 (Option.some Jvm.ClassFile.FieldType.boolean) [] { frames := 10, cells := 810, slots := 4860, locals := 209 }) (F : Nat) (p0 : Nat) (p1 : Int32) (hk_p0 : K_X10 S p0)  (v2 : Int32) (v4 : Int32) (v5 : Int32) (v6 : Int32) (v7 : Int32) (v9 : Int32) (v18 : Int32) (v19 : Int32) (s0 : Int32) (M : zMi) (r : Int32 × zMi) (hf : f_L_hands_574 F p0 p1 v2 v4 v5 v6 v7 v9 v18 v19 s0 M = some r) (kc : Nat) (hkc : kc + (137) ≤ 810) : zG Γ (zQX Γ E 810 4860 S (.inr (some (.int r.1)), r.2) X) E 32 kc (6 * kc) S ZT M X 574 [(0, .ref p0), (2, .int v2), (4, .int v4), (5, .int v5), (6, .int v6), (7, .int v7), (9, .int v9), (18, .int v18), (19, .int v19)] [.int s0] := by
  unfold f_L_hands_574 at hf
  refine r_istore (L' := [(11, .int s0), (0, .ref p0), (2, .int v2), (4, .int v4), (5, .int v5), (6, .int v6), (7, .int v7), (9, .int v9), (18, .int v18), (19, .int v19)]) C0 dL_hands_574 (by decide) rfl ?_
  refine r_aload_n C0 dL_hands_576 rfl 1 rfl ?_
  refine r_iload C0 dL_hands_577 5 rfl ?_
  refine r_iload C0 dL_hands_579 8 rfl ?_
  refine r_callWp C0 (st := []) (kc1 := kc + 2) [.ref p0, .int v6, .int v18] hf vs_173 (fun hl r1 hr1 => c_L_tryNeeds hl F p0 v6 v18 hk_p0 M r1 hr1) rfl rfl (Nat.le_of_ble_eq_true rfl) dL_hands_581 (zrm_k 810 rfl (by omega)) (by omega) (fun r1 hr1 hf => ?_)
  refine r_istore (L' := [(21, .int r1), (11, .int s0), (0, .ref p0), (2, .int v2), (4, .int v4), (5, .int v5), (6, .int v6), (7, .int v7), (9, .int v9), (18, .int v18), (19, .int v19)]) C0 dL_hands_584 (by decide) rfl ?_
  refine r_aload_n C0 dL_hands_586 rfl 2 rfl ?_
  refine r_iload C0 dL_hands_587 5 rfl ?_
  refine r_iload C0 dL_hands_589 6 rfl ?_
  refine r_callWp C0 (st := []) (kc1 := kc + 4) [.ref p0, .int v5, .int v6] hf vs_174 (fun hl r2 hr2 => c_L_tryReach hl F p0 v5 v6 hk_p0 M r2 hr2) rfl rfl (Nat.le_of_ble_eq_true rfl) dL_hands_591 (zrm_k 810 rfl (by omega)) (by omega) (fun r2 hr2 hf => ?_)
  refine r_istore (L' := [(22, .int r2), (21, .int r1), (11, .int s0), (0, .ref p0), (2, .int v2), (4, .int v4), (5, .int v5), (6, .int v6), (7, .int v7), (9, .int v9), (18, .int v18), (19, .int v19)]) C0 dL_hands_594 (by decide) rfl ?_
  refine r_aload_n C0 dL_hands_596 rfl 3 rfl ?_
  refine r_iload C0 dL_hands_597 6 rfl ?_
  refine r_iconst (v := 4) C0 dL_hands_599 (by decide) ?_
  refine r_callWp C0 (st := []) (kc1 := kc + 6) [.ref p0, .int v5, .int (4 : Int32)] hf vs_161 (fun hl r3 hr3 => c_L_tryShip hl F p0 v5 (4 : Int32) hk_p0 M r3 hr3) rfl rfl (Nat.le_of_ble_eq_true rfl) dL_hands_600 (zrm_k 810 rfl (by omega)) (by omega) (fun r3 hr3 hf => ?_)
  refine r_istore (L' := [(23, .int r3), (22, .int r2), (21, .int r1), (11, .int s0), (0, .ref p0), (2, .int v2), (4, .int v4), (5, .int v5), (6, .int v6), (7, .int v7), (9, .int v9), (18, .int v18), (19, .int v19)]) C0 dL_hands_603 (by decide) rfl ?_
  refine r_aload_n C0 dL_hands_605 rfl 4 rfl ?_
  refine r_iload C0 dL_hands_606 8 rfl ?_
  refine r_iconst (v := 0) C0 dL_hands_608 (by decide) ?_
  refine r_callWp C0 (st := []) (kc1 := kc + 8) [.ref p0, .int v6, .int (0 : Int32)] hf vs_164 (fun hl r4 hr4 => c_L_tryZone hl F p0 v6 (0 : Int32) hk_p0 M r4 hr4) rfl rfl (Nat.le_of_ble_eq_true rfl) dL_hands_609 (zrm_k 810 rfl (by omega)) (by omega) (fun r4 hr4 hf => ?_)
  refine r_istore (L' := [(24, .int r4), (23, .int r3), (22, .int r2), (21, .int r1), (11, .int s0), (0, .ref p0), (2, .int v2), (4, .int v4), (5, .int v5), (6, .int v6), (7, .int v7), (9, .int v9), (18, .int v18), (19, .int v19)]) C0 dL_hands_612 (by decide) rfl ?_
  refine r_iload C0 dL_hands_614 4 rfl ?_
  refine r_if_eq C0 726 dL_hands_616 (by decide) hf (fun hf => ?_) (fun hf => ?_)
  · refine r_iconst (v := 0) C0 dL_hands_726 (by decide) ?_
    refine r_sub (L' := [(0, .ref p0), (2, .int v2), (4, .int v4), (5, .int v5), (6, .int v6), (7, .int v7), (9, .int v9), (19, .int v19)]) [5, 6, 7, 8, 9, 10, 11, 13] rfl ?_
    exact g_L_hands_727 C0 F p0 p1 hk_p0 v2 v4 v5 v6 v7 v9 v19 (0 : Int32) M _ hf _ (by omega)
  · refine r_aload_n C0 dL_hands_619 rfl 5 rfl ?_
    refine r_iload C0 dL_hands_620 9 rfl ?_
    refine r_iconst (v := 0) C0 dL_hands_622 (by decide) ?_
    refine r_callWp C0 (st := []) (kc1 := kc + 10) [.ref p0, .int v6, .int (0 : Int32)] hf vs_173 (fun hl r5 hr5 => c_L_tryNeeds hl F p0 v6 (0 : Int32) hk_p0 M r5 hr5) rfl rfl (Nat.le_of_ble_eq_true rfl) dL_hands_623 (zrm_k 810 rfl (by omega)) (by omega) (fun r5 hr5 hf => ?_)
    refine r_if_ne C0 726 dL_hands_626 (by decide) hf (fun hf => ?_) (fun hf => ?_)
    · refine r_iconst (v := 0) C0 dL_hands_726 (by decide) ?_
      refine r_sub (L' := [(0, .ref p0), (2, .int v2), (4, .int v4), (5, .int v5), (6, .int v6), (7, .int v7), (9, .int v9), (19, .int v19)]) [5, 6, 7, 8, 9, 10, 11, 13] rfl ?_
      exact g_L_hands_727 C0 F p0 p1 hk_p0 v2 v4 v5 v6 v7 v9 v19 (0 : Int32) M _ hf _ (by omega)
    · refine r_iload C0 dL_hands_629 3 rfl ?_
      refine r_iload C0 dL_hands_631 12 rfl ?_
      refine r_icmp_lt C0 726 dL_hands_633 (by decide) hf (fun hf => ?_) (fun hf => ?_)
      · refine r_iconst (v := 0) C0 dL_hands_726 (by decide) ?_
        refine r_sub (L' := [(0, .ref p0), (2, .int v2), (4, .int v4), (5, .int v5), (6, .int v6), (7, .int v7), (9, .int v9), (19, .int v19)]) [5, 6, 7, 8, 9, 10, 11, 13] rfl ?_
        exact g_L_hands_727 C0 F p0 p1 hk_p0 v2 v4 v5 v6 v7 v9 v19 (0 : Int32) M _ hf _ (by omega)
      · refine r_bipush (v := 100) C0 dL_hands_636 (by decide) ?_
        refine r_iload C0 dL_hands_638 3 rfl ?_
        refine r_iload C0 dL_hands_640 12 rfl ?_
        refine r_isub C0 dL_hands_642 ?_
        refine r_imul C0 dL_hands_643 ?_
        refine r_iload C0 dL_hands_644 12 rfl ?_
        refine r_aload_n C0 dL_hands_646 rfl 5 rfl ?_
        refine r_iload C0 dL_hands_647 9 rfl ?_
        refine r_iconst (v := 3) C0 dL_hands_649 (by decide) ?_
        refine r_callWp C0 (st := [.int v18, .int ((100 : Int32) * (r1 - v18))]) (kc1 := kc + 12) [.ref p0, .int v6, .int (3 : Int32)] hf vs_164 (fun hl r6 hr6 => c_L_tryZone hl F p0 v6 (3 : Int32) hk_p0 M r6 hr6) rfl rfl (Nat.le_of_ble_eq_true rfl) dL_hands_650 (zrm_k 810 rfl (by omega)) (by omega) (fun r6 hr6 hf => ?_)
        refine r_imul C0 dL_hands_653 ?_
        refine r_icmp_lt C0 726 dL_hands_654 (by decide) hf (fun hf => ?_) (fun hf => ?_)
        · refine r_iconst (v := 0) C0 dL_hands_726 (by decide) ?_
          refine r_sub (L' := [(0, .ref p0), (2, .int v2), (4, .int v4), (5, .int v5), (6, .int v6), (7, .int v7), (9, .int v9), (19, .int v19)]) [5, 6, 7, 8, 9, 10, 11, 13] rfl ?_
          exact g_L_hands_727 C0 F p0 p1 hk_p0 v2 v4 v5 v6 v7 v9 v19 (0 : Int32) M _ hf _ (by omega)
        · refine r_bipush (v := 100) C0 dL_hands_657 (by decide) ?_
          refine r_iload C0 dL_hands_659 3 rfl ?_
          refine r_iload C0 dL_hands_661 12 rfl ?_
          refine r_isub C0 dL_hands_663 ?_
          refine r_iconst (v := 1) C0 dL_hands_664 (by decide) ?_
          refine r_isub C0 dL_hands_665 ?_
          refine r_imul C0 dL_hands_666 ?_
          refine r_iload C0 dL_hands_667 12 rfl ?_
          refine r_aload_n C0 dL_hands_669 rfl 5 rfl ?_
          refine r_iload C0 dL_hands_670 9 rfl ?_
          refine r_iconst (v := 3) C0 dL_hands_672 (by decide) ?_
          refine r_callWp C0 (st := [.int v18, .int ((100 : Int32) * ((r1 - v18) - (1 : Int32)))]) (kc1 := kc + 14) [.ref p0, .int v6, .int (3 : Int32)] hf vs_164 (fun hl r7 hr7 => c_L_tryZone hl F p0 v6 (3 : Int32) hk_p0 M r7 hr7) rfl rfl (Nat.le_of_ble_eq_true rfl) dL_hands_673 (zrm_k 810 rfl (by omega)) (by omega) (fun r7 hr7 hf => ?_)
          refine r_imul C0 dL_hands_676 ?_
          refine r_icmp_ge C0 726 dL_hands_677 (by decide) hf (fun hf => ?_) (fun hf => ?_)
          · refine r_iconst (v := 0) C0 dL_hands_726 (by decide) ?_
            refine r_sub (L' := [(0, .ref p0), (2, .int v2), (4, .int v4), (5, .int v5), (6, .int v6), (7, .int v7), (9, .int v9), (19, .int v19)]) [5, 6, 7, 8, 9, 10, 11, 13] rfl ?_
            exact g_L_hands_727 C0 F p0 p1 hk_p0 v2 v4 v5 v6 v7 v9 v19 (0 : Int32) M _ hf _ (by omega)
          · refine r_aload_n C0 dL_hands_680 rfl 5 rfl ?_
            refine r_iload C0 dL_hands_681 9 rfl ?_
            refine r_iload C0 dL_hands_683 2 rfl ?_
            refine r_callWp C0 (st := []) (kc1 := kc + 16) [.ref p0, .int v6, .int r2] hf vs_173 (fun hl r8 hr8 => c_L_tryNeeds hl F p0 v6 r2 hk_p0 M r8 hr8) rfl rfl (Nat.le_of_ble_eq_true rfl) dL_hands_685 (zrm_k 810 rfl (by omega)) (by omega) (fun r8 hr8 hf => ?_)
            refine r_iload C0 dL_hands_688 1 rfl ?_
            refine r_icmp_gt C0 726 dL_hands_690 (by decide) hf (fun hf => ?_) (fun hf => ?_)
            · refine r_iconst (v := 0) C0 dL_hands_726 (by decide) ?_
              refine r_sub (L' := [(0, .ref p0), (2, .int v2), (4, .int v4), (5, .int v5), (6, .int v6), (7, .int v7), (9, .int v9), (19, .int v19)]) [5, 6, 7, 8, 9, 10, 11, 13] rfl ?_
              exact g_L_hands_727 C0 F p0 p1 hk_p0 v2 v4 v5 v6 v7 v9 v19 (0 : Int32) M _ hf _ (by omega)
            · refine r_iload C0 dL_hands_693 2 rfl ?_
              refine r_iload C0 dL_hands_695 0 rfl ?_
              refine r_icmp_eq C0 715 dL_hands_697 (by decide) hf (fun hf => ?_) (fun hf => ?_)
              · refine r_sub (L' := [(0, .ref p0), (2, .int v2), (4, .int v4), (5, .int v5), (6, .int v6), (7, .int v7), (9, .int v9), (19, .int v19), (22, .int r2), (24, .int r4)]) [5, 6, 7, 8, 9, 10, 11, 13, 2, 0] rfl ?_
                exact g_L_hands_715 C0 F p0 p1 hk_p0 v2 v4 v5 v6 v7 v9 v19 r2 r4 M _ hf _ (by omega)
              · refine r_aload_n C0 dL_hands_700 rfl 5 rfl ?_
                refine r_iload C0 dL_hands_701 9 rfl ?_
                refine r_iload C0 dL_hands_703 2 rfl ?_
                refine r_iconst (v := 1) C0 dL_hands_705 (by decide) ?_
                refine r_iadd C0 dL_hands_706 ?_
                refine r_callWp C0 (st := []) (kc1 := kc + 18) [.ref p0, .int v6, .int (r2 + (1 : Int32))] hf vs_173 (fun hl r9 hr9 => c_L_tryNeeds hl F p0 v6 (r2 + (1 : Int32)) hk_p0 M r9 hr9) rfl rfl (Nat.le_of_ble_eq_true rfl) dL_hands_707 (zrm_k 810 rfl (by omega)) (by omega) (fun r9 hr9 hf => ?_)
                refine r_iload C0 dL_hands_710 1 rfl ?_
                refine r_icmp_le C0 726 dL_hands_712 (by decide) hf (fun hf => ?_) (fun hf => ?_)
                · refine r_iconst (v := 0) C0 dL_hands_726 (by decide) ?_
                  refine r_sub (L' := [(0, .ref p0), (2, .int v2), (4, .int v4), (5, .int v5), (6, .int v6), (7, .int v7), (9, .int v9), (19, .int v19)]) [5, 6, 7, 8, 9, 10, 11, 13] rfl ?_
                  exact g_L_hands_727 C0 F p0 p1 hk_p0 v2 v4 v5 v6 v7 v9 v19 (0 : Int32) M _ hf _ (by omega)
                · refine r_sub (L' := [(0, .ref p0), (2, .int v2), (4, .int v4), (5, .int v5), (6, .int v6), (7, .int v7), (9, .int v9), (19, .int v19), (22, .int r2), (24, .int r4)]) [5, 6, 7, 8, 9, 10, 11, 13, 2, 0] rfl ?_
                  exact g_L_hands_715 C0 F p0 p1 hk_p0 v2 v4 v5 v6 v7 v9 v19 r2 r4 M _ hf _ (by omega)
set_option maxHeartbeats 4000000 in
set_option maxRecDepth 100000 in
theorem g_L_hands_550 {Γ : zCx} {E : zEn} {S : zSk} {X : zMl} (C0 : zCt Γ E RL cL_hands 32 (Option.some Jvm.ClassFile.FieldType.boolean) [] { frames := 10, cells := 810, slots := 4860, locals := 209 }) (F : Nat) (p0 : Nat) (p1 : Int32) (hk_p0 : K_X10 S p0)  (v2 : Int32) (v4 : Int32) (v5 : Int32) (v6 : Int32) (v7 : Int32) (v9 : Int32) (v18 : Int32) (v19 : Int32) (s0 : Int32) (s1 : Int32) (M : zMi) (r : Int32 × zMi) (hf : f_L_hands_550 F p0 p1 v2 v4 v5 v6 v7 v9 v18 v19 s0 s1 M = some r) (kc : Nat) (hkc : kc + (348) ≤ 810) : zG Γ (zQX Γ E 810 4860 S (.inr (some (.int r.1)), r.2) X) E 32 kc (6 * kc) S ZT M X 550 [(0, .ref p0), (2, .int v2), (4, .int v4), (5, .int v5), (6, .int v6), (7, .int v7), (9, .int v9), (18, .int v18), (19, .int v19)] [.int s0, .int s1] := by
  unfold f_L_hands_550 at hf
  refine r_icmp_ne C0 573 dL_hands_550 (by decide) hf (fun hf => ?_) (fun hf => ?_)
  · refine r_iconst (v := 0) C0 dL_hands_573 (by decide) ?_
    refine r_sub (L' := [(0, .ref p0), (2, .int v2), (4, .int v4), (5, .int v5), (6, .int v6), (7, .int v7), (9, .int v9), (18, .int v18), (19, .int v19)]) [0, 1, 2, 3, 4, 5, 6, 7, 8] rfl ?_
    exact g_L_hands_574 C0 F p0 p1 hk_p0 v2 v4 v5 v6 v7 v9 v18 v19 (0 : Int32) M _ hf _ (by omega)
  · refine r_aload_n C0 dL_hands_553 rfl 0 rfl ?_
    refine r_callAp C0 (st := []) (kc1 := kc + 209) [.ref p0] hf vs_182 (fun hl r1 hr1 => c_L_sound hl F p0 hk_p0 M r1 hr1) rfl rfl (Nat.le_of_ble_eq_true rfl) dL_hands_554 (zrm_k 810 rfl (by omega)) (by omega) (fun r1 hr1 hf => ?_)
    refine r_if_eq C0 573 dL_hands_557 (by decide) hf (fun hf => ?_) (fun hf => ?_)
    · refine r_iconst (v := 0) C0 dL_hands_573 (by decide) ?_
      refine r_sub (L' := [(0, .ref p0), (2, .int v2), (4, .int v4), (5, .int v5), (6, .int v6), (7, .int v7), (9, .int v9), (18, .int v18), (19, .int v19)]) [0, 1, 2, 3, 4, 5, 6, 7, 8] rfl ?_
      exact g_L_hands_574 C0 F p0 p1 hk_p0 v2 v4 v5 v6 v7 v9 v18 v19 (0 : Int32) M _ hf _ (by omega)
    · refine r_aload_n C0 dL_hands_560 rfl 0 rfl ?_
      refine r_iconst (v := 0) C0 dL_hands_561 (by decide) ?_
      refine r_callWw C0 (st := []) (kc1 := kc + 211) [.ref p0, .int (0 : Int32)] hf vs_163 (fun hl r2 hr2 => c_L_tryRestore hl F p0 (0 : Int32) hk_p0 M r2 hr2) rfl rfl (Nat.le_of_ble_eq_true rfl) dL_hands_562 (zrm_k 810 rfl (by omega)) (by omega) (fun r2 hr2 hf => ?_)
      refine r_iload_n C0 dL_hands_565 rfl 1 rfl ?_
      refine r_icmp_ne C0 573 dL_hands_566 (by decide) hf (fun hf => ?_) (fun hf => ?_)
      · refine r_iconst (v := 0) C0 dL_hands_573 (by decide) ?_
        refine r_sub (L' := [(0, .ref p0), (2, .int v2), (4, .int v4), (5, .int v5), (6, .int v6), (7, .int v7), (9, .int v9), (18, .int v18), (19, .int v19)]) [0, 1, 2, 3, 4, 5, 6, 7, 8] rfl ?_
        exact g_L_hands_574 C0 F p0 p1 hk_p0 v2 v4 v5 v6 v7 v9 v18 v19 (0 : Int32) r2.2 _ hf _ (by omega)
      · refine r_iconst (v := 1) C0 dL_hands_569 (by decide) ?_
        refine r_goto C0 574 dL_hands_570 (by decide) ?_
        refine r_sub (L' := [(0, .ref p0), (2, .int v2), (4, .int v4), (5, .int v5), (6, .int v6), (7, .int v7), (9, .int v9), (18, .int v18), (19, .int v19)]) [0, 1, 2, 3, 4, 5, 6, 7, 8] rfl ?_
        exact g_L_hands_574 C0 F p0 p1 hk_p0 v2 v4 v5 v6 v7 v9 v18 v19 (1 : Int32) r2.2 _ hf _ (by omega)
set_option maxHeartbeats 4000000 in
set_option maxRecDepth 100000 in
theorem g_L_hands_518 {Γ : zCx} {E : zEn} {S : zSk} {X : zMl} (C0 : zCt Γ E RL cL_hands 32 (Option.some Jvm.ClassFile.FieldType.boolean) [] { frames := 10, cells := 810, slots := 4860, locals := 209 }) (F : Nat) (p0 : Nat) (p1 : Int32) (hk_p0 : K_X10 S p0)  (v2 : Int32) (v4 : Int32) (v5 : Int32) (v6 : Int32) (v7 : Int32) (v9 : Int32) (v10 : Int32) (v18 : Int32) (v19 : Int32) (s0 : Int32) (s1 : Int32) (s2 : Int32) (M : zMi) (r : Int32 × zMi) (hf : f_L_hands_518 F p0 p1 v2 v4 v5 v6 v7 v9 v10 v18 v19 s0 s1 s2 M = some r) (kc : Nat) (hkc : kc + (350) ≤ 810) : zG Γ (zQX Γ E 810 4860 S (.inr (some (.int r.1)), r.2) X) E 32 kc (6 * kc) S ZT M X 518 [(0, .ref p0), (2, .int v2), (4, .int v4), (5, .int v5), (6, .int v6), (7, .int v7), (9, .int v9), (10, .int v10), (18, .int v18), (19, .int v19)] [.int s0, .int s1, .int s2] := by
  unfold f_L_hands_518 at hf
  refine r_iadd C0 dL_hands_518 ?_
  refine r_icmp_ne C0 573 dL_hands_519 (by decide) hf (fun hf => ?_) (fun hf => ?_)
  · refine r_iconst (v := 0) C0 dL_hands_573 (by decide) ?_
    refine r_sub (L' := [(0, .ref p0), (2, .int v2), (4, .int v4), (5, .int v5), (6, .int v6), (7, .int v7), (9, .int v9), (18, .int v18), (19, .int v19)]) [0, 1, 2, 3, 4, 5, 6, 8, 9] rfl ?_
    exact g_L_hands_574 C0 F p0 p1 hk_p0 v2 v4 v5 v6 v7 v9 v18 v19 (0 : Int32) M _ hf _ (by omega)
  · refine r_aload_n C0 dL_hands_522 rfl 0 rfl ?_
    refine r_iload C0 dL_hands_523 8 rfl ?_
    refine r_callWw C0 (st := []) (kc1 := kc + 2) [.ref p0, .int v18] hf vs_170 (fun hl r1 hr1 => c_L_tryBuy hl F p0 v18 hk_p0 M r1 hr1) rfl rfl (Nat.le_of_ble_eq_true rfl) dL_hands_525 (zrm_k 810 rfl (by omega)) (by omega) (fun r1 hr1 hf => ?_)
    refine r_iload C0 dL_hands_528 7 rfl ?_
    refine r_iload C0 dL_hands_530 8 rfl ?_
    refine r_iadd C0 dL_hands_532 ?_
    refine r_sipush (v := 9999) C0 dL_hands_533 (by decide) ?_
    refine r_icmp_le C0 545 dL_hands_536 (by decide) hf (fun hf => ?_) (fun hf => ?_)
    · refine r_iload C0 dL_hands_545 7 rfl ?_
      refine r_iload C0 dL_hands_547 8 rfl ?_
      refine r_iadd C0 dL_hands_549 ?_
      refine r_sub (L' := [(0, .ref p0), (2, .int v2), (4, .int v4), (5, .int v5), (6, .int v6), (7, .int v7), (9, .int v9), (18, .int v18), (19, .int v19)]) [0, 1, 2, 3, 4, 5, 6, 8, 9] rfl ?_
      exact g_L_hands_550 C0 F p0 p1 hk_p0 v2 v4 v5 v6 v7 v9 v18 v19 (v10 + v18) r1.1 r1.2 _ hf _ (by omega)
    · refine r_sipush (v := -1003) C0 dL_hands_539 (by decide) ?_
      refine r_goto C0 550 dL_hands_542 (by decide) ?_
      refine r_sub (L' := [(0, .ref p0), (2, .int v2), (4, .int v4), (5, .int v5), (6, .int v6), (7, .int v7), (9, .int v9), (18, .int v18), (19, .int v19)]) [0, 1, 2, 3, 4, 5, 6, 8, 9] rfl ?_
      exact g_L_hands_550 C0 F p0 p1 hk_p0 v2 v4 v5 v6 v7 v9 v18 v19 (-1003 : Int32) r1.1 r1.2 _ hf _ (by omega)
set_option maxHeartbeats 4000000 in
set_option maxRecDepth 100000 in
theorem g_L_hands_487 {Γ : zCx} {E : zEn} {S : zSk} {X : zMl} (C0 : zCt Γ E RL cL_hands 32 (Option.some Jvm.ClassFile.FieldType.boolean) [] { frames := 10, cells := 810, slots := 4860, locals := 209 }) (F : Nat) (p0 : Nat) (p1 : Int32) (hk_p0 : K_X10 S p0)  (v2 : Int32) (v4 : Int32) (v5 : Int32) (v6 : Int32) (v7 : Int32) (v9 : Int32) (v10 : Int32) (v18 : Int32) (v19 : Int32) (v20 : Int32) (s0 : Int32) (s1 : Int32) (M : zMi) (r : Int32 × zMi) (hf : f_L_hands_487 F p0 p1 v2 v4 v5 v6 v7 v9 v10 v18 v19 v20 s0 s1 M = some r) (kc : Nat) (hkc : kc + (351) ≤ 810) : zG Γ (zQX Γ E 810 4860 S (.inr (some (.int r.1)), r.2) X) E 32 kc (6 * kc) S ZT M X 487 [(0, .ref p0), (2, .int v2), (4, .int v4), (5, .int v5), (6, .int v6), (7, .int v7), (9, .int v9), (10, .int v10), (18, .int v18), (19, .int v19), (20, .int v20)] [.int s0, .int s1] := by
  unfold f_L_hands_487 at hf
  refine r_icmp_ne C0 573 dL_hands_487 (by decide) hf (fun hf => ?_) (fun hf => ?_)
  · refine r_iconst (v := 0) C0 dL_hands_573 (by decide) ?_
    refine r_sub (L' := [(0, .ref p0), (2, .int v2), (4, .int v4), (5, .int v5), (6, .int v6), (7, .int v7), (9, .int v9), (18, .int v18), (19, .int v19)]) [0, 1, 2, 3, 4, 5, 6, 8, 9] rfl ?_
    exact g_L_hands_574 C0 F p0 p1 hk_p0 v2 v4 v5 v6 v7 v9 v18 v19 (0 : Int32) M _ hf _ (by omega)
  · refine r_aload_n C0 dL_hands_490 rfl 0 rfl ?_
    refine r_bipush (v := 6) C0 dL_hands_491 (by decide) ?_
    refine r_callWp C0 (st := []) (kc1 := kc + 1) [.ref p0, .int (6 : Int32)] hf vs_160 (fun hl r1 hr1 => c_L_tryAccount hl F p0 (6 : Int32) hk_p0 M r1 hr1) rfl rfl (Nat.le_of_ble_eq_true rfl) dL_hands_493 (zrm_k 810 rfl (by omega)) (by omega) (fun r1 hr1 hf => ?_)
    refine r_iload C0 dL_hands_496 10 rfl ?_
    refine r_iload C0 dL_hands_498 9 rfl ?_
    refine r_iload C0 dL_hands_500 8 rfl ?_
    refine r_iadd C0 dL_hands_502 ?_
    refine r_sipush (v := 999) C0 dL_hands_503 (by decide) ?_
    refine r_icmp_le C0 513 dL_hands_506 (by decide) hf (fun hf => ?_) (fun hf => ?_)
    · refine r_bipush (v := 50) C0 dL_hands_513 (by decide) ?_
      refine r_iload C0 dL_hands_515 8 rfl ?_
      refine r_imul C0 dL_hands_517 ?_
      refine r_sub (L' := [(0, .ref p0), (2, .int v2), (4, .int v4), (5, .int v5), (6, .int v6), (7, .int v7), (9, .int v9), (10, .int v10), (18, .int v18), (19, .int v19)]) [0, 1, 2, 3, 4, 5, 6, 7, 8, 9] rfl ?_
      exact g_L_hands_518 C0 F p0 p1 hk_p0 v2 v4 v5 v6 v7 v9 v10 v18 v19 ((50 : Int32) * v18) v20 r1 M _ hf _ (by omega)
    · refine r_iconst (v := 0) C0 dL_hands_509 (by decide) ?_
      refine r_goto C0 518 dL_hands_510 (by decide) ?_
      refine r_sub (L' := [(0, .ref p0), (2, .int v2), (4, .int v4), (5, .int v5), (6, .int v6), (7, .int v7), (9, .int v9), (10, .int v10), (18, .int v18), (19, .int v19)]) [0, 1, 2, 3, 4, 5, 6, 7, 8, 9] rfl ?_
      exact g_L_hands_518 C0 F p0 p1 hk_p0 v2 v4 v5 v6 v7 v9 v10 v18 v19 (0 : Int32) v20 r1 M _ hf _ (by omega)
