set_option maxHeartbeats 4000000 in
set_option maxRecDepth 100000 in
theorem g_L_sound_114 {Γ : zCx} {E : zEn} {S : zSk} {X : zMl} {M : zMi} (C0 : zCt Γ E RL cL_sound 8 (Option.some Jvm.ClassFile.FieldType.boolean) [] { frames := 9, cells := 209, slots := 1254, locals := 158 }) (F : Nat) (p0 : Nat) (k_12 : Int32 → Int32 → Int32 → Int32 → Int32 → zMi → Option (Int32)) (TK_12 : Nat) (hk_p0 : K_X10 S p0) (hk_k_12 : ∀ (v1_ : Int32) (v2_ : Int32) (v3_ : Int32) (v4_ : Int32) (v5_ : Int32) (r : Int32) , k_12 v1_ v2_ v3_ v4_ v5_ M = some r → ∀ kc : Nat, kc + TK_12 ≤ 209 → zG Γ (zQX Γ E 209 1254 S (.inr (some (.int r)), M) X) E 8 kc (6 * kc) S ZT M X 12 [(0, .ref p0), (1, .int v1_), (2, .int v2_), (3, .int v3_), (4, .int v4_), (5, .int v5_)] [])  (v1 : Int32) (v2 : Int32) (v3 : Int32) (v5 : Int32) (v6 : Int32) (s0 : Int32) (r : Int32) (hf : f_L_sound_114 F p0 k_12 v1 v2 v3 v5 v6 s0 M = some r) (kc : Nat) (hkc : kc + (1 + TK_12) ≤ 209) : zG Γ (zQX Γ E 209 1254 S (.inr (some (.int r)), M) X) E 8 kc (6 * kc) S ZT M X 114 [(0, .ref p0), (1, .int v1), (2, .int v2), (3, .int v3), (5, .int v5), (6, .int v6)] [.int s0] := by
  unfold f_L_sound_114 at hf
  refine r_iload C0 dL_sound_114 5 rfl ?_
  refine r_iconst (v := 1) C0 dL_sound_116 (by decide) ?_
  refine r_icmp_eq C0 126 dL_sound_117 (by decide) hf (fun hf => ?_) (fun hf => ?_)
  · refine r_iconst (v := 1) C0 dL_sound_126 (by decide) ?_
    refine r_goto C0 131 dL_sound_127 (by decide) ?_
    refine r_sub (L' := [(0, .ref p0), (1, .int v1), (2, .int v2), (3, .int v3), (5, .int v5), (6, .int v6)]) [0, 1, 2, 3, 4, 5] rfl ?_
    exact g_L_sound_131 C0 F p0 k_12 TK_12 hk_p0 hk_k_12 v1 v2 v3 v5 v6 (1 : Int32) s0 _ hf _ (by omega)
  · refine r_iload C0 dL_sound_120 5 rfl ?_
    refine r_iconst (v := 4) C0 dL_sound_122 (by decide) ?_
    refine r_icmp_ne C0 130 dL_sound_123 (by decide) hf (fun hf => ?_) (fun hf => ?_)
    · refine r_iconst (v := 0) C0 dL_sound_130 (by decide) ?_
      refine r_sub (L' := [(0, .ref p0), (1, .int v1), (2, .int v2), (3, .int v3), (5, .int v5), (6, .int v6)]) [0, 1, 2, 3, 4, 5] rfl ?_
      exact g_L_sound_131 C0 F p0 k_12 TK_12 hk_p0 hk_k_12 v1 v2 v3 v5 v6 (0 : Int32) s0 _ hf _ (by omega)
    · refine r_iconst (v := 1) C0 dL_sound_126 (by decide) ?_
      refine r_goto C0 131 dL_sound_127 (by decide) ?_
      refine r_sub (L' := [(0, .ref p0), (1, .int v1), (2, .int v2), (3, .int v3), (5, .int v5), (6, .int v6)]) [0, 1, 2, 3, 4, 5] rfl ?_
      exact g_L_sound_131 C0 F p0 k_12 TK_12 hk_p0 hk_k_12 v1 v2 v3 v5 v6 (1 : Int32) s0 _ hf _ (by omega)
set_option maxHeartbeats 4000000 in
set_option maxRecDepth 100000 in
theorem g_L_sound_69 {Γ : zCx} {E : zEn} {S : zSk} {X : zMl} {M : zMi} (C0 : zCt Γ E RL cL_sound 8 (Option.some Jvm.ClassFile.FieldType.boolean) [] { frames := 9, cells := 209, slots := 1254, locals := 158 }) (F : Nat) (p0 : Nat) (k_12 : Int32 → Int32 → Int32 → Int32 → Int32 → zMi → Option (Int32)) (TK_12 : Nat) (hk_p0 : K_X10 S p0) (hk_k_12 : ∀ (v1_ : Int32) (v2_ : Int32) (v3_ : Int32) (v4_ : Int32) (v5_ : Int32) (r : Int32) , k_12 v1_ v2_ v3_ v4_ v5_ M = some r → ∀ kc : Nat, kc + TK_12 ≤ 209 → zG Γ (zQX Γ E 209 1254 S (.inr (some (.int r)), M) X) E 8 kc (6 * kc) S ZT M X 12 [(0, .ref p0), (1, .int v1_), (2, .int v2_), (3, .int v3_), (4, .int v4_), (5, .int v5_)] [])  (v1 : Int32) (v2 : Int32) (v5 : Int32) (v6 : Int32) (s0 : Int32) (s1 : Int32) (r : Int32) (hf : f_L_sound_69 F p0 k_12 v1 v2 v5 v6 s0 s1 M = some r) (kc : Nat) (hkc : kc + (9 + TK_12) ≤ 209) : zG Γ (zQX Γ E 209 1254 S (.inr (some (.int r)), M) X) E 8 kc (6 * kc) S ZT M X 69 [(0, .ref p0), (1, .int v1), (2, .int v2), (5, .int v5), (6, .int v6)] [.int s0, .int s1] := by
  unfold f_L_sound_69 at hf
  refine r_iadd C0 dL_sound_69 ?_
  refine r_nm hf (fun x1 hf => ?_)
  refine r_istore_n (L' := [(3, .int x1), (0, .ref p0), (1, .int v1), (2, .int v2), (5, .int v5), (6, .int v6)]) C0 dL_sound_70 rfl (by decide) rfl ?_
  refine r_aload_n C0 dL_sound_71 rfl 1 rfl ?_
  refine r_iload C0 dL_sound_72 4 rfl ?_
  refine r_iconst (v := 4) C0 dL_sound_74 (by decide) ?_
  refine r_callWp C0 (st := []) (kc1 := kc + 2) [.ref p0, .int v5, .int (4 : Int32)] hf vs_161 (fun hl r2 hr2 => c_L_tryShip hl F p0 v5 (4 : Int32) hk_p0 M r2 hr2) rfl rfl (Nat.le_of_ble_eq_true rfl) dL_sound_75 (zrm_k 209 rfl (by omega)) (by omega) (fun r2 hr2 hf => ?_)
  refine r_if_lt C0 155 dL_sound_78 (by decide) hf (fun hf => ?_) (fun hf => ?_)
  · refine r_iconst (v := 0) C0 dL_sound_155 (by decide) ?_
    refine r_istore (L' := [(4, .int (0 : Int32)), (3, .int x1), (0, .ref p0), (1, .int v1), (2, .int v2), (5, .int v5), (6, .int v6)]) C0 dL_sound_156 (by decide) rfl ?_
    refine r_iinc (j := 5) (v := (v5 + (1 : Int32))) (L' := [(5, .int (v5 + (1 : Int32))), (4, .int (0 : Int32)), (3, .int x1), (0, .ref p0), (1, .int v1), (2, .int v2), (6, .int v6)]) C0 dL_sound_158 rfl rfl (by decide) rfl ?_
    refine r_goto C0 12 dL_sound_161 (by decide) ?_
    refine r_sub (L' := [(0, .ref p0), (1, .int v1), (2, .int v2), (3, .int x1), (4, .int (0 : Int32)), (5, .int (v5 + (1 : Int32)))]) [3, 4, 5, 2, 1, 0] rfl ?_
    exact hk_k_12 v1 v2 x1 (0 : Int32) (v5 + (1 : Int32)) _ hf _ (by omega)
  · refine r_aload_n C0 dL_sound_81 rfl 1 rfl ?_
    refine r_iload C0 dL_sound_82 4 rfl ?_
    refine r_iconst (v := 4) C0 dL_sound_84 (by decide) ?_
    refine r_callWp C0 (st := []) (kc1 := kc + 4) [.ref p0, .int v5, .int (4 : Int32)] hf vs_161 (fun hl r3 hr3 => c_L_tryShip hl F p0 v5 (4 : Int32) hk_p0 M r3 hr3) rfl rfl (Nat.le_of_ble_eq_true rfl) dL_sound_85 (zrm_k 209 rfl (by omega)) (by omega) (fun r3 hr3 hf => ?_)
    refine r_aload_n C0 dL_sound_88 rfl 1 rfl ?_
    refine r_iload C0 dL_sound_89 4 rfl ?_
    refine r_iconst (v := 0) C0 dL_sound_91 (by decide) ?_
    refine r_callWp C0 (st := [.int r3]) (kc1 := kc + 6) [.ref p0, .int v5, .int (0 : Int32)] hf vs_161 (fun hl r4 hr4 => c_L_tryShip hl F p0 v5 (0 : Int32) hk_p0 M r4 hr4) rfl rfl (Nat.le_of_ble_eq_true rfl) dL_sound_92 (zrm_k 209 rfl (by omega)) (by omega) (fun r4 hr4 hf => ?_)
    refine r_icmp_gt C0 155 dL_sound_95 (by decide) hf (fun hf => ?_) (fun hf => ?_)
    · refine r_iconst (v := 0) C0 dL_sound_155 (by decide) ?_
      refine r_istore (L' := [(4, .int (0 : Int32)), (3, .int x1), (0, .ref p0), (1, .int v1), (2, .int v2), (5, .int v5), (6, .int v6)]) C0 dL_sound_156 (by decide) rfl ?_
      refine r_iinc (j := 5) (v := (v5 + (1 : Int32))) (L' := [(5, .int (v5 + (1 : Int32))), (4, .int (0 : Int32)), (3, .int x1), (0, .ref p0), (1, .int v1), (2, .int v2), (6, .int v6)]) C0 dL_sound_158 rfl rfl (by decide) rfl ?_
      refine r_goto C0 12 dL_sound_161 (by decide) ?_
      refine r_sub (L' := [(0, .ref p0), (1, .int v1), (2, .int v2), (3, .int x1), (4, .int (0 : Int32)), (5, .int (v5 + (1 : Int32)))]) [3, 4, 5, 2, 1, 0] rfl ?_
      exact hk_k_12 v1 v2 x1 (0 : Int32) (v5 + (1 : Int32)) _ hf _ (by omega)
    · refine r_aload_n C0 dL_sound_98 rfl 1 rfl ?_
      refine r_iload C0 dL_sound_99 4 rfl ?_
      refine r_bipush (v := 6) C0 dL_sound_101 (by decide) ?_
      refine r_callWp C0 (st := []) (kc1 := kc + 8) [.ref p0, .int v5, .int (6 : Int32)] hf vs_161 (fun hl r5 hr5 => c_L_tryShip hl F p0 v5 (6 : Int32) hk_p0 M r5 hr5) rfl rfl (Nat.le_of_ble_eq_true rfl) dL_sound_103 (zrm_k 209 rfl (by omega)) (by omega) (fun r5 hr5 hf => ?_)
      refine r_if_le C0 113 dL_sound_106 (by decide) hf (fun hf => ?_) (fun hf => ?_)
      · refine r_iconst (v := 0) C0 dL_sound_113 (by decide) ?_
        refine r_sub (L' := [(0, .ref p0), (1, .int v1), (2, .int v2), (3, .int x1), (5, .int v5), (6, .int v6)]) [1, 2, 3, 0, 4, 5] rfl ?_
        exact g_L_sound_114 C0 F p0 k_12 TK_12 hk_p0 hk_k_12 v1 v2 x1 v5 v6 (0 : Int32) _ hf _ (by omega)
      · refine r_iconst (v := 1) C0 dL_sound_109 (by decide) ?_
        refine r_goto C0 114 dL_sound_110 (by decide) ?_
        refine r_sub (L' := [(0, .ref p0), (1, .int v1), (2, .int v2), (3, .int x1), (5, .int v5), (6, .int v6)]) [1, 2, 3, 0, 4, 5] rfl ?_
        exact g_L_sound_114 C0 F p0 k_12 TK_12 hk_p0 hk_k_12 v1 v2 x1 v5 v6 (1 : Int32) _ hf _ (by omega)
set_option maxHeartbeats 4000000 in
set_option maxRecDepth 100000 in
theorem g_L_sound_12 {Γ : zCx} {E : zEn} {S : zSk} {X : zMl} {M : zMi} (C0 : zCt Γ E RL cL_sound 8 (Option.some Jvm.ClassFile.FieldType.boolean) [] { frames := 9, cells := 209, slots := 1254, locals := 158 }) (F : Nat) (p0 : Nat) (hk_p0 : K_X10 S p0)  : ∀ (n : Nat) (v1 : Int32) (v2 : Int32) (v3 : Int32) (v4 : Int32) (v5 : Int32) (r : Int32), f_L_sound_12 F p0 n v1 v2 v3 v4 v5 M = some r → ∀ kc : Nat, kc + (n * 16 + 113) ≤ 209 → zG Γ (zQX Γ E 209 1254 S (.inr (some (.int r)), M) X) E 8 kc (6 * kc) S ZT M X 12 [(0, .ref p0), (1, .int v1), (2, .int v2), (3, .int v3), (4, .int v4), (5, .int v5)] [] := by
  intro n
  induction n with
  | zero => intro v1 v2 v3 v4 v5 r hf; cases hf
  | succ n ih =>
    intro v1 v2 v3 v4 v5 r hf kc hkc
    refine r_iload C0 dL_sound_12 5 rfl ?_
    refine r_aload_n C0 dL_sound_14 rfl 0 rfl ?_
    refine r_iconst (v := 1) C0 dL_sound_15 (by decide) ?_
    refine r_callWp C0 (st := [.int v5]) (kc1 := kc + 1) [.ref p0, .int (1 : Int32)] hf vs_159 (fun hl r1 hr1 => c_L_tryAbout hl F p0 (1 : Int32) hk_p0 M r1 hr1) rfl rfl (Nat.le_of_ble_eq_true rfl) dL_sound_16 (zrm_k 209 rfl (by omega)) (by omega) (fun r1 hr1 hf => ?_)
    refine r_icmp_ge C0 164 dL_sound_19 (by decide) hf (fun hf => ?_) (fun hf => ?_)
    · refine r_sub (L' := [(0, .ref p0), (1, .int v1), (2, .int v2), (3, .int v3), (4, .int v4)]) [0, 1, 2, 3, 4] rfl ?_
      exact g_L_sound_164 C0 F p0 hk_p0 v1 v2 v3 v4 _ hf _ (by omega)
    · refine r_iload C0 dL_sound_22 4 rfl ?_
      refine r_if_eq C0 164 dL_sound_24 (by decide) hf (fun hf => ?_) (fun hf => ?_)
      · refine r_sub (L' := [(0, .ref p0), (1, .int v1), (2, .int v2), (3, .int v3), (4, .int v4)]) [0, 1, 2, 3, 4] rfl ?_
        exact g_L_sound_164 C0 F p0 hk_p0 v1 v2 v3 v4 _ hf _ (by omega)
      · refine r_aload_n C0 dL_sound_27 rfl 0 rfl ?_
        refine r_iload C0 dL_sound_28 5 rfl ?_
        refine r_iconst (v := 5) C0 dL_sound_30 (by decide) ?_
        refine r_callWp C0 (st := []) (kc1 := kc + 3) [.ref p0, .int v5, .int (5 : Int32)] hf vs_161 (fun hl r2 hr2 => c_L_tryShip hl F p0 v5 (5 : Int32) hk_p0 M r2 hr2) rfl rfl (Nat.le_of_ble_eq_true rfl) dL_sound_31 (zrm_k 209 rfl (by omega)) (by omega) (fun r2 hr2 hf => ?_)
        refine r_istore (L' := [(6, .int r2), (0, .ref p0), (1, .int v1), (2, .int v2), (3, .int v3), (4, .int v4), (5, .int v5)]) C0 dL_sound_34 (by decide) rfl ?_
        refine r_iload_n C0 dL_sound_36 rfl 2 rfl ?_
        refine r_aload_n C0 dL_sound_37 rfl 1 rfl ?_
        refine r_iload C0 dL_sound_38 6 rfl ?_
        refine r_iconst (v := 4) C0 dL_sound_40 (by decide) ?_
        refine r_callWp C0 (st := [.int v1]) (kc1 := kc + 5) [.ref p0, .int v5, .int (4 : Int32)] hf vs_161 (fun hl r3 hr3 => c_L_tryShip hl F p0 v5 (4 : Int32) hk_p0 M r3 hr3) rfl rfl (Nat.le_of_ble_eq_true rfl) dL_sound_41 (zrm_k 209 rfl (by omega)) (by omega) (fun r3 hr3 hf => ?_)
        refine r_iadd C0 dL_sound_44 ?_
        refine r_nm hf (fun x4 hf => ?_)
        refine r_istore_n (L' := [(1, .int x4), (6, .int r2), (0, .ref p0), (2, .int v2), (3, .int v3), (4, .int v4), (5, .int v5)]) C0 dL_sound_45 rfl (by decide) rfl ?_
        refine r_iload_n C0 dL_sound_46 rfl 3 rfl ?_
        refine r_aload_n C0 dL_sound_47 rfl 2 rfl ?_
        refine r_iload C0 dL_sound_48 6 rfl ?_
        refine r_bipush (v := 7) C0 dL_sound_50 (by decide) ?_
        refine r_callWp C0 (st := [.int v2]) (kc1 := kc + 7) [.ref p0, .int v5, .int (7 : Int32)] hf vs_161 (fun hl r5 hr5 => c_L_tryShip hl F p0 v5 (7 : Int32) hk_p0 M r5 hr5) rfl rfl (Nat.le_of_ble_eq_true rfl) dL_sound_52 (zrm_k 209 rfl (by omega)) (by omega) (fun r5 hr5 hf => ?_)
        refine r_iadd C0 dL_sound_55 ?_
        refine r_nm hf (fun x6 hf => ?_)
        refine r_istore_n (L' := [(2, .int x6), (1, .int x4), (6, .int r2), (0, .ref p0), (3, .int v3), (4, .int v4), (5, .int v5)]) C0 dL_sound_56 rfl (by decide) rfl ?_
        refine r_iload_n C0 dL_sound_57 rfl 4 rfl ?_
        refine r_iload C0 dL_sound_58 2 rfl ?_
        refine r_iconst (v := 3) C0 dL_sound_60 (by decide) ?_
        refine r_icmp_ne C0 68 dL_sound_61 (by decide) hf (fun hf => ?_) (fun hf => ?_)
        · refine r_iconst (v := 0) C0 dL_sound_68 (by decide) ?_
          refine r_sub (L' := [(0, .ref p0), (1, .int x4), (2, .int x6), (5, .int v5), (6, .int r2)]) [3, 1, 0, 6, 2] rfl ?_
          exact g_L_sound_69 C0 F p0 (f_L_sound_12 F p0 n) (n * 16 + 113) hk_p0 ih x4 x6 v5 r2 (0 : Int32) v3 _ hf _ (by omega)
        · refine r_iconst (v := 1) C0 dL_sound_64 (by decide) ?_
          refine r_goto C0 69 dL_sound_65 (by decide) ?_
          refine r_sub (L' := [(0, .ref p0), (1, .int x4), (2, .int x6), (5, .int v5), (6, .int r2)]) [3, 1, 0, 6, 2] rfl ?_
          exact g_L_sound_69 C0 F p0 (f_L_sound_12 F p0 n) (n * 16 + 113) hk_p0 ih x4 x6 v5 r2 (1 : Int32) v3 _ hf _ (by omega)
set_option maxHeartbeats 4000000 in
set_option maxRecDepth 100000 in
theorem c_L_sound {l : Launch} {E : zEn} {S : zSk} {X : zMl} (hl : l.stackTraces = false) (F : Nat) (p0 : Nat) (hk_p0 : K_X10 S p0) (M : zMi) (r : Int32) (hf : f_L_sound F p0 M = some r) : zMX l E yL_sound cL_sound 8 (Option.some Jvm.ClassFile.FieldType.boolean) { frames := 9, cells := 209, slots := 1254, locals := 158 } 209 1254 [.ref p0] S M X (.inr (some (.int r)), M) := by
  refine zMX.intro (L0 := [(0, .ref p0)]) hl (by decide) (Nat.le_of_ble_eq_true rfl) rfl (fun Γ C0 => ?_)
  unfold f_L_sound at hf
  refine r_iconst (v := 0) C0 dL_sound_0 (by decide) ?_
  refine r_istore_n (L' := [(1, .int (0 : Int32)), (0, .ref p0)]) C0 dL_sound_1 rfl (by decide) rfl ?_
  refine r_iconst (v := 0) C0 dL_sound_2 (by decide) ?_
  refine r_istore_n (L' := [(2, .int (0 : Int32)), (1, .int (0 : Int32)), (0, .ref p0)]) C0 dL_sound_3 rfl (by decide) rfl ?_
  refine r_iconst (v := 0) C0 dL_sound_4 (by decide) ?_
  refine r_istore_n (L' := [(3, .int (0 : Int32)), (2, .int (0 : Int32)), (1, .int (0 : Int32)), (0, .ref p0)]) C0 dL_sound_5 rfl (by decide) rfl ?_
  refine r_iconst (v := 1) C0 dL_sound_6 (by decide) ?_
  refine r_istore (L' := [(4, .int (1 : Int32)), (3, .int (0 : Int32)), (2, .int (0 : Int32)), (1, .int (0 : Int32)), (0, .ref p0)]) C0 dL_sound_7 (by decide) rfl ?_
  refine r_iconst (v := 0) C0 dL_sound_9 (by decide) ?_
  refine r_istore (L' := [(5, .int (0 : Int32)), (4, .int (1 : Int32)), (3, .int (0 : Int32)), (2, .int (0 : Int32)), (1, .int (0 : Int32)), (0, .ref p0)]) C0 dL_sound_10 (by decide) rfl ?_
  refine r_sub (L' := [(0, .ref p0), (1, .int (0 : Int32)), (2, .int (0 : Int32)), (3, .int (0 : Int32)), (4, .int (1 : Int32)), (5, .int (0 : Int32))]) [5, 4, 3, 2, 1, 0] rfl ?_
  exact g_L_sound_12 C0 F p0 hk_p0 6 (0 : Int32) (0 : Int32) (0 : Int32) (1 : Int32) (0 : Int32) _ hf _ (Nat.le_of_ble_eq_true rfl)
set_option maxHeartbeats 4000000 in
set_option maxRecDepth 100000 in
theorem g_L_days_904 {Γ : zCx} {E : zEn} {S : zSk} {X : zMl} (C0 : zCt Γ E RL cL_days 28 (Option.some Jvm.ClassFile.FieldType.boolean) [] { frames := 10, cells := 7635, slots := 45810, locals := 185 }) (F : Nat) (p0 : Nat) (p1 : Int32) (hk_p0 : K_X10 S p0)  (v3 : Int32) (v4 : Int32) (v5 : Int32) (v6 : Int32) (v7 : Int32) (v8 : Int32) (M : zMi) (r : Int32 × zMi) (hf : f_L_days_904 F p0 p1 v3 v4 v5 v6 v7 v8 M = some r) (kc : Nat) (hkc : kc + (4) ≤ 7635) : zG Γ (zQX Γ E 7635 45810 S (.inr (some (.int r.1)), r.2) X) E 28 kc (6 * kc) S ZT M X 904 [(0, .ref p0), (3, .int v3), (4, .int v4), (5, .int v5), (6, .int v6), (7, .int v7), (8, .int v8)] [] := by
  unfold f_L_days_904 at hf
  refine r_iload C0 dL_days_904 6 rfl ?_
  refine r_if_eq C0 959 dL_days_906 (by decide) hf (fun hf => ?_) (fun hf => ?_)
  · refine r_iconst (v := 0) C0 dL_days_959 (by decide) ?_
    obtain rfl := Option.some.inj hf
    refine r_widen (k1 := 7635) (s1 := 45810) (by omega) (by omega) ?_
    exact rX_zret C0 rfl rfl dL_days_960
  · refine r_aload_n C0 dL_days_909 rfl 0 rfl ?_
    refine r_iconst (v := 4) C0 dL_days_910 (by decide) ?_
    refine r_callWp C0 (st := []) (kc1 := kc + 1) [.ref p0, .int (4 : Int32)] hf vs_160 (fun hl r1 hr1 => c_L_tryAccount hl F p0 (4 : Int32) hk_p0 M r1 hr1) rfl rfl (Nat.le_of_ble_eq_true rfl) dL_days_911 (zrm_k 7635 rfl (by omega)) (by omega) (fun r1 hr1 hf => ?_)
    refine r_iload C0 dL_days_914 3 rfl ?_
    refine r_icmp_ne C0 959 dL_days_916 (by decide) hf (fun hf => ?_) (fun hf => ?_)
    · refine r_iconst (v := 0) C0 dL_days_959 (by decide) ?_
      obtain rfl := Option.some.inj hf
      refine r_widen (k1 := 7635) (s1 := 45810) (by omega) (by omega) ?_
      exact rX_zret C0 rfl rfl dL_days_960
    · refine r_aload_n C0 dL_days_919 rfl 0 rfl ?_
      refine r_iconst (v := 5) C0 dL_days_920 (by decide) ?_
      refine r_callWp C0 (st := []) (kc1 := kc + 2) [.ref p0, .int (5 : Int32)] hf vs_160 (fun hl r2 hr2 => c_L_tryAccount hl F p0 (5 : Int32) hk_p0 M r2 hr2) rfl rfl (Nat.le_of_ble_eq_true rfl) dL_days_921 (zrm_k 7635 rfl (by omega)) (by omega) (fun r2 hr2 hf => ?_)
      refine r_iload C0 dL_days_924 4 rfl ?_
      refine r_icmp_ne C0 959 dL_days_926 (by decide) hf (fun hf => ?_) (fun hf => ?_)
      · refine r_iconst (v := 0) C0 dL_days_959 (by decide) ?_
        obtain rfl := Option.some.inj hf
        refine r_widen (k1 := 7635) (s1 := 45810) (by omega) (by omega) ?_
        exact rX_zret C0 rfl rfl dL_days_960
      · refine r_aload_n C0 dL_days_929 rfl 0 rfl ?_
        refine r_bipush (v := 6) C0 dL_days_930 (by decide) ?_
        refine r_callWp C0 (st := []) (kc1 := kc + 3) [.ref p0, .int (6 : Int32)] hf vs_159 (fun hl r3 hr3 => c_L_tryAbout hl F p0 (6 : Int32) hk_p0 M r3 hr3) rfl rfl (Nat.le_of_ble_eq_true rfl) dL_days_932 (zrm_k 7635 rfl (by omega)) (by omega) (fun r3 hr3 hf => ?_)
        refine r_iload C0 dL_days_935 2 rfl ?_
        refine r_icmp_ne C0 959 dL_days_937 (by decide) hf (fun hf => ?_) (fun hf => ?_)
        · refine r_iconst (v := 0) C0 dL_days_959 (by decide) ?_
          obtain rfl := Option.some.inj hf
          refine r_widen (k1 := 7635) (s1 := 45810) (by omega) (by omega) ?_
          exact rX_zret C0 rfl rfl dL_days_960
        · refine r_aload_n C0 dL_days_940 rfl 0 rfl ?_
          refine r_bipush (v := 9) C0 dL_days_941 (by decide) ?_
          refine r_callWp C0 (st := []) (kc1 := kc + 4) [.ref p0, .int (9 : Int32)] hf vs_159 (fun hl r4 hr4 => c_L_tryAbout hl F p0 (9 : Int32) hk_p0 M r4 hr4) rfl rfl (Nat.le_of_ble_eq_true rfl) dL_days_943 (zrm_k 7635 rfl (by omega)) (by omega) (fun r4 hr4 hf => ?_)
          refine r_iload C0 dL_days_946 5 rfl ?_
          refine r_icmp_ne C0 959 dL_days_948 (by decide) hf (fun hf => ?_) (fun hf => ?_)
          · refine r_iconst (v := 0) C0 dL_days_959 (by decide) ?_
            obtain rfl := Option.some.inj hf
            refine r_widen (k1 := 7635) (s1 := 45810) (by omega) (by omega) ?_
            exact rX_zret C0 rfl rfl dL_days_960
          · refine r_iload_n C0 dL_days_951 rfl 1 rfl ?_
            refine r_if_lt C0 959 dL_days_952 (by decide) hf (fun hf => ?_) (fun hf => ?_)
            · refine r_iconst (v := 0) C0 dL_days_959 (by decide) ?_
              obtain rfl := Option.some.inj hf
              refine r_widen (k1 := 7635) (s1 := 45810) (by omega) (by omega) ?_
              exact rX_zret C0 rfl rfl dL_days_960
            · refine r_iconst (v := 1) C0 dL_days_955 (by decide) ?_
              refine r_goto C0 960 dL_days_956 (by decide) ?_
              obtain rfl := Option.some.inj hf
              refine r_widen (k1 := 7635) (s1 := 45810) (by omega) (by omega) ?_
              exact rX_zret C0 rfl rfl dL_days_960
set_option maxHeartbeats 4000000 in
set_option maxRecDepth 100000 in
theorem g_L_days_828 {Γ : zCx} {E : zEn} {S : zSk} {X : zMl} (C0 : zCt Γ E RL cL_days 28 (Option.some Jvm.ClassFile.FieldType.boolean) [] { frames := 10, cells := 7635, slots := 45810, locals := 185 }) (F : Nat) (p0 : Nat) (p1 : Int32) (k_92 : Int32 → Int32 → Int32 → Int32 → Int32 → Int32 → Int32 → Int32 → zMi → Option (Int32 × zMi)) (TK_92 : Nat) (hk_p0 : K_X10 S p0) (hk_k_92 : ∀ (v2_ : Int32) (v3_ : Int32) (v4_ : Int32) (v5_ : Int32) (v6_ : Int32) (v7_ : Int32) (v8_ : Int32) (v9_ : Int32) (M : zMi) (r : Int32 × zMi) , k_92 v2_ v3_ v4_ v5_ v6_ v7_ v8_ v9_ M = some r → ∀ kc : Nat, kc + TK_92 ≤ 7635 → zG Γ (zQX Γ E 7635 45810 S (.inr (some (.int r.1)), r.2) X) E 28 kc (6 * kc) S ZT M X 92 [(0, .ref p0), (2, .int v2_), (3, .int v3_), (4, .int v4_), (5, .int v5_), (6, .int v6_), (7, .int v7_), (8, .int v8_), (9, .int v9_)] [])  (v2 : Int32) (v3 : Int32) (v4 : Int32) (v5 : Int32) (v6 : Int32) (v7 : Int32) (v9 : Int32) (v11 : Int32) (v13 : Int32) (v14 : Int32) (v23 : Int32) (v24 : Int32) (v27 : Int32) (s0 : Int32) (s1 : Int32) (M : zMi) (r : Int32 × zMi) (hf : f_L_days_828 F p0 p1 k_92 v2 v3 v4 v5 v6 v7 v9 v11 v13 v14 v23 v24 v27 s0 s1 M = some r) (kc : Nat) (hkc : kc + (8 + TK_92) ≤ 7635) : zG Γ (zQX Γ E 7635 45810 S (.inr (some (.int r.1)), r.2) X) E 28 kc (6 * kc) S ZT M X 828 [(0, .ref p0), (2, .int v2), (3, .int v3), (4, .int v4), (5, .int v5), (6, .int v6), (7, .int v7), (9, .int v9), (11, .int v11), (13, .int v13), (14, .int v14), (23, .int v23), (24, .int v24), (27, .int v27)] [.int s0, .int s1] := by
  unfold f_L_days_828 at hf
  refine r_icmp_ne C0 895 dL_days_828 (by decide) hf (fun hf => ?_) (fun hf => ?_)
  · refine r_iconst (v := 0) C0 dL_days_895 (by decide) ?_
    refine r_istore (L' := [(8, .int (0 : Int32)), (0, .ref p0), (2, .int v2), (3, .int v3), (4, .int v4), (5, .int v5), (6, .int v6), (7, .int v7), (9, .int v9), (11, .int v11), (13, .int v13), (14, .int v14), (23, .int v23), (24, .int v24), (27, .int v27)]) C0 dL_days_896 (by decide) rfl ?_
    refine r_iinc (j := 8) (v := (v9 + (1 : Int32))) (L' := [(9, .int (v9 + (1 : Int32))), (8, .int (0 : Int32)), (0, .ref p0), (2, .int v2), (3, .int v3), (4, .int v4), (5, .int v5), (6, .int v6), (7, .int v7), (11, .int v11), (13, .int v13), (14, .int v14), (23, .int v23), (24, .int v24), (27, .int v27)]) C0 dL_days_898 rfl rfl (by decide) rfl ?_
    refine r_goto C0 92 dL_days_901 (by decide) ?_
    refine r_sub (L' := [(0, .ref p0), (2, .int v2), (3, .int v3), (4, .int v4), (5, .int v5), (6, .int v6), (7, .int v7), (8, .int (0 : Int32)), (9, .int (v9 + (1 : Int32)))]) [2, 3, 4, 5, 6, 7, 8, 1, 0] rfl ?_
    exact hk_k_92 v2 v3 v4 v5 v6 v7 (0 : Int32) (v9 + (1 : Int32)) M _ hf _ (by omega)
  · refine r_iload C0 dL_days_831 11 rfl ?_
    refine r_aload_n C0 dL_days_833 rfl 0 rfl ?_
    refine r_iload C0 dL_days_834 10 rfl ?_
    refine r_iconst (v := 1) C0 dL_days_836 (by decide) ?_
    refine r_callWp C0 (st := [.int v23]) (kc1 := kc + 2) [.ref p0, .int v14, .int (1 : Int32)] hf vs_161 (fun hl r1 hr1 => c_L_tryShip hl F p0 v14 (1 : Int32) hk_p0 M r1 hr1) rfl rfl (Nat.le_of_ble_eq_true rfl) dL_days_837 (zrm_k 7635 rfl (by omega)) (by omega) (fun r1 hr1 hf => ?_)
    refine r_icmp_gt C0 895 dL_days_840 (by decide) hf (fun hf => ?_) (fun hf => ?_)
    · refine r_iconst (v := 0) C0 dL_days_895 (by decide) ?_
      refine r_istore (L' := [(8, .int (0 : Int32)), (0, .ref p0), (2, .int v2), (3, .int v3), (4, .int v4), (5, .int v5), (6, .int v6), (7, .int v7), (9, .int v9), (11, .int v11), (13, .int v13), (14, .int v14), (23, .int v23), (24, .int v24), (27, .int v27)]) C0 dL_days_896 (by decide) rfl ?_
      refine r_iinc (j := 8) (v := (v9 + (1 : Int32))) (L' := [(9, .int (v9 + (1 : Int32))), (8, .int (0 : Int32)), (0, .ref p0), (2, .int v2), (3, .int v3), (4, .int v4), (5, .int v5), (6, .int v6), (7, .int v7), (11, .int v11), (13, .int v13), (14, .int v14), (23, .int v23), (24, .int v24), (27, .int v27)]) C0 dL_days_898 rfl rfl (by decide) rfl ?_
      refine r_goto C0 92 dL_days_901 (by decide) ?_
      refine r_sub (L' := [(0, .ref p0), (2, .int v2), (3, .int v3), (4, .int v4), (5, .int v5), (6, .int v6), (7, .int v7), (8, .int (0 : Int32)), (9, .int (v9 + (1 : Int32)))]) [2, 3, 4, 5, 6, 7, 8, 1, 0] rfl ?_
      exact hk_k_92 v2 v3 v4 v5 v6 v7 (0 : Int32) (v9 + (1 : Int32)) M _ hf _ (by omega)
    · refine r_iload C0 dL_days_843 11 rfl ?_
      refine r_aload_n C0 dL_days_845 rfl 0 rfl ?_
      refine r_iload C0 dL_days_846 8 rfl ?_
      refine r_iconst (v := 0) C0 dL_days_848 (by decide) ?_
      refine r_callWp C0 (st := [.int v23]) (kc1 := kc + 4) [.ref p0, .int v11, .int (0 : Int32)] hf vs_164 (fun hl r2 hr2 => c_L_tryZone hl F p0 v11 (0 : Int32) hk_p0 M r2 hr2) rfl rfl (Nat.le_of_ble_eq_true rfl) dL_days_849 (zrm_k 7635 rfl (by omega)) (by omega) (fun r2 hr2 hf => ?_)
      refine r_iload C0 dL_days_852 9 rfl ?_
      refine r_isub C0 dL_days_854 ?_
      refine r_icmp_gt C0 895 dL_days_855 (by decide) hf (fun hf => ?_) (fun hf => ?_)
      · refine r_iconst (v := 0) C0 dL_days_895 (by decide) ?_
        refine r_istore (L' := [(8, .int (0 : Int32)), (0, .ref p0), (2, .int v2), (3, .int v3), (4, .int v4), (5, .int v5), (6, .int v6), (7, .int v7), (9, .int v9), (11, .int v11), (13, .int v13), (14, .int v14), (23, .int v23), (24, .int v24), (27, .int v27)]) C0 dL_days_896 (by decide) rfl ?_
        refine r_iinc (j := 8) (v := (v9 + (1 : Int32))) (L' := [(9, .int (v9 + (1 : Int32))), (8, .int (0 : Int32)), (0, .ref p0), (2, .int v2), (3, .int v3), (4, .int v4), (5, .int v5), (6, .int v6), (7, .int v7), (11, .int v11), (13, .int v13), (14, .int v14), (23, .int v23), (24, .int v24), (27, .int v27)]) C0 dL_days_898 rfl rfl (by decide) rfl ?_
        refine r_goto C0 92 dL_days_901 (by decide) ?_
        refine r_sub (L' := [(0, .ref p0), (2, .int v2), (3, .int v3), (4, .int v4), (5, .int v5), (6, .int v6), (7, .int v7), (8, .int (0 : Int32)), (9, .int (v9 + (1 : Int32)))]) [2, 3, 4, 5, 6, 7, 8, 1, 0] rfl ?_
        exact hk_k_92 v2 v3 v4 v5 v6 v7 (0 : Int32) (v9 + (1 : Int32)) M _ hf _ (by omega)
      · refine r_iload C0 dL_days_858 12 rfl ?_
        refine r_iconst (v := 4) C0 dL_days_860 (by decide) ?_
        refine r_icmp_ne C0 891 dL_days_861 (by decide) hf (fun hf => ?_) (fun hf => ?_)
        · refine r_iconst (v := 1) C0 dL_days_891 (by decide) ?_
          refine r_goto C0 896 dL_days_892 (by decide) ?_
          refine r_istore (L' := [(8, .int (1 : Int32)), (0, .ref p0), (2, .int v2), (3, .int v3), (4, .int v4), (5, .int v5), (6, .int v6), (7, .int v7), (9, .int v9), (11, .int v11), (13, .int v13), (14, .int v14), (23, .int v23), (24, .int v24), (27, .int v27)]) C0 dL_days_896 (by decide) rfl ?_
          refine r_iinc (j := 8) (v := (v9 + (1 : Int32))) (L' := [(9, .int (v9 + (1 : Int32))), (8, .int (1 : Int32)), (0, .ref p0), (2, .int v2), (3, .int v3), (4, .int v4), (5, .int v5), (6, .int v6), (7, .int v7), (11, .int v11), (13, .int v13), (14, .int v14), (23, .int v23), (24, .int v24), (27, .int v27)]) C0 dL_days_898 rfl rfl (by decide) rfl ?_
          refine r_goto C0 92 dL_days_901 (by decide) ?_
          refine r_sub (L' := [(0, .ref p0), (2, .int v2), (3, .int v3), (4, .int v4), (5, .int v5), (6, .int v6), (7, .int v7), (8, .int (1 : Int32)), (9, .int (v9 + (1 : Int32)))]) [2, 3, 4, 5, 6, 7, 8, 1, 0] rfl ?_
          exact hk_k_92 v2 v3 v4 v5 v6 v7 (1 : Int32) (v9 + (1 : Int32)) M _ hf _ (by omega)
        · refine r_iload C0 dL_days_864 13 rfl ?_
          refine r_if_eq C0 895 dL_days_866 (by decide) hf (fun hf => ?_) (fun hf => ?_)
          · refine r_iconst (v := 0) C0 dL_days_895 (by decide) ?_
            refine r_istore (L' := [(8, .int (0 : Int32)), (0, .ref p0), (2, .int v2), (3, .int v3), (4, .int v4), (5, .int v5), (6, .int v6), (7, .int v7), (9, .int v9), (11, .int v11), (13, .int v13), (14, .int v14), (23, .int v23), (24, .int v24), (27, .int v27)]) C0 dL_days_896 (by decide) rfl ?_
            refine r_iinc (j := 8) (v := (v9 + (1 : Int32))) (L' := [(9, .int (v9 + (1 : Int32))), (8, .int (0 : Int32)), (0, .ref p0), (2, .int v2), (3, .int v3), (4, .int v4), (5, .int v5), (6, .int v6), (7, .int v7), (11, .int v11), (13, .int v13), (14, .int v14), (23, .int v23), (24, .int v24), (27, .int v27)]) C0 dL_days_898 rfl rfl (by decide) rfl ?_
            refine r_goto C0 92 dL_days_901 (by decide) ?_
            refine r_sub (L' := [(0, .ref p0), (2, .int v2), (3, .int v3), (4, .int v4), (5, .int v5), (6, .int v6), (7, .int v7), (8, .int (0 : Int32)), (9, .int (v9 + (1 : Int32)))]) [2, 3, 4, 5, 6, 7, 8, 1, 0] rfl ?_
            exact hk_k_92 v2 v3 v4 v5 v6 v7 (0 : Int32) (v9 + (1 : Int32)) M _ hf _ (by omega)
          · refine r_aload_n C0 dL_days_869 rfl 0 rfl ?_
            refine r_iload C0 dL_days_870 10 rfl ?_
            refine r_iconst (v := 5) C0 dL_days_872 (by decide) ?_
            refine r_callWp C0 (st := []) (kc1 := kc + 6) [.ref p0, .int v14, .int (5 : Int32)] hf vs_161 (fun hl r3 hr3 => c_L_tryShip hl F p0 v14 (5 : Int32) hk_p0 M r3 hr3) rfl rfl (Nat.le_of_ble_eq_true rfl) dL_days_873 (zrm_k 7635 rfl (by omega)) (by omega) (fun r3 hr3 hf => ?_)
            refine r_iconst (v := 4) C0 dL_days_876 (by decide) ?_
            refine r_icmp_ne C0 895 dL_days_877 (by decide) hf (fun hf => ?_) (fun hf => ?_)
            · refine r_iconst (v := 0) C0 dL_days_895 (by decide) ?_
              refine r_istore (L' := [(8, .int (0 : Int32)), (0, .ref p0), (2, .int v2), (3, .int v3), (4, .int v4), (5, .int v5), (6, .int v6), (7, .int v7), (9, .int v9), (11, .int v11), (13, .int v13), (14, .int v14), (23, .int v23), (24, .int v24), (27, .int v27)]) C0 dL_days_896 (by decide) rfl ?_
              refine r_iinc (j := 8) (v := (v9 + (1 : Int32))) (L' := [(9, .int (v9 + (1 : Int32))), (8, .int (0 : Int32)), (0, .ref p0), (2, .int v2), (3, .int v3), (4, .int v4), (5, .int v5), (6, .int v6), (7, .int v7), (11, .int v11), (13, .int v13), (14, .int v14), (23, .int v23), (24, .int v24), (27, .int v27)]) C0 dL_days_898 rfl rfl (by decide) rfl ?_
              refine r_goto C0 92 dL_days_901 (by decide) ?_
              refine r_sub (L' := [(0, .ref p0), (2, .int v2), (3, .int v3), (4, .int v4), (5, .int v5), (6, .int v6), (7, .int v7), (8, .int (0 : Int32)), (9, .int (v9 + (1 : Int32)))]) [2, 3, 4, 5, 6, 7, 8, 1, 0] rfl ?_
              exact hk_k_92 v2 v3 v4 v5 v6 v7 (0 : Int32) (v9 + (1 : Int32)) M _ hf _ (by omega)
            · refine r_aload_n C0 dL_days_880 rfl 0 rfl ?_
              refine r_iload C0 dL_days_881 10 rfl ?_
              refine r_iload C0 dL_days_883 8 rfl ?_
              refine r_callWp C0 (st := []) (kc1 := kc + 8) [.ref p0, .int v14, .int v11] hf vs_174 (fun hl r4 hr4 => c_L_tryReach hl F p0 v14 v11 hk_p0 M r4 hr4) rfl rfl (Nat.le_of_ble_eq_true rfl) dL_days_885 (zrm_k 7635 rfl (by omega)) (by omega) (fun r4 hr4 hf => ?_)
              refine r_if_ne C0 895 dL_days_888 (by decide) hf (fun hf => ?_) (fun hf => ?_)
              · refine r_iconst (v := 0) C0 dL_days_895 (by decide) ?_
                refine r_istore (L' := [(8, .int (0 : Int32)), (0, .ref p0), (2, .int v2), (3, .int v3), (4, .int v4), (5, .int v5), (6, .int v6), (7, .int v7), (9, .int v9), (11, .int v11), (13, .int v13), (14, .int v14), (23, .int v23), (24, .int v24), (27, .int v27)]) C0 dL_days_896 (by decide) rfl ?_
                refine r_iinc (j := 8) (v := (v9 + (1 : Int32))) (L' := [(9, .int (v9 + (1 : Int32))), (8, .int (0 : Int32)), (0, .ref p0), (2, .int v2), (3, .int v3), (4, .int v4), (5, .int v5), (6, .int v6), (7, .int v7), (11, .int v11), (13, .int v13), (14, .int v14), (23, .int v23), (24, .int v24), (27, .int v27)]) C0 dL_days_898 rfl rfl (by decide) rfl ?_
                refine r_goto C0 92 dL_days_901 (by decide) ?_
                refine r_sub (L' := [(0, .ref p0), (2, .int v2), (3, .int v3), (4, .int v4), (5, .int v5), (6, .int v6), (7, .int v7), (8, .int (0 : Int32)), (9, .int (v9 + (1 : Int32)))]) [2, 3, 4, 5, 6, 7, 8, 1, 0] rfl ?_
                exact hk_k_92 v2 v3 v4 v5 v6 v7 (0 : Int32) (v9 + (1 : Int32)) M _ hf _ (by omega)
              · refine r_iconst (v := 1) C0 dL_days_891 (by decide) ?_
                refine r_goto C0 896 dL_days_892 (by decide) ?_
                refine r_istore (L' := [(8, .int (1 : Int32)), (0, .ref p0), (2, .int v2), (3, .int v3), (4, .int v4), (5, .int v5), (6, .int v6), (7, .int v7), (9, .int v9), (11, .int v11), (13, .int v13), (14, .int v14), (23, .int v23), (24, .int v24), (27, .int v27)]) C0 dL_days_896 (by decide) rfl ?_
                refine r_iinc (j := 8) (v := (v9 + (1 : Int32))) (L' := [(9, .int (v9 + (1 : Int32))), (8, .int (1 : Int32)), (0, .ref p0), (2, .int v2), (3, .int v3), (4, .int v4), (5, .int v5), (6, .int v6), (7, .int v7), (11, .int v11), (13, .int v13), (14, .int v14), (23, .int v23), (24, .int v24), (27, .int v27)]) C0 dL_days_898 rfl rfl (by decide) rfl ?_
                refine r_goto C0 92 dL_days_901 (by decide) ?_
                refine r_sub (L' := [(0, .ref p0), (2, .int v2), (3, .int v3), (4, .int v4), (5, .int v5), (6, .int v6), (7, .int v7), (8, .int (1 : Int32)), (9, .int (v9 + (1 : Int32)))]) [2, 3, 4, 5, 6, 7, 8, 1, 0] rfl ?_
                exact hk_k_92 v2 v3 v4 v5 v6 v7 (1 : Int32) (v9 + (1 : Int32)) M _ hf _ (by omega)
set_option maxHeartbeats 4000000 in
set_option maxRecDepth 100000 in
theorem g_L_days_813 {Γ : zCx} {E : zEn} {S : zSk} {X : zMl} (C0 : zCt Γ E RL cL_days 28 (Option.some Jvm.ClassFile.FieldType.boolean) [] { frames := 10, cells := 7635, slots := 45810, locals := 185 }) (F : Nat) (p0 : Nat) (p1 : Int32) (k_92 : Int32 → Int32 → Int32 → Int32 → Int32 → Int32 → Int32 → Int32 → zMi → Option (Int32 × zMi)) (TK_92 : Nat) (hk_p0 : K_X10 S p0) (hk_k_92 : ∀ (v2_ : Int32) (v3_ : Int32) (v4_ : Int32) (v5_ : Int32) (v6_ : Int32) (v7_ : Int32) (v8_ : Int32) (v9_ : Int32) (M : zMi) (r : Int32 × zMi) , k_92 v2_ v3_ v4_ v5_ v6_ v7_ v8_ v9_ M = some r → ∀ kc : Nat, kc + TK_92 ≤ 7635 → zG Γ (zQX Γ E 7635 45810 S (.inr (some (.int r.1)), r.2) X) E 28 kc (6 * kc) S ZT M X 92 [(0, .ref p0), (2, .int v2_), (3, .int v3_), (4, .int v4_), (5, .int v5_), (6, .int v6_), (7, .int v7_), (8, .int v8_), (9, .int v9_)] [])  (v2 : Int32) (v3 : Int32) (v4 : Int32) (v5 : Int32) (v6 : Int32) (v7 : Int32) (v9 : Int32) (v11 : Int32) (v13 : Int32) (v14 : Int32) (v23 : Int32) (v24 : Int32) (v27 : Int32) (s0 : Int32) (M : zMi) (r : Int32 × zMi) (hf : f_L_days_813 F p0 p1 k_92 v2 v3 v4 v5 v6 v7 v9 v11 v13 v14 v23 v24 v27 s0 M = some r) (kc : Nat) (hkc : kc + (8 + TK_92) ≤ 7635) : zG Γ (zQX Γ E 7635 45810 S (.inr (some (.int r.1)), r.2) X) E 28 kc (6 * kc) S ZT M X 813 [(0, .ref p0), (2, .int v2), (3, .int v3), (4, .int v4), (5, .int v5), (6, .int v6), (7, .int v7), (9, .int v9), (11, .int v11), (13, .int v13), (14, .int v14), (23, .int v23), (24, .int v24), (27, .int v27)] [.int s0] := by
  unfold f_L_days_813 at hf
  refine r_iload C0 dL_days_813 13 rfl ?_
  refine r_if_eq C0 827 dL_days_815 (by decide) hf (fun hf => ?_) (fun hf => ?_)
  · refine r_iconst (v := 0) C0 dL_days_827 (by decide) ?_
    refine r_sub (L' := [(0, .ref p0), (2, .int v2), (3, .int v3), (4, .int v4), (5, .int v5), (6, .int v6), (7, .int v7), (9, .int v9), (11, .int v11), (13, .int v13), (14, .int v14), (23, .int v23), (24, .int v24), (27, .int v27)]) [0, 1, 2, 3, 4, 5, 6, 7, 8, 9, 10, 11, 12, 13] rfl ?_
    exact g_L_days_828 C0 F p0 p1 k_92 TK_92 hk_p0 hk_k_92 v2 v3 v4 v5 v6 v7 v9 v11 v13 v14 v23 v24 v27 (0 : Int32) s0 M _ hf _ (by omega)
  · refine r_iload C0 dL_days_818 12 rfl ?_
    refine r_if_ne C0 827 dL_days_820 (by decide) hf (fun hf => ?_) (fun hf => ?_)
    · refine r_iconst (v := 0) C0 dL_days_827 (by decide) ?_
      refine r_sub (L' := [(0, .ref p0), (2, .int v2), (3, .int v3), (4, .int v4), (5, .int v5), (6, .int v6), (7, .int v7), (9, .int v9), (11, .int v11), (13, .int v13), (14, .int v14), (23, .int v23), (24, .int v24), (27, .int v27)]) [0, 1, 2, 3, 4, 5, 6, 7, 8, 9, 10, 11, 12, 13] rfl ?_
      exact g_L_days_828 C0 F p0 p1 k_92 TK_92 hk_p0 hk_k_92 v2 v3 v4 v5 v6 v7 v9 v11 v13 v14 v23 v24 v27 (0 : Int32) s0 M _ hf _ (by omega)
    · refine r_iconst (v := 1) C0 dL_days_823 (by decide) ?_
      refine r_goto C0 828 dL_days_824 (by decide) ?_
      refine r_sub (L' := [(0, .ref p0), (2, .int v2), (3, .int v3), (4, .int v4), (5, .int v5), (6, .int v6), (7, .int v7), (9, .int v9), (11, .int v11), (13, .int v13), (14, .int v14), (23, .int v23), (24, .int v24), (27, .int v27)]) [0, 1, 2, 3, 4, 5, 6, 7, 8, 9, 10, 11, 12, 13] rfl ?_
      exact g_L_days_828 C0 F p0 p1 k_92 TK_92 hk_p0 hk_k_92 v2 v3 v4 v5 v6 v7 v9 v11 v13 v14 v23 v24 v27 (1 : Int32) s0 M _ hf _ (by omega)
set_option maxHeartbeats 4000000 in
set_option maxRecDepth 100000 in
theorem g_L_days_800 {Γ : zCx} {E : zEn} {S : zSk} {X : zMl} (C0 : zCt Γ E RL cL_days 28 (Option.some Jvm.ClassFile.FieldType.boolean) [] { frames := 10, cells := 7635, slots := 45810, locals := 185 }) (F : Nat) (p0 : Nat) (p1 : Int32) (k_92 : Int32 → Int32 → Int32 → Int32 → Int32 → Int32 → Int32 → Int32 → zMi → Option (Int32 × zMi)) (TK_92 : Nat) (hk_p0 : K_X10 S p0) (hk_k_92 : ∀ (v2_ : Int32) (v3_ : Int32) (v4_ : Int32) (v5_ : Int32) (v6_ : Int32) (v7_ : Int32) (v8_ : Int32) (v9_ : Int32) (M : zMi) (r : Int32 × zMi) , k_92 v2_ v3_ v4_ v5_ v6_ v7_ v8_ v9_ M = some r → ∀ kc : Nat, kc + TK_92 ≤ 7635 → zG Γ (zQX Γ E 7635 45810 S (.inr (some (.int r.1)), r.2) X) E 28 kc (6 * kc) S ZT M X 92 [(0, .ref p0), (2, .int v2_), (3, .int v3_), (4, .int v4_), (5, .int v5_), (6, .int v6_), (7, .int v7_), (8, .int v8_), (9, .int v9_)] [])  (v2 : Int32) (v3 : Int32) (v4 : Int32) (v5 : Int32) (v6 : Int32) (v7 : Int32) (v9 : Int32) (v11 : Int32) (v13 : Int32) (v14 : Int32) (v23 : Int32) (v24 : Int32) (v27 : Int32) (s0 : Int32) (s1 : Int32) (M : zMi) (r : Int32 × zMi) (hf : f_L_days_800 F p0 p1 k_92 v2 v3 v4 v5 v6 v7 v9 v11 v13 v14 v23 v24 v27 s0 s1 M = some r) (kc : Nat) (hkc : kc + (8 + TK_92) ≤ 7635) : zG Γ (zQX Γ E 7635 45810 S (.inr (some (.int r.1)), r.2) X) E 28 kc (6 * kc) S ZT M X 800 [(0, .ref p0), (2, .int v2), (3, .int v3), (4, .int v4), (5, .int v5), (6, .int v6), (7, .int v7), (9, .int v9), (11, .int v11), (13, .int v13), (14, .int v14), (23, .int v23), (24, .int v24), (27, .int v27)] [.int s0, .int s1] := by
  unfold f_L_days_800 at hf
  refine r_icmp_ne C0 895 dL_days_800 (by decide) hf (fun hf => ?_) (fun hf => ?_)
  · refine r_iconst (v := 0) C0 dL_days_895 (by decide) ?_
    refine r_istore (L' := [(8, .int (0 : Int32)), (0, .ref p0), (2, .int v2), (3, .int v3), (4, .int v4), (5, .int v5), (6, .int v6), (7, .int v7), (9, .int v9), (11, .int v11), (13, .int v13), (14, .int v14), (23, .int v23), (24, .int v24), (27, .int v27)]) C0 dL_days_896 (by decide) rfl ?_
    refine r_iinc (j := 8) (v := (v9 + (1 : Int32))) (L' := [(9, .int (v9 + (1 : Int32))), (8, .int (0 : Int32)), (0, .ref p0), (2, .int v2), (3, .int v3), (4, .int v4), (5, .int v5), (6, .int v6), (7, .int v7), (11, .int v11), (13, .int v13), (14, .int v14), (23, .int v23), (24, .int v24), (27, .int v27)]) C0 dL_days_898 rfl rfl (by decide) rfl ?_
    refine r_goto C0 92 dL_days_901 (by decide) ?_
    refine r_sub (L' := [(0, .ref p0), (2, .int v2), (3, .int v3), (4, .int v4), (5, .int v5), (6, .int v6), (7, .int v7), (8, .int (0 : Int32)), (9, .int (v9 + (1 : Int32)))]) [2, 3, 4, 5, 6, 7, 8, 1, 0] rfl ?_
    exact hk_k_92 v2 v3 v4 v5 v6 v7 (0 : Int32) (v9 + (1 : Int32)) M _ hf _ (by omega)
  · refine r_iload C0 dL_days_803 11 rfl ?_
    refine r_if_le C0 812 dL_days_805 (by decide) hf (fun hf => ?_) (fun hf => ?_)
    · refine r_iconst (v := 0) C0 dL_days_812 (by decide) ?_
      refine r_sub (L' := [(0, .ref p0), (2, .int v2), (3, .int v3), (4, .int v4), (5, .int v5), (6, .int v6), (7, .int v7), (9, .int v9), (11, .int v11), (13, .int v13), (14, .int v14), (23, .int v23), (24, .int v24), (27, .int v27)]) [0, 1, 2, 3, 4, 5, 6, 7, 8, 9, 10, 11, 12, 13] rfl ?_
      exact g_L_days_813 C0 F p0 p1 k_92 TK_92 hk_p0 hk_k_92 v2 v3 v4 v5 v6 v7 v9 v11 v13 v14 v23 v24 v27 (0 : Int32) M _ hf _ (by omega)
    · refine r_iconst (v := 1) C0 dL_days_808 (by decide) ?_
      refine r_goto C0 813 dL_days_809 (by decide) ?_
      refine r_sub (L' := [(0, .ref p0), (2, .int v2), (3, .int v3), (4, .int v4), (5, .int v5), (6, .int v6), (7, .int v7), (9, .int v9), (11, .int v11), (13, .int v13), (14, .int v14), (23, .int v23), (24, .int v24), (27, .int v27)]) [0, 1, 2, 3, 4, 5, 6, 7, 8, 9, 10, 11, 12, 13] rfl ?_
      exact g_L_days_813 C0 F p0 p1 k_92 TK_92 hk_p0 hk_k_92 v2 v3 v4 v5 v6 v7 v9 v11 v13 v14 v23 v24 v27 (1 : Int32) M _ hf _ (by omega)
set_option maxHeartbeats 4000000 in
set_option maxRecDepth 100000 in
theorem g_L_days_776 {Γ : zCx} {E : zEn} {S : zSk} {X : zMl} (C0 : zCt Γ E RL cL_days 28 (Option.some Jvm.ClassFile.FieldType.boolean) [] { frames := 10, cells := 7635, slots := 45810, locals := 185 }) (F : Nat) (p0 : Nat) (p1 : Int32) (k_92 : Int32 → Int32 → Int32 → Int32 → Int32 → Int32 → Int32 → Int32 → zMi → Option (Int32 × zMi)) (TK_92 : Nat) (hk_p0 : K_X10 S p0) (hk_k_92 : ∀ (v2_ : Int32) (v3_ : Int32) (v4_ : Int32) (v5_ : Int32) (v6_ : Int32) (v7_ : Int32) (v8_ : Int32) (v9_ : Int32) (M : zMi) (r : Int32 × zMi) , k_92 v2_ v3_ v4_ v5_ v6_ v7_ v8_ v9_ M = some r → ∀ kc : Nat, kc + TK_92 ≤ 7635 → zG Γ (zQX Γ E 7635 45810 S (.inr (some (.int r.1)), r.2) X) E 28 kc (6 * kc) S ZT M X 92 [(0, .ref p0), (2, .int v2_), (3, .int v3_), (4, .int v4_), (5, .int v5_), (6, .int v6_), (7, .int v7_), (8, .int v8_), (9, .int v9_)] [])  (v2 : Int32) (v3 : Int32) (v4 : Int32) (v5 : Int32) (v6 : Int32) (v7 : Int32) (v9 : Int32) (v10 : Int32) (v11 : Int32) (v13 : Int32) (v14 : Int32) (v23 : Int32) (v24 : Int32) (v25 : Int32) (v26 : Int32) (v27 : Int32) (s0 : Int32) (M : zMi) (r : Int32 × zMi) (hf : f_L_days_776 F p0 p1 k_92 v2 v3 v4 v5 v6 v7 v9 v10 v11 v13 v14 v23 v24 v25 v26 v27 s0 M = some r) (kc : Nat) (hkc : kc + (8 + TK_92) ≤ 7635) : zG Γ (zQX Γ E 7635 45810 S (.inr (some (.int r.1)), r.2) X) E 28 kc (6 * kc) S ZT M X 776 [(0, .ref p0), (2, .int v2), (3, .int v3), (4, .int v4), (5, .int v5), (6, .int v6), (7, .int v7), (9, .int v9), (10, .int v10), (11, .int v11), (13, .int v13), (14, .int v14), (23, .int v23), (24, .int v24), (25, .int v25), (26, .int v26), (27, .int v27)] [.int s0] := by
  unfold f_L_days_776 at hf
  refine r_iload C0 dL_days_776 8 rfl ?_
  refine r_iload C0 dL_days_778 14 rfl ?_
  refine r_icmp_lt C0 799 dL_days_780 (by decide) hf (fun hf => ?_) (fun hf => ?_)
  · refine r_iconst (v := 0) C0 dL_days_799 (by decide) ?_
    refine r_sub (L' := [(0, .ref p0), (2, .int v2), (3, .int v3), (4, .int v4), (5, .int v5), (6, .int v6), (7, .int v7), (9, .int v9), (11, .int v11), (13, .int v13), (14, .int v14), (23, .int v23), (24, .int v24), (27, .int v27)]) [0, 1, 2, 3, 4, 5, 6, 7, 9, 10, 11, 12, 13, 16] rfl ?_
    exact g_L_days_800 C0 F p0 p1 k_92 TK_92 hk_p0 hk_k_92 v2 v3 v4 v5 v6 v7 v9 v11 v13 v14 v23 v24 v27 (0 : Int32) s0 M _ hf _ (by omega)
  · refine r_iload C0 dL_days_783 8 rfl ?_
    refine r_iload C0 dL_days_785 15 rfl ?_
    refine r_icmp_gt C0 799 dL_days_787 (by decide) hf (fun hf => ?_) (fun hf => ?_)
    · refine r_iconst (v := 0) C0 dL_days_799 (by decide) ?_
      refine r_sub (L' := [(0, .ref p0), (2, .int v2), (3, .int v3), (4, .int v4), (5, .int v5), (6, .int v6), (7, .int v7), (9, .int v9), (11, .int v11), (13, .int v13), (14, .int v14), (23, .int v23), (24, .int v24), (27, .int v27)]) [0, 1, 2, 3, 4, 5, 6, 7, 9, 10, 11, 12, 13, 16] rfl ?_
      exact g_L_days_800 C0 F p0 p1 k_92 TK_92 hk_p0 hk_k_92 v2 v3 v4 v5 v6 v7 v9 v11 v13 v14 v23 v24 v27 (0 : Int32) s0 M _ hf _ (by omega)
    · refine r_iload C0 dL_days_790 16 rfl ?_
      refine r_if_ne C0 799 dL_days_792 (by decide) hf (fun hf => ?_) (fun hf => ?_)
      · refine r_iconst (v := 0) C0 dL_days_799 (by decide) ?_
        refine r_sub (L' := [(0, .ref p0), (2, .int v2), (3, .int v3), (4, .int v4), (5, .int v5), (6, .int v6), (7, .int v7), (9, .int v9), (11, .int v11), (13, .int v13), (14, .int v14), (23, .int v23), (24, .int v24), (27, .int v27)]) [0, 1, 2, 3, 4, 5, 6, 7, 9, 10, 11, 12, 13, 16] rfl ?_
        exact g_L_days_800 C0 F p0 p1 k_92 TK_92 hk_p0 hk_k_92 v2 v3 v4 v5 v6 v7 v9 v11 v13 v14 v23 v24 v27 (0 : Int32) s0 M _ hf _ (by omega)
      · refine r_iconst (v := 1) C0 dL_days_795 (by decide) ?_
        refine r_goto C0 800 dL_days_796 (by decide) ?_
        refine r_sub (L' := [(0, .ref p0), (2, .int v2), (3, .int v3), (4, .int v4), (5, .int v5), (6, .int v6), (7, .int v7), (9, .int v9), (11, .int v11), (13, .int v13), (14, .int v14), (23, .int v23), (24, .int v24), (27, .int v27)]) [0, 1, 2, 3, 4, 5, 6, 7, 9, 10, 11, 12, 13, 16] rfl ?_
        exact g_L_days_800 C0 F p0 p1 k_92 TK_92 hk_p0 hk_k_92 v2 v3 v4 v5 v6 v7 v9 v11 v13 v14 v23 v24 v27 (1 : Int32) s0 M _ hf _ (by omega)
set_option maxHeartbeats 4000000 in
set_option maxRecDepth 100000 in
theorem g_L_days_762 {Γ : zCx} {E : zEn} {S : zSk} {X : zMl} (C0 : zCt Γ E RL cL_days 28 (Option.some Jvm.ClassFile.FieldType.boolean) [] { frames := 10, cells := 7635, slots := 45810, locals := 185 }) (F : Nat) (p0 : Nat) (p1 : Int32) (k_92 : Int32 → Int32 → Int32 → Int32 → Int32 → Int32 → Int32 → Int32 → zMi → Option (Int32 × zMi)) (TK_92 : Nat) (hk_p0 : K_X10 S p0) (hk_k_92 : ∀ (v2_ : Int32) (v3_ : Int32) (v4_ : Int32) (v5_ : Int32) (v6_ : Int32) (v7_ : Int32) (v8_ : Int32) (v9_ : Int32) (M : zMi) (r : Int32 × zMi) , k_92 v2_ v3_ v4_ v5_ v6_ v7_ v8_ v9_ M = some r → ∀ kc : Nat, kc + TK_92 ≤ 7635 → zG Γ (zQX Γ E 7635 45810 S (.inr (some (.int r.1)), r.2) X) E 28 kc (6 * kc) S ZT M X 92 [(0, .ref p0), (2, .int v2_), (3, .int v3_), (4, .int v4_), (5, .int v5_), (6, .int v6_), (7, .int v7_), (8, .int v8_), (9, .int v9_)] [])  (v2 : Int32) (v3 : Int32) (v4 : Int32) (v5 : Int32) (v6 : Int32) (v7 : Int32) (v9 : Int32) (v10 : Int32) (v11 : Int32) (v13 : Int32) (v14 : Int32) (v23 : Int32) (v24 : Int32) (v25 : Int32) (v26 : Int32) (v27 : Int32) (s0 : Int32) (s1 : Int32) (M : zMi) (r : Int32 × zMi) (hf : f_L_days_762 F p0 p1 k_92 v2 v3 v4 v5 v6 v7 v9 v10 v11 v13 v14 v23 v24 v25 v26 v27 s0 s1 M = some r) (kc : Nat) (hkc : kc + (8 + TK_92) ≤ 7635) : zG Γ (zQX Γ E 7635 45810 S (.inr (some (.int r.1)), r.2) X) E 28 kc (6 * kc) S ZT M X 762 [(0, .ref p0), (2, .int v2), (3, .int v3), (4, .int v4), (5, .int v5), (6, .int v6), (7, .int v7), (9, .int v9), (10, .int v10), (11, .int v11), (13, .int v13), (14, .int v14), (23, .int v23), (24, .int v24), (25, .int v25), (26, .int v26), (27, .int v27)] [.int s0, .int s1] := by
  unfold f_L_days_762 at hf
  refine r_icmp_ne C0 895 dL_days_762 (by decide) hf (fun hf => ?_) (fun hf => ?_)
  · refine r_iconst (v := 0) C0 dL_days_895 (by decide) ?_
    refine r_istore (L' := [(8, .int (0 : Int32)), (0, .ref p0), (2, .int v2), (3, .int v3), (4, .int v4), (5, .int v5), (6, .int v6), (7, .int v7), (9, .int v9), (10, .int v10), (11, .int v11), (13, .int v13), (14, .int v14), (23, .int v23), (24, .int v24), (25, .int v25), (26, .int v26), (27, .int v27)]) C0 dL_days_896 (by decide) rfl ?_
    refine r_iinc (j := 8) (v := (v9 + (1 : Int32))) (L' := [(9, .int (v9 + (1 : Int32))), (8, .int (0 : Int32)), (0, .ref p0), (2, .int v2), (3, .int v3), (4, .int v4), (5, .int v5), (6, .int v6), (7, .int v7), (10, .int v10), (11, .int v11), (13, .int v13), (14, .int v14), (23, .int v23), (24, .int v24), (25, .int v25), (26, .int v26), (27, .int v27)]) C0 dL_days_898 rfl rfl (by decide) rfl ?_
    refine r_goto C0 92 dL_days_901 (by decide) ?_
    refine r_sub (L' := [(0, .ref p0), (2, .int v2), (3, .int v3), (4, .int v4), (5, .int v5), (6, .int v6), (7, .int v7), (8, .int (0 : Int32)), (9, .int (v9 + (1 : Int32)))]) [2, 3, 4, 5, 6, 7, 8, 1, 0] rfl ?_
    exact hk_k_92 v2 v3 v4 v5 v6 v7 (0 : Int32) (v9 + (1 : Int32)) M _ hf _ (by omega)
  · refine r_iload C0 dL_days_765 13 rfl ?_
    refine r_iconst (v := 3) C0 dL_days_767 (by decide) ?_
    refine r_icmp_ne C0 775 dL_days_768 (by decide) hf (fun hf => ?_) (fun hf => ?_)
    · refine r_iconst (v := 0) C0 dL_days_775 (by decide) ?_
      refine r_sub (L' := [(0, .ref p0), (2, .int v2), (3, .int v3), (4, .int v4), (5, .int v5), (6, .int v6), (7, .int v7), (9, .int v9), (10, .int v10), (11, .int v11), (13, .int v13), (14, .int v14), (23, .int v23), (24, .int v24), (25, .int v25), (26, .int v26), (27, .int v27)]) [0, 1, 2, 3, 4, 5, 6, 7, 8, 9, 10, 11, 12, 13, 14, 15, 16] rfl ?_
      exact g_L_days_776 C0 F p0 p1 k_92 TK_92 hk_p0 hk_k_92 v2 v3 v4 v5 v6 v7 v9 v10 v11 v13 v14 v23 v24 v25 v26 v27 (0 : Int32) M _ hf _ (by omega)
    · refine r_iconst (v := 1) C0 dL_days_771 (by decide) ?_
      refine r_goto C0 776 dL_days_772 (by decide) ?_
      refine r_sub (L' := [(0, .ref p0), (2, .int v2), (3, .int v3), (4, .int v4), (5, .int v5), (6, .int v6), (7, .int v7), (9, .int v9), (10, .int v10), (11, .int v11), (13, .int v13), (14, .int v14), (23, .int v23), (24, .int v24), (25, .int v25), (26, .int v26), (27, .int v27)]) [0, 1, 2, 3, 4, 5, 6, 7, 8, 9, 10, 11, 12, 13, 14, 15, 16] rfl ?_
      exact g_L_days_776 C0 F p0 p1 k_92 TK_92 hk_p0 hk_k_92 v2 v3 v4 v5 v6 v7 v9 v10 v11 v13 v14 v23 v24 v25 v26 v27 (1 : Int32) M _ hf _ (by omega)
set_option maxHeartbeats 4000000 in
set_option maxRecDepth 100000 in
theorem g_L_days_750 {Γ : zCx} {E : zEn} {S : zSk} {X : zMl} (C0 : zCt Γ E RL cL_days 28 (Option.some Jvm.ClassFile.FieldType.boolean) [] { frames := 10, cells := 7635, slots := 45810, locals := 185 }) (F : Nat) (p0 : Nat) (p1 : Int32) (k_92 : Int32 → Int32 → Int32 → Int32 → Int32 → Int32 → Int32 → Int32 → zMi → Option (Int32 × zMi)) (TK_92 : Nat) (hk_p0 : K_X10 S p0) (hk_k_92 : ∀ (v2_ : Int32) (v3_ : Int32) (v4_ : Int32) (v5_ : Int32) (v6_ : Int32) (v7_ : Int32) (v8_ : Int32) (v9_ : Int32) (M : zMi) (r : Int32 × zMi) , k_92 v2_ v3_ v4_ v5_ v6_ v7_ v8_ v9_ M = some r → ∀ kc : Nat, kc + TK_92 ≤ 7635 → zG Γ (zQX Γ E 7635 45810 S (.inr (some (.int r.1)), r.2) X) E 28 kc (6 * kc) S ZT M X 92 [(0, .ref p0), (2, .int v2_), (3, .int v3_), (4, .int v4_), (5, .int v5_), (6, .int v6_), (7, .int v7_), (8, .int v8_), (9, .int v9_)] [])  (v2 : Int32) (v3 : Int32) (v4 : Int32) (v5 : Int32) (v6 : Int32) (v7 : Int32) (v9 : Int32) (v10 : Int32) (v11 : Int32) (v13 : Int32) (v14 : Int32) (v23 : Int32) (v24 : Int32) (v25 : Int32) (v26 : Int32) (v27 : Int32) (s0 : Int32) (M : zMi) (r : Int32 × zMi) (hf : f_L_days_750 F p0 p1 k_92 v2 v3 v4 v5 v6 v7 v9 v10 v11 v13 v14 v23 v24 v25 v26 v27 s0 M = some r) (kc : Nat) (hkc : kc + (8 + TK_92) ≤ 7635) : zG Γ (zQX Γ E 7635 45810 S (.inr (some (.int r.1)), r.2) X) E 28 kc (6 * kc) S ZT M X 750 [(0, .ref p0), (2, .int v2), (3, .int v3), (4, .int v4), (5, .int v5), (6, .int v6), (7, .int v7), (9, .int v9), (10, .int v10), (11, .int v11), (13, .int v13), (14, .int v14), (23, .int v23), (24, .int v24), (25, .int v25), (26, .int v26), (27, .int v27)] [.int s0] := by
  unfold f_L_days_750 at hf
  refine r_iload C0 dL_days_750 8 rfl ?_
  refine r_iload C0 dL_days_752 15 rfl ?_
  refine r_icmp_le C0 761 dL_days_754 (by decide) hf (fun hf => ?_) (fun hf => ?_)
  · refine r_iconst (v := 0) C0 dL_days_761 (by decide) ?_
    refine r_sub (L' := [(0, .ref p0), (2, .int v2), (3, .int v3), (4, .int v4), (5, .int v5), (6, .int v6), (7, .int v7), (9, .int v9), (10, .int v10), (11, .int v11), (13, .int v13), (14, .int v14), (23, .int v23), (24, .int v24), (25, .int v25), (26, .int v26), (27, .int v27)]) [0, 1, 2, 3, 4, 5, 6, 7, 8, 9, 10, 11, 12, 13, 14, 15, 16] rfl ?_
    exact g_L_days_762 C0 F p0 p1 k_92 TK_92 hk_p0 hk_k_92 v2 v3 v4 v5 v6 v7 v9 v10 v11 v13 v14 v23 v24 v25 v26 v27 (0 : Int32) s0 M _ hf _ (by omega)
  · refine r_iconst (v := 1) C0 dL_days_757 (by decide) ?_
    refine r_goto C0 762 dL_days_758 (by decide) ?_
    refine r_sub (L' := [(0, .ref p0), (2, .int v2), (3, .int v3), (4, .int v4), (5, .int v5), (6, .int v6), (7, .int v7), (9, .int v9), (10, .int v10), (11, .int v11), (13, .int v13), (14, .int v14), (23, .int v23), (24, .int v24), (25, .int v25), (26, .int v26), (27, .int v27)]) [0, 1, 2, 3, 4, 5, 6, 7, 8, 9, 10, 11, 12, 13, 14, 15, 16] rfl ?_
    exact g_L_days_762 C0 F p0 p1 k_92 TK_92 hk_p0 hk_k_92 v2 v3 v4 v5 v6 v7 v9 v10 v11 v13 v14 v23 v24 v25 v26 v27 (1 : Int32) s0 M _ hf _ (by omega)
set_option maxHeartbeats 4000000 in
set_option maxRecDepth 100000 in
theorem g_L_days_736 {Γ : zCx} {E : zEn} {S : zSk} {X : zMl} (C0 : zCt Γ E RL cL_days 28 (Option.some Jvm.ClassFile.FieldType.boolean) [] { frames := 10, cells := 7635, slots := 45810, locals := 185 }) (F : Nat) (p0 : Nat) (p1 : Int32) (k_92 : Int32 → Int32 → Int32 → Int32 → Int32 → Int32 → Int32 → Int32 → zMi → Option (Int32 × zMi)) (TK_92 : Nat) (hk_p0 : K_X10 S p0) (hk_k_92 : ∀ (v2_ : Int32) (v3_ : Int32) (v4_ : Int32) (v5_ : Int32) (v6_ : Int32) (v7_ : Int32) (v8_ : Int32) (v9_ : Int32) (M : zMi) (r : Int32 × zMi) , k_92 v2_ v3_ v4_ v5_ v6_ v7_ v8_ v9_ M = some r → ∀ kc : Nat, kc + TK_92 ≤ 7635 → zG Γ (zQX Γ E 7635 45810 S (.inr (some (.int r.1)), r.2) X) E 28 kc (6 * kc) S ZT M X 92 [(0, .ref p0), (2, .int v2_), (3, .int v3_), (4, .int v4_), (5, .int v5_), (6, .int v6_), (7, .int v7_), (8, .int v8_), (9, .int v9_)] [])  (v2 : Int32) (v3 : Int32) (v4 : Int32) (v5 : Int32) (v6 : Int32) (v7 : Int32) (v9 : Int32) (v10 : Int32) (v11 : Int32) (v13 : Int32) (v14 : Int32) (v23 : Int32) (v24 : Int32) (v25 : Int32) (v26 : Int32) (v27 : Int32) (s0 : Int32) (s1 : Int32) (M : zMi) (r : Int32 × zMi) (hf : f_L_days_736 F p0 p1 k_92 v2 v3 v4 v5 v6 v7 v9 v10 v11 v13 v14 v23 v24 v25 v26 v27 s0 s1 M = some r) (kc : Nat) (hkc : kc + (8 + TK_92) ≤ 7635) : zG Γ (zQX Γ E 7635 45810 S (.inr (some (.int r.1)), r.2) X) E 28 kc (6 * kc) S ZT M X 736 [(0, .ref p0), (2, .int v2), (3, .int v3), (4, .int v4), (5, .int v5), (6, .int v6), (7, .int v7), (9, .int v9), (10, .int v10), (11, .int v11), (13, .int v13), (14, .int v14), (23, .int v23), (24, .int v24), (25, .int v25), (26, .int v26), (27, .int v27)] [.int s0, .int s1] := by
  unfold f_L_days_736 at hf
  refine r_icmp_ne C0 895 dL_days_736 (by decide) hf (fun hf => ?_) (fun hf => ?_)
  · refine r_iconst (v := 0) C0 dL_days_895 (by decide) ?_
    refine r_istore (L' := [(8, .int (0 : Int32)), (0, .ref p0), (2, .int v2), (3, .int v3), (4, .int v4), (5, .int v5), (6, .int v6), (7, .int v7), (9, .int v9), (10, .int v10), (11, .int v11), (13, .int v13), (14, .int v14), (23, .int v23), (24, .int v24), (25, .int v25), (26, .int v26), (27, .int v27)]) C0 dL_days_896 (by decide) rfl ?_
    refine r_iinc (j := 8) (v := (v9 + (1 : Int32))) (L' := [(9, .int (v9 + (1 : Int32))), (8, .int (0 : Int32)), (0, .ref p0), (2, .int v2), (3, .int v3), (4, .int v4), (5, .int v5), (6, .int v6), (7, .int v7), (10, .int v10), (11, .int v11), (13, .int v13), (14, .int v14), (23, .int v23), (24, .int v24), (25, .int v25), (26, .int v26), (27, .int v27)]) C0 dL_days_898 rfl rfl (by decide) rfl ?_
    refine r_goto C0 92 dL_days_901 (by decide) ?_
    refine r_sub (L' := [(0, .ref p0), (2, .int v2), (3, .int v3), (4, .int v4), (5, .int v5), (6, .int v6), (7, .int v7), (8, .int (0 : Int32)), (9, .int (v9 + (1 : Int32)))]) [2, 3, 4, 5, 6, 7, 8, 1, 0] rfl ?_
    exact hk_k_92 v2 v3 v4 v5 v6 v7 (0 : Int32) (v9 + (1 : Int32)) M _ hf _ (by omega)
  · refine r_iload C0 dL_days_739 13 rfl ?_
    refine r_iconst (v := 2) C0 dL_days_741 (by decide) ?_
    refine r_icmp_ne C0 749 dL_days_742 (by decide) hf (fun hf => ?_) (fun hf => ?_)
    · refine r_iconst (v := 0) C0 dL_days_749 (by decide) ?_
      refine r_sub (L' := [(0, .ref p0), (2, .int v2), (3, .int v3), (4, .int v4), (5, .int v5), (6, .int v6), (7, .int v7), (9, .int v9), (10, .int v10), (11, .int v11), (13, .int v13), (14, .int v14), (23, .int v23), (24, .int v24), (25, .int v25), (26, .int v26), (27, .int v27)]) [0, 1, 2, 3, 4, 5, 6, 7, 8, 9, 10, 11, 12, 13, 14, 15, 16] rfl ?_
      exact g_L_days_750 C0 F p0 p1 k_92 TK_92 hk_p0 hk_k_92 v2 v3 v4 v5 v6 v7 v9 v10 v11 v13 v14 v23 v24 v25 v26 v27 (0 : Int32) M _ hf _ (by omega)
    · refine r_iconst (v := 1) C0 dL_days_745 (by decide) ?_
      refine r_goto C0 750 dL_days_746 (by decide) ?_
      refine r_sub (L' := [(0, .ref p0), (2, .int v2), (3, .int v3), (4, .int v4), (5, .int v5), (6, .int v6), (7, .int v7), (9, .int v9), (10, .int v10), (11, .int v11), (13, .int v13), (14, .int v14), (23, .int v23), (24, .int v24), (25, .int v25), (26, .int v26), (27, .int v27)]) [0, 1, 2, 3, 4, 5, 6, 7, 8, 9, 10, 11, 12, 13, 14, 15, 16] rfl ?_
      exact g_L_days_750 C0 F p0 p1 k_92 TK_92 hk_p0 hk_k_92 v2 v3 v4 v5 v6 v7 v9 v10 v11 v13 v14 v23 v24 v25 v26 v27 (1 : Int32) M _ hf _ (by omega)
set_option maxHeartbeats 4000000 in
set_option maxRecDepth 100000 in
theorem g_L_days_724 {Γ : zCx} {E : zEn} {S : zSk} {X : zMl} (C0 : zCt Γ E RL cL_days 28 (Option.some Jvm.ClassFile.FieldType.boolean) [] { frames := 10, cells := 7635, slots := 45810, locals := 185 }) (F : Nat) (p0 : Nat) (p1 : Int32) (k_92 : Int32 → Int32 → Int32 → Int32 → Int32 → Int32 → Int32 → Int32 → zMi → Option (Int32 × zMi)) (TK_92 : Nat) (hk_p0 : K_X10 S p0) (hk_k_92 : ∀ (v2_ : Int32) (v3_ : Int32) (v4_ : Int32) (v5_ : Int32) (v6_ : Int32) (v7_ : Int32) (v8_ : Int32) (v9_ : Int32) (M : zMi) (r : Int32 × zMi) , k_92 v2_ v3_ v4_ v5_ v6_ v7_ v8_ v9_ M = some r → ∀ kc : Nat, kc + TK_92 ≤ 7635 → zG Γ (zQX Γ E 7635 45810 S (.inr (some (.int r.1)), r.2) X) E 28 kc (6 * kc) S ZT M X 92 [(0, .ref p0), (2, .int v2_), (3, .int v3_), (4, .int v4_), (5, .int v5_), (6, .int v6_), (7, .int v7_), (8, .int v8_), (9, .int v9_)] [])  (v2 : Int32) (v3 : Int32) (v4 : Int32) (v5 : Int32) (v6 : Int32) (v7 : Int32) (v9 : Int32) (v10 : Int32) (v11 : Int32) (v13 : Int32) (v14 : Int32) (v23 : Int32) (v24 : Int32) (v25 : Int32) (v26 : Int32) (v27 : Int32) (s0 : Int32) (M : zMi) (r : Int32 × zMi) (hf : f_L_days_724 F p0 p1 k_92 v2 v3 v4 v5 v6 v7 v9 v10 v11 v13 v14 v23 v24 v25 v26 v27 s0 M = some r) (kc : Nat) (hkc : kc + (8 + TK_92) ≤ 7635) : zG Γ (zQX Γ E 7635 45810 S (.inr (some (.int r.1)), r.2) X) E 28 kc (6 * kc) S ZT M X 724 [(0, .ref p0), (2, .int v2), (3, .int v3), (4, .int v4), (5, .int v5), (6, .int v6), (7, .int v7), (9, .int v9), (10, .int v10), (11, .int v11), (13, .int v13), (14, .int v14), (23, .int v23), (24, .int v24), (25, .int v25), (26, .int v26), (27, .int v27)] [.int s0] := by
  unfold f_L_days_724 at hf
  refine r_iload C0 dL_days_724 8 rfl ?_
  refine r_iload C0 dL_days_726 14 rfl ?_
  refine r_icmp_ge C0 735 dL_days_728 (by decide) hf (fun hf => ?_) (fun hf => ?_)
  · refine r_iconst (v := 0) C0 dL_days_735 (by decide) ?_
    refine r_sub (L' := [(0, .ref p0), (2, .int v2), (3, .int v3), (4, .int v4), (5, .int v5), (6, .int v6), (7, .int v7), (9, .int v9), (10, .int v10), (11, .int v11), (13, .int v13), (14, .int v14), (23, .int v23), (24, .int v24), (25, .int v25), (26, .int v26), (27, .int v27)]) [0, 1, 2, 3, 4, 5, 6, 7, 8, 9, 10, 11, 12, 13, 14, 15, 16] rfl ?_
    exact g_L_days_736 C0 F p0 p1 k_92 TK_92 hk_p0 hk_k_92 v2 v3 v4 v5 v6 v7 v9 v10 v11 v13 v14 v23 v24 v25 v26 v27 (0 : Int32) s0 M _ hf _ (by omega)
  · refine r_iconst (v := 1) C0 dL_days_731 (by decide) ?_
    refine r_goto C0 736 dL_days_732 (by decide) ?_
    refine r_sub (L' := [(0, .ref p0), (2, .int v2), (3, .int v3), (4, .int v4), (5, .int v5), (6, .int v6), (7, .int v7), (9, .int v9), (10, .int v10), (11, .int v11), (13, .int v13), (14, .int v14), (23, .int v23), (24, .int v24), (25, .int v25), (26, .int v26), (27, .int v27)]) [0, 1, 2, 3, 4, 5, 6, 7, 8, 9, 10, 11, 12, 13, 14, 15, 16] rfl ?_
    exact g_L_days_736 C0 F p0 p1 k_92 TK_92 hk_p0 hk_k_92 v2 v3 v4 v5 v6 v7 v9 v10 v11 v13 v14 v23 v24 v25 v26 v27 (1 : Int32) s0 M _ hf _ (by omega)
set_option maxHeartbeats 4000000 in
set_option maxRecDepth 100000 in
theorem g_L_days_706 {Γ : zCx} {E : zEn} {S : zSk} {X : zMl} (C0 : zCt Γ E RL cL_days 28 (Option.some Jvm.ClassFile.FieldType.boolean) [] { frames := 10, cells := 7635, slots := 45810, locals := 185 }) (F : Nat) (p0 : Nat) (p1 : Int32) (k_92 : Int32 → Int32 → Int32 → Int32 → Int32 → Int32 → Int32 → Int32 → zMi → Option (Int32 × zMi)) (TK_92 : Nat) (hk_p0 : K_X10 S p0) (hk_k_92 : ∀ (v2_ : Int32) (v3_ : Int32) (v4_ : Int32) (v5_ : Int32) (v6_ : Int32) (v7_ : Int32) (v8_ : Int32) (v9_ : Int32) (M : zMi) (r : Int32 × zMi) , k_92 v2_ v3_ v4_ v5_ v6_ v7_ v8_ v9_ M = some r → ∀ kc : Nat, kc + TK_92 ≤ 7635 → zG Γ (zQX Γ E 7635 45810 S (.inr (some (.int r.1)), r.2) X) E 28 kc (6 * kc) S ZT M X 92 [(0, .ref p0), (2, .int v2_), (3, .int v3_), (4, .int v4_), (5, .int v5_), (6, .int v6_), (7, .int v7_), (8, .int v8_), (9, .int v9_)] [])  (v2 : Int32) (v3 : Int32) (v4 : Int32) (v5 : Int32) (v6 : Int32) (v7 : Int32) (v8 : Int32) (v9 : Int32) (v10 : Int32) (v11 : Int32) (v13 : Int32) (v14 : Int32) (v23 : Int32) (v24 : Int32) (v25 : Int32) (v26 : Int32) (s0 : Int32) (M : zMi) (r : Int32 × zMi) (hf : f_L_days_706 F p0 p1 k_92 v2 v3 v4 v5 v6 v7 v8 v9 v10 v11 v13 v14 v23 v24 v25 v26 s0 M = some r) (kc : Nat) (hkc : kc + (8 + TK_92) ≤ 7635) : zG Γ (zQX Γ E 7635 45810 S (.inr (some (.int r.1)), r.2) X) E 28 kc (6 * kc) S ZT M X 706 [(0, .ref p0), (2, .int v2), (3, .int v3), (4, .int v4), (5, .int v5), (6, .int v6), (7, .int v7), (8, .int v8), (9, .int v9), (10, .int v10), (11, .int v11), (13, .int v13), (14, .int v14), (23, .int v23), (24, .int v24), (25, .int v25), (26, .int v26)] [.int s0] := by
  unfold f_L_days_706 at hf
  refine r_istore (L' := [(27, .int s0), (0, .ref p0), (2, .int v2), (3, .int v3), (4, .int v4), (5, .int v5), (6, .int v6), (7, .int v7), (8, .int v8), (9, .int v9), (10, .int v10), (11, .int v11), (13, .int v13), (14, .int v14), (23, .int v23), (24, .int v24), (25, .int v25), (26, .int v26)]) C0 dL_days_706 (by decide) rfl ?_
  refine r_iload C0 dL_days_708 8 rfl ?_
  refine r_if_eq C0 895 dL_days_710 (by decide) hf (fun hf => ?_) (fun hf => ?_)
  · refine r_iconst (v := 0) C0 dL_days_895 (by decide) ?_
    refine r_istore (L' := [(8, .int (0 : Int32)), (27, .int s0), (0, .ref p0), (2, .int v2), (3, .int v3), (4, .int v4), (5, .int v5), (6, .int v6), (7, .int v7), (9, .int v9), (10, .int v10), (11, .int v11), (13, .int v13), (14, .int v14), (23, .int v23), (24, .int v24), (25, .int v25), (26, .int v26)]) C0 dL_days_896 (by decide) rfl ?_
    refine r_iinc (j := 9) (v := (v9 + (1 : Int32))) (L' := [(9, .int (v9 + (1 : Int32))), (8, .int (0 : Int32)), (27, .int s0), (0, .ref p0), (2, .int v2), (3, .int v3), (4, .int v4), (5, .int v5), (6, .int v6), (7, .int v7), (10, .int v10), (11, .int v11), (13, .int v13), (14, .int v14), (23, .int v23), (24, .int v24), (25, .int v25), (26, .int v26)]) C0 dL_days_898 rfl rfl (by decide) rfl ?_
    refine r_goto C0 92 dL_days_901 (by decide) ?_
    refine r_sub (L' := [(0, .ref p0), (2, .int v2), (3, .int v3), (4, .int v4), (5, .int v5), (6, .int v6), (7, .int v7), (8, .int (0 : Int32)), (9, .int (v9 + (1 : Int32)))]) [3, 4, 5, 6, 7, 8, 9, 1, 0] rfl ?_
    exact hk_k_92 v2 v3 v4 v5 v6 v7 (0 : Int32) (v9 + (1 : Int32)) M _ hf _ (by omega)
  · refine r_iload C0 dL_days_713 15 rfl ?_
    refine r_iconst (v := 1) C0 dL_days_715 (by decide) ?_
    refine r_icmp_ne C0 723 dL_days_716 (by decide) hf (fun hf => ?_) (fun hf => ?_)
    · refine r_iconst (v := 0) C0 dL_days_723 (by decide) ?_
      refine r_sub (L' := [(0, .ref p0), (2, .int v2), (3, .int v3), (4, .int v4), (5, .int v5), (6, .int v6), (7, .int v7), (9, .int v9), (10, .int v10), (11, .int v11), (13, .int v13), (14, .int v14), (23, .int v23), (24, .int v24), (25, .int v25), (26, .int v26), (27, .int s0)]) [1, 2, 3, 4, 5, 6, 7, 9, 10, 11, 12, 13, 14, 15, 16, 17, 0] rfl ?_
      exact g_L_days_724 C0 F p0 p1 k_92 TK_92 hk_p0 hk_k_92 v2 v3 v4 v5 v6 v7 v9 v10 v11 v13 v14 v23 v24 v25 v26 s0 (0 : Int32) M _ hf _ (by omega)
    · refine r_iconst (v := 1) C0 dL_days_719 (by decide) ?_
      refine r_goto C0 724 dL_days_720 (by decide) ?_
      refine r_sub (L' := [(0, .ref p0), (2, .int v2), (3, .int v3), (4, .int v4), (5, .int v5), (6, .int v6), (7, .int v7), (9, .int v9), (10, .int v10), (11, .int v11), (13, .int v13), (14, .int v14), (23, .int v23), (24, .int v24), (25, .int v25), (26, .int v26), (27, .int s0)]) [1, 2, 3, 4, 5, 6, 7, 9, 10, 11, 12, 13, 14, 15, 16, 17, 0] rfl ?_
      exact g_L_days_724 C0 F p0 p1 k_92 TK_92 hk_p0 hk_k_92 v2 v3 v4 v5 v6 v7 v9 v10 v11 v13 v14 v23 v24 v25 v26 s0 (1 : Int32) M _ hf _ (by omega)
set_option maxHeartbeats 4000000 in
set_option maxRecDepth 100000 in
theorem g_L_days_592 {Γ : zCx} {E : zEn} {S : zSk} {X : zMl} (C0 : zCt Γ E RL cL_days 28 (Option.some Jvm.ClassFile.FieldType.boolean) [] { frames := 10, cells := 7635, slots := 45810, locals := 185 }) (F : Nat) (p0 : Nat) (p1 : Int32) (k_92 : Int32 → Int32 → Int32 → Int32 → Int32 → Int32 → Int32 → Int32 → zMi → Option (Int32 × zMi)) (TK_92 : Nat) (hk_p0 : K_X10 S p0) (hk_k_92 : ∀ (v2_ : Int32) (v3_ : Int32) (v4_ : Int32) (v5_ : Int32) (v6_ : Int32) (v7_ : Int32) (v8_ : Int32) (v9_ : Int32) (M : zMi) (r : Int32 × zMi) , k_92 v2_ v3_ v4_ v5_ v6_ v7_ v8_ v9_ M = some r → ∀ kc : Nat, kc + TK_92 ≤ 7635 → zG Γ (zQX Γ E 7635 45810 S (.inr (some (.int r.1)), r.2) X) E 28 kc (6 * kc) S ZT M X 92 [(0, .ref p0), (2, .int v2_), (3, .int v3_), (4, .int v4_), (5, .int v5_), (6, .int v6_), (7, .int v7_), (8, .int v8_), (9, .int v9_)] [])  (v2 : Int32) (v3 : Int32) (v4 : Int32) (v5 : Int32) (v6 : Int32) (v7 : Int32) (v9 : Int32) (v17 : Int32) (v24 : Int32) (M : zMi) (r : Int32 × zMi) (hf : f_L_days_592 F p0 p1 k_92 v2 v3 v4 v5 v6 v7 v9 v17 v24 M = some r) (kc : Nat) (hkc : kc + (3 + TK_92) ≤ 7635) : zG Γ (zQX Γ E 7635 45810 S (.inr (some (.int r.1)), r.2) X) E 28 kc (6 * kc) S ZT M X 592 [(0, .ref p0), (2, .int v2), (3, .int v3), (4, .int v4), (5, .int v5), (6, .int v6), (7, .int v7), (9, .int v9), (17, .int v17), (24, .int v24)] [] := by
  unfold f_L_days_592 at hf
  refine r_iload C0 dL_days_592 9 rfl ?_
  refine r_if_ne C0 647 dL_days_594 (by decide) hf (fun hf => ?_) (fun hf => ?_)
  · refine r_iconst (v := 1) C0 dL_days_647 (by decide) ?_
    refine r_goto C0 652 dL_days_648 (by decide) ?_
    refine r_istore (L' := [(8, .int (1 : Int32)), (0, .ref p0), (2, .int v2), (3, .int v3), (4, .int v4), (5, .int v5), (6, .int v6), (7, .int v7), (9, .int v9), (17, .int v17), (24, .int v24)]) C0 dL_days_652 (by decide) rfl ?_
    refine r_goto C0 898 dL_days_654 (by decide) ?_
    refine r_iinc (j := 8) (v := (v9 + (1 : Int32))) (L' := [(9, .int (v9 + (1 : Int32))), (8, .int (1 : Int32)), (0, .ref p0), (2, .int v2), (3, .int v3), (4, .int v4), (5, .int v5), (6, .int v6), (7, .int v7), (17, .int v17), (24, .int v24)]) C0 dL_days_898 rfl rfl (by decide) rfl ?_
    refine r_goto C0 92 dL_days_901 (by decide) ?_
    refine r_sub (L' := [(0, .ref p0), (2, .int v2), (3, .int v3), (4, .int v4), (5, .int v5), (6, .int v6), (7, .int v7), (8, .int (1 : Int32)), (9, .int (v9 + (1 : Int32)))]) [2, 3, 4, 5, 6, 7, 8, 1, 0] rfl ?_
    exact hk_k_92 v2 v3 v4 v5 v6 v7 (1 : Int32) (v9 + (1 : Int32)) M _ hf _ (by omega)
  · refine r_aload_n C0 dL_days_597 rfl 0 rfl ?_
    refine r_iconst (v := 3) C0 dL_days_598 (by decide) ?_
    refine r_callWp C0 (st := []) (kc1 := kc + 1) [.ref p0, .int (3 : Int32)] hf vs_159 (fun hl r1 hr1 => c_L_tryAbout hl F p0 (3 : Int32) hk_p0 M r1 hr1) rfl rfl (Nat.le_of_ble_eq_true rfl) dL_days_599 (zrm_k 7635 rfl (by omega)) (by omega) (fun r1 hr1 hf => ?_)
    refine r_iconst (v := 1) C0 dL_days_602 (by decide) ?_
    refine r_icmp_ne C0 631 dL_days_603 (by decide) hf (fun hf => ?_) (fun hf => ?_)
    · refine r_aload_n C0 dL_days_631 rfl 0 rfl ?_
      refine r_bipush (v := 11) C0 dL_days_632 (by decide) ?_
      refine r_callWp C0 (st := []) (kc1 := kc + 2) [.ref p0, .int (11 : Int32)] hf vs_159 (fun hl r2 hr2 => c_L_tryAbout hl F p0 (11 : Int32) hk_p0 M r2 hr2) rfl rfl (Nat.le_of_ble_eq_true rfl) dL_days_634 (zrm_k 7635 rfl (by omega)) (by omega) (fun r2 hr2 hf => ?_)
      refine r_aload_n C0 dL_days_637 rfl 0 rfl ?_
      refine r_iconst (v := 3) C0 dL_days_638 (by decide) ?_
      refine r_callWp C0 (st := [.int r2]) (kc1 := kc + 3) [.ref p0, .int (3 : Int32)] hf vs_159 (fun hl r3 hr3 => c_L_tryAbout hl F p0 (3 : Int32) hk_p0 M r3 hr3) rfl rfl (Nat.le_of_ble_eq_true rfl) dL_days_639 (zrm_k 7635 rfl (by omega)) (by omega) (fun r3 hr3 hf => ?_)
      refine r_iconst (v := 1) C0 dL_days_642 (by decide) ?_
      refine r_isub C0 dL_days_643 ?_
      refine r_icmp_ne C0 651 dL_days_644 (by decide) hf (fun hf => ?_) (fun hf => ?_)
      · refine r_iconst (v := 0) C0 dL_days_651 (by decide) ?_
        refine r_istore (L' := [(8, .int (0 : Int32)), (0, .ref p0), (2, .int v2), (3, .int v3), (4, .int v4), (5, .int v5), (6, .int v6), (7, .int v7), (9, .int v9), (17, .int v17), (24, .int v24)]) C0 dL_days_652 (by decide) rfl ?_
        refine r_goto C0 898 dL_days_654 (by decide) ?_
        refine r_iinc (j := 8) (v := (v9 + (1 : Int32))) (L' := [(9, .int (v9 + (1 : Int32))), (8, .int (0 : Int32)), (0, .ref p0), (2, .int v2), (3, .int v3), (4, .int v4), (5, .int v5), (6, .int v6), (7, .int v7), (17, .int v17), (24, .int v24)]) C0 dL_days_898 rfl rfl (by decide) rfl ?_
        refine r_goto C0 92 dL_days_901 (by decide) ?_
        refine r_sub (L' := [(0, .ref p0), (2, .int v2), (3, .int v3), (4, .int v4), (5, .int v5), (6, .int v6), (7, .int v7), (8, .int (0 : Int32)), (9, .int (v9 + (1 : Int32)))]) [2, 3, 4, 5, 6, 7, 8, 1, 0] rfl ?_
        exact hk_k_92 v2 v3 v4 v5 v6 v7 (0 : Int32) (v9 + (1 : Int32)) M _ hf _ (by omega)
      · refine r_iconst (v := 1) C0 dL_days_647 (by decide) ?_
        refine r_goto C0 652 dL_days_648 (by decide) ?_
        refine r_istore (L' := [(8, .int (1 : Int32)), (0, .ref p0), (2, .int v2), (3, .int v3), (4, .int v4), (5, .int v5), (6, .int v6), (7, .int v7), (9, .int v9), (17, .int v17), (24, .int v24)]) C0 dL_days_652 (by decide) rfl ?_
        refine r_goto C0 898 dL_days_654 (by decide) ?_
        refine r_iinc (j := 8) (v := (v9 + (1 : Int32))) (L' := [(9, .int (v9 + (1 : Int32))), (8, .int (1 : Int32)), (0, .ref p0), (2, .int v2), (3, .int v3), (4, .int v4), (5, .int v5), (6, .int v6), (7, .int v7), (17, .int v17), (24, .int v24)]) C0 dL_days_898 rfl rfl (by decide) rfl ?_
        refine r_goto C0 92 dL_days_901 (by decide) ?_
        refine r_sub (L' := [(0, .ref p0), (2, .int v2), (3, .int v3), (4, .int v4), (5, .int v5), (6, .int v6), (7, .int v7), (8, .int (1 : Int32)), (9, .int (v9 + (1 : Int32)))]) [2, 3, 4, 5, 6, 7, 8, 1, 0] rfl ?_
        exact hk_k_92 v2 v3 v4 v5 v6 v7 (1 : Int32) (v9 + (1 : Int32)) M _ hf _ (by omega)
    · refine r_aload_n C0 dL_days_606 rfl 0 rfl ?_
      refine r_bipush (v := 12) C0 dL_days_607 (by decide) ?_
      refine r_callWp C0 (st := []) (kc1 := kc + 2) [.ref p0, .int (12 : Int32)] hf vs_159 (fun hl r4 hr4 => c_L_tryAbout hl F p0 (12 : Int32) hk_p0 M r4 hr4) rfl rfl (Nat.le_of_ble_eq_true rfl) dL_days_609 (zrm_k 7635 rfl (by omega)) (by omega) (fun r4 hr4 hf => ?_)
      refine r_iload C0 dL_days_612 8 rfl ?_
      refine r_iconst (v := 1) C0 dL_days_614 (by decide) ?_
      refine r_iadd C0 dL_days_615 ?_
      refine r_icmp_ne C0 651 dL_days_616 (by decide) hf (fun hf => ?_) (fun hf => ?_)
      · refine r_iconst (v := 0) C0 dL_days_651 (by decide) ?_
        refine r_istore (L' := [(8, .int (0 : Int32)), (0, .ref p0), (2, .int v2), (3, .int v3), (4, .int v4), (5, .int v5), (6, .int v6), (7, .int v7), (9, .int v9), (17, .int v17), (24, .int v24)]) C0 dL_days_652 (by decide) rfl ?_
        refine r_goto C0 898 dL_days_654 (by decide) ?_
        refine r_iinc (j := 8) (v := (v9 + (1 : Int32))) (L' := [(9, .int (v9 + (1 : Int32))), (8, .int (0 : Int32)), (0, .ref p0), (2, .int v2), (3, .int v3), (4, .int v4), (5, .int v5), (6, .int v6), (7, .int v7), (17, .int v17), (24, .int v24)]) C0 dL_days_898 rfl rfl (by decide) rfl ?_
        refine r_goto C0 92 dL_days_901 (by decide) ?_
        refine r_sub (L' := [(0, .ref p0), (2, .int v2), (3, .int v3), (4, .int v4), (5, .int v5), (6, .int v6), (7, .int v7), (8, .int (0 : Int32)), (9, .int (v9 + (1 : Int32)))]) [2, 3, 4, 5, 6, 7, 8, 1, 0] rfl ?_
        exact hk_k_92 v2 v3 v4 v5 v6 v7 (0 : Int32) (v9 + (1 : Int32)) M _ hf _ (by omega)
      · refine r_aload_n C0 dL_days_619 rfl 0 rfl ?_
        refine r_bipush (v := 10) C0 dL_days_620 (by decide) ?_
        refine r_callWp C0 (st := []) (kc1 := kc + 3) [.ref p0, .int (10 : Int32)] hf vs_159 (fun hl r5 hr5 => c_L_tryAbout hl F p0 (10 : Int32) hk_p0 M r5 hr5) rfl rfl (Nat.le_of_ble_eq_true rfl) dL_days_622 (zrm_k 7635 rfl (by omega)) (by omega) (fun r5 hr5 hf => ?_)
        refine r_if_ne C0 651 dL_days_625 (by decide) hf (fun hf => ?_) (fun hf => ?_)
        · refine r_iconst (v := 0) C0 dL_days_651 (by decide) ?_
          refine r_istore (L' := [(8, .int (0 : Int32)), (0, .ref p0), (2, .int v2), (3, .int v3), (4, .int v4), (5, .int v5), (6, .int v6), (7, .int v7), (9, .int v9), (17, .int v17), (24, .int v24)]) C0 dL_days_652 (by decide) rfl ?_
          refine r_goto C0 898 dL_days_654 (by decide) ?_
          refine r_iinc (j := 8) (v := (v9 + (1 : Int32))) (L' := [(9, .int (v9 + (1 : Int32))), (8, .int (0 : Int32)), (0, .ref p0), (2, .int v2), (3, .int v3), (4, .int v4), (5, .int v5), (6, .int v6), (7, .int v7), (17, .int v17), (24, .int v24)]) C0 dL_days_898 rfl rfl (by decide) rfl ?_
          refine r_goto C0 92 dL_days_901 (by decide) ?_
          refine r_sub (L' := [(0, .ref p0), (2, .int v2), (3, .int v3), (4, .int v4), (5, .int v5), (6, .int v6), (7, .int v7), (8, .int (0 : Int32)), (9, .int (v9 + (1 : Int32)))]) [2, 3, 4, 5, 6, 7, 8, 1, 0] rfl ?_
          exact hk_k_92 v2 v3 v4 v5 v6 v7 (0 : Int32) (v9 + (1 : Int32)) M _ hf _ (by omega)
        · refine r_goto C0 647 dL_days_628 (by decide) ?_
          refine r_iconst (v := 1) C0 dL_days_647 (by decide) ?_
          refine r_goto C0 652 dL_days_648 (by decide) ?_
          refine r_istore (L' := [(8, .int (1 : Int32)), (0, .ref p0), (2, .int v2), (3, .int v3), (4, .int v4), (5, .int v5), (6, .int v6), (7, .int v7), (9, .int v9), (17, .int v17), (24, .int v24)]) C0 dL_days_652 (by decide) rfl ?_
          refine r_goto C0 898 dL_days_654 (by decide) ?_
          refine r_iinc (j := 8) (v := (v9 + (1 : Int32))) (L' := [(9, .int (v9 + (1 : Int32))), (8, .int (1 : Int32)), (0, .ref p0), (2, .int v2), (3, .int v3), (4, .int v4), (5, .int v5), (6, .int v6), (7, .int v7), (17, .int v17), (24, .int v24)]) C0 dL_days_898 rfl rfl (by decide) rfl ?_
          refine r_goto C0 92 dL_days_901 (by decide) ?_
          refine r_sub (L' := [(0, .ref p0), (2, .int v2), (3, .int v3), (4, .int v4), (5, .int v5), (6, .int v6), (7, .int v7), (8, .int (1 : Int32)), (9, .int (v9 + (1 : Int32)))]) [2, 3, 4, 5, 6, 7, 8, 1, 0] rfl ?_
          exact hk_k_92 v2 v3 v4 v5 v6 v7 (1 : Int32) (v9 + (1 : Int32)) M _ hf _ (by omega)
set_option maxHeartbeats 4000000 in
set_option maxRecDepth 100000 in
theorem g_L_days_576 {Γ : zCx} {E : zEn} {S : zSk} {X : zMl} (C0 : zCt Γ E RL cL_days 28 (Option.some Jvm.ClassFile.FieldType.boolean) [] { frames := 10, cells := 7635, slots := 45810, locals := 185 }) (F : Nat) (p0 : Nat) (p1 : Int32) (k_92 : Int32 → Int32 → Int32 → Int32 → Int32 → Int32 → Int32 → Int32 → zMi → Option (Int32 × zMi)) (TK_92 : Nat) (hk_p0 : K_X10 S p0) (hk_k_92 : ∀ (v2_ : Int32) (v3_ : Int32) (v4_ : Int32) (v5_ : Int32) (v6_ : Int32) (v7_ : Int32) (v8_ : Int32) (v9_ : Int32) (M : zMi) (r : Int32 × zMi) , k_92 v2_ v3_ v4_ v5_ v6_ v7_ v8_ v9_ M = some r → ∀ kc : Nat, kc + TK_92 ≤ 7635 → zG Γ (zQX Γ E 7635 45810 S (.inr (some (.int r.1)), r.2) X) E 28 kc (6 * kc) S ZT M X 92 [(0, .ref p0), (2, .int v2_), (3, .int v3_), (4, .int v4_), (5, .int v5_), (6, .int v6_), (7, .int v7_), (8, .int v8_), (9, .int v9_)] [])  (v2 : Int32) (v3 : Int32) (v4 : Int32) (v5 : Int32) (v6 : Int32) (v7 : Int32) (v9 : Int32) (v17 : Int32) (v24 : Int32) (M : zMi) (r : Int32 × zMi) (hf : f_L_days_576 F p0 p1 k_92 v2 v3 v4 v5 v6 v7 v9 v17 v24 M = some r) (kc : Nat) (hkc : kc + (4 + TK_92) ≤ 7635) : zG Γ (zQX Γ E 7635 45810 S (.inr (some (.int r.1)), r.2) X) E 28 kc (6 * kc) S ZT M X 576 [(0, .ref p0), (2, .int v2), (3, .int v3), (4, .int v4), (5, .int v5), (6, .int v6), (7, .int v7), (9, .int v9), (17, .int v17), (24, .int v24)] [] := by
  unfold f_L_days_576 at hf
  refine r_iload C0 dL_days_576 9 rfl ?_
  refine r_iconst (v := 5) C0 dL_days_578 (by decide) ?_
  refine r_icmp_ne C0 592 dL_days_579 (by decide) hf (fun hf => ?_) (fun hf => ?_)
  · refine r_sub (L' := [(0, .ref p0), (2, .int v2), (3, .int v3), (4, .int v4), (5, .int v5), (6, .int v6), (7, .int v7), (9, .int v9), (17, .int v17), (24, .int v24)]) [0, 1, 2, 3, 4, 5, 6, 7, 8, 9] rfl ?_
    exact g_L_days_592 C0 F p0 p1 k_92 TK_92 hk_p0 hk_k_92 v2 v3 v4 v5 v6 v7 v9 v17 v24 M _ hf _ (by omega)
  · refine r_aload_n C0 dL_days_582 rfl 0 rfl ?_
    refine r_bipush (v := 10) C0 dL_days_583 (by decide) ?_
    refine r_callWp C0 (st := []) (kc1 := kc + 1) [.ref p0, .int (10 : Int32)] hf vs_159 (fun hl r1 hr1 => c_L_tryAbout hl F p0 (10 : Int32) hk_p0 M r1 hr1) rfl rfl (Nat.le_of_ble_eq_true rfl) dL_days_585 (zrm_k 7635 rfl (by omega)) (by omega) (fun r1 hr1 hf => ?_)
    refine r_iconst (v := 1) C0 dL_days_588 (by decide) ?_
    refine r_icmp_ne C0 651 dL_days_589 (by decide) hf (fun hf => ?_) (fun hf => ?_)
    · refine r_iconst (v := 0) C0 dL_days_651 (by decide) ?_
      refine r_istore (L' := [(8, .int (0 : Int32)), (0, .ref p0), (2, .int v2), (3, .int v3), (4, .int v4), (5, .int v5), (6, .int v6), (7, .int v7), (9, .int v9), (17, .int v17), (24, .int v24)]) C0 dL_days_652 (by decide) rfl ?_
      refine r_goto C0 898 dL_days_654 (by decide) ?_
      refine r_iinc (j := 8) (v := (v9 + (1 : Int32))) (L' := [(9, .int (v9 + (1 : Int32))), (8, .int (0 : Int32)), (0, .ref p0), (2, .int v2), (3, .int v3), (4, .int v4), (5, .int v5), (6, .int v6), (7, .int v7), (17, .int v17), (24, .int v24)]) C0 dL_days_898 rfl rfl (by decide) rfl ?_
      refine r_goto C0 92 dL_days_901 (by decide) ?_
      refine r_sub (L' := [(0, .ref p0), (2, .int v2), (3, .int v3), (4, .int v4), (5, .int v5), (6, .int v6), (7, .int v7), (8, .int (0 : Int32)), (9, .int (v9 + (1 : Int32)))]) [2, 3, 4, 5, 6, 7, 8, 1, 0] rfl ?_
      exact hk_k_92 v2 v3 v4 v5 v6 v7 (0 : Int32) (v9 + (1 : Int32)) M _ hf _ (by omega)
    · refine r_sub (L' := [(0, .ref p0), (2, .int v2), (3, .int v3), (4, .int v4), (5, .int v5), (6, .int v6), (7, .int v7), (9, .int v9), (17, .int v17), (24, .int v24)]) [0, 1, 2, 3, 4, 5, 6, 7, 8, 9] rfl ?_
      exact g_L_days_592 C0 F p0 p1 k_92 TK_92 hk_p0 hk_k_92 v2 v3 v4 v5 v6 v7 v9 v17 v24 M _ hf _ (by omega)
set_option maxHeartbeats 4000000 in
set_option maxRecDepth 100000 in
theorem g_L_days_529 {Γ : zCx} {E : zEn} {S : zSk} {X : zMl} (C0 : zCt Γ E RL cL_days 28 (Option.some Jvm.ClassFile.FieldType.boolean) [] { frames := 10, cells := 7635, slots := 45810, locals := 185 }) (F : Nat) (p0 : Nat) (p1 : Int32) (k_92 : Int32 → Int32 → Int32 → Int32 → Int32 → Int32 → Int32 → Int32 → zMi → Option (Int32 × zMi)) (TK_92 : Nat) (hk_p0 : K_X10 S p0) (hk_k_92 : ∀ (v2_ : Int32) (v3_ : Int32) (v4_ : Int32) (v5_ : Int32) (v6_ : Int32) (v7_ : Int32) (v8_ : Int32) (v9_ : Int32) (M : zMi) (r : Int32 × zMi) , k_92 v2_ v3_ v4_ v5_ v6_ v7_ v8_ v9_ M = some r → ∀ kc : Nat, kc + TK_92 ≤ 7635 → zG Γ (zQX Γ E 7635 45810 S (.inr (some (.int r.1)), r.2) X) E 28 kc (6 * kc) S ZT M X 92 [(0, .ref p0), (2, .int v2_), (3, .int v3_), (4, .int v4_), (5, .int v5_), (6, .int v6_), (7, .int v7_), (8, .int v8_), (9, .int v9_)] [])  (v2 : Int32) (v3 : Int32) (v4 : Int32) (v5 : Int32) (v6 : Int32) (v7 : Int32) (v9 : Int32) (s0 : Int32) (s1 : Int32) (s2 : Int32) (M : zMi) (r : Int32 × zMi) (hf : f_L_days_529 F p0 p1 k_92 v2 v3 v4 v5 v6 v7 v9 s0 s1 s2 M = some r) (kc : Nat) (hkc : kc + (0 + TK_92) ≤ 7635) : zG Γ (zQX Γ E 7635 45810 S (.inr (some (.int r.1)), r.2) X) E 28 kc (6 * kc) S ZT M X 529 [(0, .ref p0), (2, .int v2), (3, .int v3), (4, .int v4), (5, .int v5), (6, .int v6), (7, .int v7), (9, .int v9)] [.int s0, .int s1, .int s2] := by
  unfold f_L_days_529 at hf
  refine r_iadd C0 dL_days_529 ?_
  refine r_icmp_ne C0 537 dL_days_530 (by decide) hf (fun hf => ?_) (fun hf => ?_)
  · refine r_iconst (v := 0) C0 dL_days_537 (by decide) ?_
    refine r_istore (L' := [(8, .int (0 : Int32)), (0, .ref p0), (2, .int v2), (3, .int v3), (4, .int v4), (5, .int v5), (6, .int v6), (7, .int v7), (9, .int v9)]) C0 dL_days_538 (by decide) rfl ?_
    refine r_goto C0 898 dL_days_540 (by decide) ?_
    refine r_iinc (j := 8) (v := (v9 + (1 : Int32))) (L' := [(9, .int (v9 + (1 : Int32))), (8, .int (0 : Int32)), (0, .ref p0), (2, .int v2), (3, .int v3), (4, .int v4), (5, .int v5), (6, .int v6), (7, .int v7)]) C0 dL_days_898 rfl rfl (by decide) rfl ?_
    refine r_goto C0 92 dL_days_901 (by decide) ?_
    refine r_sub (L' := [(0, .ref p0), (2, .int v2), (3, .int v3), (4, .int v4), (5, .int v5), (6, .int v6), (7, .int v7), (8, .int (0 : Int32)), (9, .int (v9 + (1 : Int32)))]) [2, 3, 4, 5, 6, 7, 8, 1, 0] rfl ?_
    exact hk_k_92 v2 v3 v4 v5 v6 v7 (0 : Int32) (v9 + (1 : Int32)) M _ hf _ (by omega)
  · refine r_iconst (v := 1) C0 dL_days_533 (by decide) ?_
    refine r_goto C0 538 dL_days_534 (by decide) ?_
    refine r_istore (L' := [(8, .int (1 : Int32)), (0, .ref p0), (2, .int v2), (3, .int v3), (4, .int v4), (5, .int v5), (6, .int v6), (7, .int v7), (9, .int v9)]) C0 dL_days_538 (by decide) rfl ?_
    refine r_goto C0 898 dL_days_540 (by decide) ?_
    refine r_iinc (j := 8) (v := (v9 + (1 : Int32))) (L' := [(9, .int (v9 + (1 : Int32))), (8, .int (1 : Int32)), (0, .ref p0), (2, .int v2), (3, .int v3), (4, .int v4), (5, .int v5), (6, .int v6), (7, .int v7)]) C0 dL_days_898 rfl rfl (by decide) rfl ?_
    refine r_goto C0 92 dL_days_901 (by decide) ?_
    refine r_sub (L' := [(0, .ref p0), (2, .int v2), (3, .int v3), (4, .int v4), (5, .int v5), (6, .int v6), (7, .int v7), (8, .int (1 : Int32)), (9, .int (v9 + (1 : Int32)))]) [2, 3, 4, 5, 6, 7, 8, 1, 0] rfl ?_
    exact hk_k_92 v2 v3 v4 v5 v6 v7 (1 : Int32) (v9 + (1 : Int32)) M _ hf _ (by omega)
set_option maxHeartbeats 4000000 in
set_option maxRecDepth 100000 in
theorem g_L_days_440 {Γ : zCx} {E : zEn} {S : zSk} {X : zMl} (C0 : zCt Γ E RL cL_days 28 (Option.some Jvm.ClassFile.FieldType.boolean) [] { frames := 10, cells := 7635, slots := 45810, locals := 185 }) (F : Nat) (p0 : Nat) (p1 : Int32) (k_92 : Int32 → Int32 → Int32 → Int32 → Int32 → Int32 → Int32 → Int32 → zMi → Option (Int32 × zMi)) (TK_92 : Nat) (hk_p0 : K_X10 S p0) (hk_k_92 : ∀ (v2_ : Int32) (v3_ : Int32) (v4_ : Int32) (v5_ : Int32) (v6_ : Int32) (v7_ : Int32) (v8_ : Int32) (v9_ : Int32) (M : zMi) (r : Int32 × zMi) , k_92 v2_ v3_ v4_ v5_ v6_ v7_ v8_ v9_ M = some r → ∀ kc : Nat, kc + TK_92 ≤ 7635 → zG Γ (zQX Γ E 7635 45810 S (.inr (some (.int r.1)), r.2) X) E 28 kc (6 * kc) S ZT M X 92 [(0, .ref p0), (2, .int v2_), (3, .int v3_), (4, .int v4_), (5, .int v5_), (6, .int v6_), (7, .int v7_), (8, .int v8_), (9, .int v9_)] [])  (v2 : Int32) (v3 : Int32) (v4 : Int32) (v5 : Int32) (v6 : Int32) (v7 : Int32) (v9 : Int32) (v23 : Int32) (v24 : Int32) (s0 : Int32) (s1 : Int32) (M : zMi) (r : Int32 × zMi) (hf : f_L_days_440 F p0 p1 k_92 v2 v3 v4 v5 v6 v7 v9 v23 v24 s0 s1 M = some r) (kc : Nat) (hkc : kc + (1 + TK_92) ≤ 7635) : zG Γ (zQX Γ E 7635 45810 S (.inr (some (.int r.1)), r.2) X) E 28 kc (6 * kc) S ZT M X 440 [(0, .ref p0), (2, .int v2), (3, .int v3), (4, .int v4), (5, .int v5), (6, .int v6), (7, .int v7), (9, .int v9), (23, .int v23), (24, .int v24)] [.int s0, .int s1] := by
  unfold f_L_days_440 at hf
  refine r_icmp_ne C0 470 dL_days_440 (by decide) hf (fun hf => ?_) (fun hf => ?_)
  · refine r_iconst (v := 0) C0 dL_days_470 (by decide) ?_
    refine r_istore (L' := [(8, .int (0 : Int32)), (0, .ref p0), (2, .int v2), (3, .int v3), (4, .int v4), (5, .int v5), (6, .int v6), (7, .int v7), (9, .int v9), (23, .int v23), (24, .int v24)]) C0 dL_days_471 (by decide) rfl ?_
    refine r_goto C0 898 dL_days_473 (by decide) ?_
    refine r_iinc (j := 8) (v := (v9 + (1 : Int32))) (L' := [(9, .int (v9 + (1 : Int32))), (8, .int (0 : Int32)), (0, .ref p0), (2, .int v2), (3, .int v3), (4, .int v4), (5, .int v5), (6, .int v6), (7, .int v7), (23, .int v23), (24, .int v24)]) C0 dL_days_898 rfl rfl (by decide) rfl ?_
    refine r_goto C0 92 dL_days_901 (by decide) ?_
    refine r_sub (L' := [(0, .ref p0), (2, .int v2), (3, .int v3), (4, .int v4), (5, .int v5), (6, .int v6), (7, .int v7), (8, .int (0 : Int32)), (9, .int (v9 + (1 : Int32)))]) [2, 3, 4, 5, 6, 7, 8, 1, 0] rfl ?_
    exact hk_k_92 v2 v3 v4 v5 v6 v7 (0 : Int32) (v9 + (1 : Int32)) M _ hf _ (by omega)
  · refine r_iload C0 dL_days_443 9 rfl ?_
    refine r_bipush (v := 6) C0 dL_days_445 (by decide) ?_
    refine r_icmp_ne C0 466 dL_days_447 (by decide) hf (fun hf => ?_) (fun hf => ?_)
    · refine r_iconst (v := 1) C0 dL_days_466 (by decide) ?_
      refine r_goto C0 471 dL_days_467 (by decide) ?_
      refine r_istore (L' := [(8, .int (1 : Int32)), (0, .ref p0), (2, .int v2), (3, .int v3), (4, .int v4), (5, .int v5), (6, .int v6), (7, .int v7), (9, .int v9), (23, .int v23), (24, .int v24)]) C0 dL_days_471 (by decide) rfl ?_
      refine r_goto C0 898 dL_days_473 (by decide) ?_
      refine r_iinc (j := 8) (v := (v9 + (1 : Int32))) (L' := [(9, .int (v9 + (1 : Int32))), (8, .int (1 : Int32)), (0, .ref p0), (2, .int v2), (3, .int v3), (4, .int v4), (5, .int v5), (6, .int v6), (7, .int v7), (23, .int v23), (24, .int v24)]) C0 dL_days_898 rfl rfl (by decide) rfl ?_
      refine r_goto C0 92 dL_days_901 (by decide) ?_
      refine r_sub (L' := [(0, .ref p0), (2, .int v2), (3, .int v3), (4, .int v4), (5, .int v5), (6, .int v6), (7, .int v7), (8, .int (1 : Int32)), (9, .int (v9 + (1 : Int32)))]) [2, 3, 4, 5, 6, 7, 8, 1, 0] rfl ?_
      exact hk_k_92 v2 v3 v4 v5 v6 v7 (1 : Int32) (v9 + (1 : Int32)) M _ hf _ (by omega)
    · refine r_iload C0 dL_days_450 8 rfl ?_
      refine r_if_ne C0 470 dL_days_452 (by decide) hf (fun hf => ?_) (fun hf => ?_)
      · refine r_iconst (v := 0) C0 dL_days_470 (by decide) ?_
        refine r_istore (L' := [(8, .int (0 : Int32)), (0, .ref p0), (2, .int v2), (3, .int v3), (4, .int v4), (5, .int v5), (6, .int v6), (7, .int v7), (9, .int v9), (23, .int v23), (24, .int v24)]) C0 dL_days_471 (by decide) rfl ?_
        refine r_goto C0 898 dL_days_473 (by decide) ?_
        refine r_iinc (j := 8) (v := (v9 + (1 : Int32))) (L' := [(9, .int (v9 + (1 : Int32))), (8, .int (0 : Int32)), (0, .ref p0), (2, .int v2), (3, .int v3), (4, .int v4), (5, .int v5), (6, .int v6), (7, .int v7), (23, .int v23), (24, .int v24)]) C0 dL_days_898 rfl rfl (by decide) rfl ?_
        refine r_goto C0 92 dL_days_901 (by decide) ?_
        refine r_sub (L' := [(0, .ref p0), (2, .int v2), (3, .int v3), (4, .int v4), (5, .int v5), (6, .int v6), (7, .int v7), (8, .int (0 : Int32)), (9, .int (v9 + (1 : Int32)))]) [2, 3, 4, 5, 6, 7, 8, 1, 0] rfl ?_
        exact hk_k_92 v2 v3 v4 v5 v6 v7 (0 : Int32) (v9 + (1 : Int32)) M _ hf _ (by omega)
      · refine r_aload_n C0 dL_days_455 rfl 0 rfl ?_
        refine r_bipush (v := 8) C0 dL_days_456 (by decide) ?_
        refine r_callWp C0 (st := []) (kc1 := kc + 1) [.ref p0, .int (8 : Int32)] hf vs_159 (fun hl r1 hr1 => c_L_tryAbout hl F p0 (8 : Int32) hk_p0 M r1 hr1) rfl rfl (Nat.le_of_ble_eq_true rfl) dL_days_458 (zrm_k 7635 rfl (by omega)) (by omega) (fun r1 hr1 hf => ?_)
        refine r_bipush (v := -9) C0 dL_days_461 (by decide) ?_
        refine r_icmp_ne C0 470 dL_days_463 (by decide) hf (fun hf => ?_) (fun hf => ?_)
        · refine r_iconst (v := 0) C0 dL_days_470 (by decide) ?_
          refine r_istore (L' := [(8, .int (0 : Int32)), (0, .ref p0), (2, .int v2), (3, .int v3), (4, .int v4), (5, .int v5), (6, .int v6), (7, .int v7), (9, .int v9), (23, .int v23), (24, .int v24)]) C0 dL_days_471 (by decide) rfl ?_
          refine r_goto C0 898 dL_days_473 (by decide) ?_
          refine r_iinc (j := 8) (v := (v9 + (1 : Int32))) (L' := [(9, .int (v9 + (1 : Int32))), (8, .int (0 : Int32)), (0, .ref p0), (2, .int v2), (3, .int v3), (4, .int v4), (5, .int v5), (6, .int v6), (7, .int v7), (23, .int v23), (24, .int v24)]) C0 dL_days_898 rfl rfl (by decide) rfl ?_
          refine r_goto C0 92 dL_days_901 (by decide) ?_
          refine r_sub (L' := [(0, .ref p0), (2, .int v2), (3, .int v3), (4, .int v4), (5, .int v5), (6, .int v6), (7, .int v7), (8, .int (0 : Int32)), (9, .int (v9 + (1 : Int32)))]) [2, 3, 4, 5, 6, 7, 8, 1, 0] rfl ?_
          exact hk_k_92 v2 v3 v4 v5 v6 v7 (0 : Int32) (v9 + (1 : Int32)) M _ hf _ (by omega)
        · refine r_iconst (v := 1) C0 dL_days_466 (by decide) ?_
          refine r_goto C0 471 dL_days_467 (by decide) ?_
          refine r_istore (L' := [(8, .int (1 : Int32)), (0, .ref p0), (2, .int v2), (3, .int v3), (4, .int v4), (5, .int v5), (6, .int v6), (7, .int v7), (9, .int v9), (23, .int v23), (24, .int v24)]) C0 dL_days_471 (by decide) rfl ?_
          refine r_goto C0 898 dL_days_473 (by decide) ?_
          refine r_iinc (j := 8) (v := (v9 + (1 : Int32))) (L' := [(9, .int (v9 + (1 : Int32))), (8, .int (1 : Int32)), (0, .ref p0), (2, .int v2), (3, .int v3), (4, .int v4), (5, .int v5), (6, .int v6), (7, .int v7), (23, .int v23), (24, .int v24)]) C0 dL_days_898 rfl rfl (by decide) rfl ?_
          refine r_goto C0 92 dL_days_901 (by decide) ?_
          refine r_sub (L' := [(0, .ref p0), (2, .int v2), (3, .int v3), (4, .int v4), (5, .int v5), (6, .int v6), (7, .int v7), (8, .int (1 : Int32)), (9, .int (v9 + (1 : Int32)))]) [2, 3, 4, 5, 6, 7, 8, 1, 0] rfl ?_
          exact hk_k_92 v2 v3 v4 v5 v6 v7 (1 : Int32) (v9 + (1 : Int32)) M _ hf _ (by omega)
