/-! ===== methods with handlers of their own, which never throw; the law's script ===== -/
def zMW (l : Launch) (E : zEn) (y : MethodName) (b : ByteArray) (maxL : Nat) (ret : Option FieldType) (hh : List (Nat × Nat × Nat × Nat)) (rm : Room) (mc ms : Nat) (av : List Value) (S : zSk) (M : zMi) (X : zMl) (k : Int32) (M' : zMi) (X' : zMl) : Prop :=
  vx_Met l y [.codeWith y b maxL ret hh] rm (zPre E av S ZT M X) (zPost E S ZT (some (.int k)) M' X') (fun _ _ _ => False) mc ms (zlo E)
abbrev zQW (Γ : zCx) (E : zEn) (mc ms : Nat) (S : zSk) (k : Int32) (M' : zMi) (X' : zMl) : State → Prop := vx_MQ (gB Γ) (zPost E S ZT (some (.int k)) M' X') (fun _ _ _ => False) (gA Γ) (gS Γ) mc ms (zlo E)
theorem zMW.intro {E : zEn} {S : zSk} {M : zMi} {X : zMl} {ret : Option FieldType} {l : Launch} {y : MethodName} {b : ByteArray} {maxL : Nat} {hh : List (Nat × Nat × Nat × Nat)} {rm : Room} {mc ms : Nat} {av : List Value} {k : Int32} {M' : zMi} {X' : zMl} {L0 : List (Nat × Value)} (hl : l.stackTraces = false) (hy : plainName y.cls = true) (hav : (lg_sl av).length ≤ maxL) (hL0 : lv_args 0 av = L0)
    (body : ∀ Γ : zCx, zCt Γ E y.cls b maxL ret hh rm → zG Γ (zQW Γ E mc ms S k M' X') E maxL 0 0 S ZT M X 0 L0 []) : zMW l E y b maxL ret hh rm mc ms av S M X k M' X' := by
  refine vx_ofWH (cc := b) (maxL := maxL) (ret := ret) (hh := hh) hy rfl ?_
  intro p e s m args below meth c s₁ B hml hv
  obtain ⟨rfl, hz, hP, hK⟩ := hv
  have hl0 := lv_entry av (n := maxL) hav
  rw [hL0] at hl0
  rw [lg_entry_eq]
  have hw := atoms_spec (ws := [.codeWith y b maxL ret hh]) B.pre _ List.mem_cons_self
  have hC : zCt (p, l, e, rm, s, m, av.toArray, below, meth, c) E y.cls b maxL ret hh rm :=
    ⟨B.exec, B.bytes, hml, findClass_of_methodNamed B.named, B.returns, B.notSynchronized, fun w hw => zw_at (State.WarmedH.refl s) (List.mem_filter.mp hw).2 (hK.2.2.1 w hw), hK, vx_table (x := y) B hw, hl, rfl⟩
  exact body (p, l, e, rm, s, m, av.toArray, below, meth, c) hC _ s.heap [] hl0 hz hP va_S.rf
theorem zrm_of {rm' rm : Room} {maxL mc ms kc ks : Nat} (h1 : rm'.frames + 1 ≤ rm.frames) (h2 : 8 + (maxL + 11) + rm'.locals ≤ rm.locals) (h3 : kc + mc ≤ rm.cells) (h4 : ks + ms ≤ rm.slots) (h5 : rm'.cells = mc) (h6 : rm'.slots = ms) : zrm rm' rm maxL mc ms kc ks := ⟨h1, h2, h3, h4, h5, h6⟩
section ZW
variable {Γ : zCx} {Q : State → Prop} {E : zEn} {nL kc ks : Nat} {S : zSk} {M : zMi} {X : zMl} {pc : Nat} {L : List (Nat × Value)} {st : List Value} {own : String} {cc : ByteArray} {ret : Option FieldType} {hh : List (Nat × Nat × Nat × Nat)} {rm : Room}
theorem rW_iret (C0 : zCt Γ E own cc nL (some .int) hh rm) {v : Int32} (d : decode cc pc = .ok (.ireturn, 1)) : zG Γ (zQW Γ E kc ks S v M X) E nL kc ks S ZT M X pc L [.int v] := by
  obtain ⟨hx, hb, hml, hown, hr, hlk, hts, hKK, hht, htr, hrm⟩ := C0
  intro ls H locs hl hz hP hS
  exact vx_ret (W.iret hx hb hr (fun t ht _ => ⟨rfl, trivial, by rw [ht]; exact hP, hS.F ht⟩) hS.2.2 d hlk)
theorem rW_catch (C0 : zCt Γ E own cc nL ret hh rm) {e : Nat} (pre : List (Nat × Nat × Nat × Nat)) (x : Nat × Nat × Nat × Nat) (suf : List (Nat × Nat × Nat × Nat)) (hsp : hh = pre ++ x :: suf) (hpass : ∀ z ∈ pre, z.2.2.2 ≠ 0 ∧ ∃ e1 : Nat, Cond.classLink own z.2.2.2 (zex e1) ∈ zWs ∧ (zex e, zex e1) ∈ zNcs) (hx0 : covers ⟨x.1, x.2.1, x.2.2.1, x.2.2.2⟩ pc = true) (h0 : x.2.2.2 ≠ 0) (h1 : Cond.classLink own x.2.2.2 (zex e) ∈ zWs) (h2 : Cond.castable (zex e) (zex e) ∈ zWs) (k : ∀ q : Nat, zG Γ Q E nL kc ks S ZT M X x.2.2.1 L [.ref q]) : zGX Γ Q E nL kc ks S M X pc L e := by
  obtain ⟨hx, hb, hml, hown, hr, hlk, hts, hKK, hht, htr, hrm⟩ := C0
  intro ls H locs q ce rest hl hP hS g1 g2 g3
  refine vx_catch hown (tableOf pre) ⟨x.1, x.2.1, x.2.2.1, x.2.2.2⟩ (tableOf suf) (by rw [hht, hsp]; simp [tableOf]) ?_ hx0 h0 (hts _ h1) (hts _ h2) g1 g2 g3 (k q ls H locs hl trivial hP hS)
  intro z hz
  obtain ⟨y, hy, rfl⟩ := List.mem_map.mp hz
  obtain ⟨a0, e1, a1, a2⟩ := hpass y hy
  exact Or.inr ⟨a0, _, hts _ a1, hKK.2.2.2.2.2.2 _ a2⟩
theorem r_callSW (C0 : zCt Γ E own cc nL ret hh rm) {β : Type} {f : Option (Int32 × zMi × zMl)} {K : Int32 × zMi × zMl → Option β} {r : β} {y : MethodName} {b1 : ByteArray} {maxL1 : Nat} {ret1 : Option FieldType} {hh1 : List (Nat × Nat × Nat × Nat)} {rm1 : Room} {mc ms n index : Nat} {stk : List Value} (As : List Value) (hf : cal f K = some r) (hcv : zcsW own index y b1 maxL1 ret1 hh1 n) (hM : (gL Γ).stackTraces = false → ∀ r1, f = some r1 → zMW (gL Γ) E y b1 maxL1 ret1 hh1 rm1 mc ms As S M X r1.1 r1.2.1 r1.2.2) (hn : As.length = n) (hst : stk = As.reverse ++ st) (hrt : (st.map fun v => v.category).sum ≤ 8) (d : decode cc pc = .ok (.invokestatic index, 3)) (hroom : zrm rm1 rm maxL1 mc ms kc ks) (k : ∀ r1, f = some r1 → K r1 = some r → zG Γ Q E nL (kc + mc) (ks + ms) S ZT r1.2.1 r1.2.2 (pc + 3) L (.int r1.1 :: st)) : zG Γ Q E nL kc ks S ZT M X pc L stk := by
  obtain ⟨hx, hb, hml, hown, hr, hlk, hts, hKK, hht, htr, hrm⟩ := C0
  obtain ⟨r1, e1, hf⟩ := cal_some hf
  obtain ⟨g1, g2, g3, g4, g5, g6⟩ := hcv
  obtain ⟨i1, i2, i3, i4, i5, i6⟩ := hroom
  subst hst
  intro ls H locs hl hz hP hS
  have hc : ∀ w ∈ [Cond.codeWith y b1 maxL1 ret1 hh1], ∀ (a' : Array Value) (U : State), (gS Γ).WarmedH U.vm → w.before a' U = true := fun w hw a' U hW => by
    rw [List.mem_singleton] at hw
    subst hw
    exact zw_at hW (List.mem_filter.mp g1).2 (hts _ g1)
  have hp : PreS (gS Γ) H (zPre E As S ZT M X) As := ⟨zPre.blind, fun U hU hW => ⟨rfl, trivial, by rw [hU]; exact hP, hKK.warm hW (by rw [hU]; exact hS.1) (fun q h1 h2 => by rw [hU]; exact hS.2.1 q h1 h2)⟩⟩
  have hrun := vx_runSX (p := gP Γ) (l := gL Γ) (e := gE Γ) (R := gR Γ) (s := gS Γ) (m := gM Γ) (args := gA Γ) (below := gB Γ) (meth := gH Γ) (c := gC Γ) (Ts := zWs) (cells := kc) (slots := ks) (locs := locs) (H := H) (g := F0 (gM Γ) pc ls (As.reverse ++ st)) (rest := st) ⟨hx, hb, hml, hown, hts⟩ (hM htr r1 e1) ⟨⟨i5, i6, by rw [hrm]; exact i1, by rw [hrm]; exact i2, hc, List.mem_cons_self⟩, hts _ g1, hts _ g2, g3, zlen g4, hts _ g5, hts _ g6⟩ hp rfl hn hl.1 rfl (lv_room hrt) d ⟨by rw [hrm]; exact i3, by rw [hrm]; exact i4⟩
  intro T hT X9
  rcases hrun T hT X9 with ⟨v, st₀, t, T', L, h0, X', hL, a1, a2, ⟨hv, hz', hP', hF⟩, hst⟩ | ⟨q, st₀, t, T', L, E9, ce, h0, X', hL, a1, a2, hbad, -⟩
  · cases hv
    obtain ⟨k1, k2, k3⟩ := vx_keep h0 a1 hS (fun q _ h => h) (fun q h => h) hL hF
    obtain ⟨t2, b1, b2⟩ := k r1 e1 hf ls T'.heap (locs ++ L) hl trivial (by rw [a1]; exact hP') k3 T' rfl X'
    exact ⟨t2, hst t2 b1, b2⟩
  · exact hbad.elim
theorem r_slen (C0 : zCt Γ E own cc nL ret hh rm) {Z : Nat → Prop} {b len : Nat} {xs : Nat → Int32} (hX : va_X b len xs (gS Γ) (gS Γ).heap) (hbl : b < (gS Γ).heap.size) (hbA : ¬ E.2.2 ≤ b) (d : decode cc pc = .ok (.arraylength, 1)) (k : zG Γ Q E nL kc ks S Z M X (pc + 1) L (.int (Int32.ofNat len) :: st)) : zG Γ Q E nL kc ks S Z M X pc L (.ref b :: st) := by
  obtain ⟨hx, hb, hml, hown, hr, hlk, hts, hKK, hht, htr, hrm⟩ := C0
  intro ls H locs hl hz hP hS
  exact va_slen hx hb hX hbl hbA hS d (k ls H locs hl hz hP hS)
theorem r_sld (C0 : zCt Γ E own cc nL ret hh rm) {Z : Nat → Prop} {β : Type} {A : Option β} {r : β} {b len : Nat} {xs : Nat → Int32} {i : Int32} (hX : va_X b len xs (gS Γ) (gS Γ).heap) (hbl : b < (gS Γ).heap.size) (hbA : ¬ E.2.2 ≤ b) (hf : grd (inb i len) A = some r) (d : decode cc pc = .ok (.iaload, 1)) (k : A = some r → zG Γ Q E nL kc ks S Z M X (pc + 1) L (.int (xs (ix i)) :: st)) : zG Γ Q E nL kc ks S Z M X pc L (.int i :: .ref b :: st) := by
  obtain ⟨hx, hb, hml, hown, hr, hlk, hts, hKK, hht, htr, hrm⟩ := C0
  obtain ⟨g, hf⟩ := grd_some hf
  intro ls H locs hl hz hP hS
  exact va_sld hx hb hX hbl hbA hS (inb_in g) d (k hf ls H locs hl hz hP hS)
end ZW
/-! ===== the law's own methods: their room by cells (six slots each); the law's script as an argument ===== -/
def zrmBk (rm1 rm : Room) (maxL mc MC : Nat) : Bool := Nat.ble (rm1.frames + 1) rm.frames && (Nat.ble (8 + (maxL + 11) + rm1.locals) rm.locals && (Nat.ble MC rm.cells && (Nat.ble (6 * MC) rm.slots && (Nat.beq rm1.cells mc && Nat.beq rm1.slots (6 * mc)))))
theorem zrm_k {rm1 rm : Room} {maxL mc kc : Nat} (MC : Nat) (h : zrmBk rm1 rm maxL mc MC = true) (hk : kc + mc ≤ MC) : zrm rm1 rm maxL mc (6 * mc) kc (6 * kc) := by
  simp only [zrmBk, Bool.and_eq_true] at h
  obtain ⟨h1, h2, h3, h4, h5, h6⟩ := h
  have h3 := Nat.le_of_ble_eq_true h3
  have h4 := Nat.le_of_ble_eq_true h4
  exact ⟨Nat.le_of_ble_eq_true h1, Nat.le_of_ble_eq_true h2, by omega, by omega, Nat.eq_of_beq_eq_true h5, Nat.eq_of_beq_eq_true h6⟩
def zPreS (E : zEn) (b len : Nat) (xs : Nat → Int32) (av : List Value) (S : zSk) (M : zMi) (X : zMl) : Array Value → State → Prop := fun v U => zPre E av S ZT M X v U ∧ va_X b len xs U U.heap ∧ b < U.heap.size
theorem zPreS.blind {E : zEn} {b len : Nat} {xs : Nat → Int32} {av : List Value} {S : zSk} {M : zMi} {X : zMl} : FrameBlind (zPreS E b len xs av S M X) := fun a U g mk q => by
  obtain ⟨h1, h2, h3⟩ := q
  exact ⟨zPre.blind a U g mk h1, va_X.moved (u := U) (State.WarmedH.refl U).alike h2, h3⟩
def zMS (l : Launch) (E : zEn) (y : MethodName) (b1 : ByteArray) (maxL : Nat) (ret : Option FieldType) (rm : Room) (mc ms : Nat) (av : List Value) (b len : Nat) (xs : Nat → Int32) (S : zSk) (M : zMi) (X : zMl) (res : zRs) : Prop :=
  vx_Met l y [.code y b1 maxL ret] rm (zPreS E b len xs av S M X) (zQc E S X res) (zXC E S X res) mc ms (zlo E)
theorem zMS.intro {E : zEn} {S : zSk} {M : zMi} {X : zMl} {ret : Option FieldType} {l : Launch} {y : MethodName} {b1 : ByteArray} {maxL : Nat} {rm : Room} {mc ms : Nat} {av : List Value} {b len : Nat} {xs : Nat → Int32} {res : zRs} {L0 : List (Nat × Value)} (hl : l.stackTraces = false) (hy : plainName y.cls = true) (hav : (lg_sl av).length ≤ maxL) (hL0 : lv_args 0 av = L0)
    (body : ∀ Γ : zCx, zCt Γ E y.cls b1 maxL ret [] rm → va_X b len xs (gS Γ) (gS Γ).heap → b < (gS Γ).heap.size → zG Γ (zQX Γ E mc ms S res X) E maxL 0 0 S ZT M X 0 L0 []) : zMS l E y b1 maxL ret rm mc ms av b len xs S M X res := by
  refine vx_ofW (cc := b1) (maxL := maxL) (ret := ret) hy rfl ?_
  intro p e s m args below meth c s₁ B hml _ hv
  obtain ⟨⟨rfl, hz, hP, hK⟩, hX, hbl⟩ := hv
  have hl0 := lv_entry av (n := maxL) hav
  rw [hL0] at hl0
  rw [lg_entry_eq]
  exact body (p, l, e, rm, s, m, av.toArray, below, meth, c) (zCt.of hl B hml hK) hX hbl _ s.heap [] hl0 hz hP va_S.rf
section ZL
variable {Γ : zCx} {Q : State → Prop} {E : zEn} {nL kc ks kc1 : Nat} {S : zSk} {M : zMi} {X : zMl} {pc : Nat} {L : List (Nat × Value)} {st : List Value} {own : String} {cc : ByteArray} {ret : Option FieldType} {hh : List (Nat × Nat × Nat × Nat)} {rm : Room} {res : zRs}
theorem r_ldc (C0 : zCt Γ E own cc nL ret hh rm) {Z : Nat → Prop} {index : Nat} {v : Int32} (hw : Cond.constant own index v ∈ zWs) (d : decode cc pc = .ok (.ldc index, 2)) (k : zG Γ Q E nL kc ks S Z M X (pc + 2) L (.int v :: st)) : zG Γ Q E nL kc ks S Z M X pc L st := by
  obtain ⟨hx, hb, hml, hown, hr, hlk, hts, hKK, hht, htr, hrm⟩ := C0
  intro ls H locs hl hz hP hS
  exact lv_ldc hx hb hown (hts _ hw) d (k ls H locs hl hz hP hS)
theorem r_ior (C0 : zCt Γ E own cc nL ret hh rm) {Z : Nat → Prop} {x y : Int32} (d : decode cc pc = .ok (.ior, 1)) (k : zG Γ Q E nL kc ks S Z M X (pc + 1) L (.int (x ||| y) :: st)) : zG Γ Q E nL kc ks S Z M X pc L (.int y :: .int x :: st) := by
  obtain ⟨hx, hb, hml, hown, hr, hlk, hts, hKK, hht, htr, hrm⟩ := C0
  intro ls H locs hl hz hP hS
  exact lv_ior hx hb d (k ls H locs hl hz hP hS)
theorem rX_zret (C0 : zCt Γ E own cc nL (some .boolean) hh rm) {v : Int32} (hv : zb v = true) (hres : res = (.inr (some (.int v)), M)) (d : decode cc pc = .ok (.ireturn, 1)) : zG Γ (zQX Γ E kc ks S res X) E nL kc ks S ZT M X pc L [.int v] := by
  obtain ⟨hx, hb, hml, hown, hr, hlk, hts, hKK, hht, htr, hrm⟩ := C0
  subst hres
  intro ls H locs hl hz hP hS
  exact vx_ret (W.zret hx hb hr (zb_nar hv) (fun t ht _ => ⟨_, rfl, rfl, trivial, by rw [ht]; exact hP, hS.F ht⟩) hS.2.2 d hlk)
theorem r_callA0 (C0 : zCt Γ E own cc nL ret hh rm) {M1 : zMi} {ov : Option Value} {y : MethodName} {b1 : ByteArray} {maxL1 : Nat} {ret1 : Option FieldType} {rm1 : Room} {mc n index : Nat} {stk : List Value} (As : List Value) (hcv : zcs own index y b1 maxL1 ret1 n) (hM : (gL Γ).stackTraces = false → zMX (gL Γ) E y b1 maxL1 ret1 rm1 mc (6 * mc) As S M X (.inr ov, M1)) (hn : As.length = n) (hst : stk = As.reverse ++ st) (hrt : (st.map fun v => v.category).sum ≤ 8) (d : decode cc pc = .ok (.invokestatic index, 3)) (hroom : zrm rm1 rm maxL1 mc (6 * mc) kc (6 * kc)) (hk1 : kc + mc ≤ kc1) (k : zG Γ Q E nL kc1 (6 * kc1) S ZT M1 X (pc + 3) L (ov.toList ++ st)) : zG Γ Q E nL kc (6 * kc) S ZT M X pc L stk := by
  obtain ⟨hx, hb, hml, hown, hr, hlk, hts, hKK, hht, htr, hrm⟩ := C0
  obtain ⟨i1, i2, i3, i4, i5, i6⟩ := hroom
  subst hst
  intro ls H locs hl hz hP hS
  obtain ⟨g1, g2, g3, g4, g5, g6⟩ := hcv
  refine zcontX (vx_runS (Ts := zWs) ⟨hx, hb, hml, hown, hts⟩ (hM htr) ⟨⟨i5, i6, by rw [hrm]; exact i1, by rw [hrm]; exact i2, zcode hts g1, List.mem_cons_self, hts _ g1, hts _ g2, g3, zlen g4, hts _ g5⟩, hts _ g6⟩ ⟨zPre.blind, fun U hU hW => ⟨rfl, by rw [hU]; exact hz, by rw [hU]; exact hP, hKK.warm hW (by rw [hU]; exact hS.1) (fun q h1 h2 => by rw [hU]; exact hS.2.1 q h1 h2)⟩⟩ rfl hn hl.1 rfl (lv_room hrt) d ⟨by rw [hrm]; exact i3, by rw [hrm]; exact i4⟩) hS (fun ov1 H1 locs1 hov hP1 hS1 => ?_) (fun e9 H1 locs1 q ce hov hP1 hS1 h1 h2 h3 => ?_)
  · cases hov
    exact W.widen hk1 (by omega) (k ls H1 locs1 hl trivial hP1 hS1)
  · cases hov
theorem r_callS0 (C0 : zCt Γ E own cc nL ret hh rm) {M1 : zMi} {ov : Option Value} {y : MethodName} {b1 : ByteArray} {maxL1 : Nat} {ret1 : Option FieldType} {rm1 : Room} {mc n index : Nat} {stk : List Value} (As : List Value) (hcv : zcs own index y b1 maxL1 ret1 n) {b len : Nat} {xs : Nat → Int32} (hX : va_X b len xs (gS Γ) (gS Γ).heap) (hbl : b < (gS Γ).heap.size) (hbA : ¬ E.2.2 ≤ b) (hM : (gL Γ).stackTraces = false → zMS (gL Γ) E y b1 maxL1 ret1 rm1 mc (6 * mc) As b len xs S M X (.inr ov, M1)) (hn : As.length = n) (hst : stk = As.reverse ++ st) (hrt : (st.map fun v => v.category).sum ≤ 8) (d : decode cc pc = .ok (.invokestatic index, 3)) (hroom : zrm rm1 rm maxL1 mc (6 * mc) kc (6 * kc)) (hk1 : kc + mc ≤ kc1) (k : zG Γ Q E nL kc1 (6 * kc1) S ZT M1 X (pc + 3) L (ov.toList ++ st)) : zG Γ Q E nL kc (6 * kc) S ZT M X pc L stk := by
  obtain ⟨hx, hb, hml, hown, hr, hlk, hts, hKK, hht, htr, hrm⟩ := C0
  obtain ⟨i1, i2, i3, i4, i5, i6⟩ := hroom
  subst hst
  intro ls H locs hl hz hP hS
  obtain ⟨g1, g2, g3, g4, g5, g6⟩ := hcv
  refine zcontX (vx_runS (Ts := zWs) ⟨hx, hb, hml, hown, hts⟩ (hM htr) ⟨⟨i5, i6, by rw [hrm]; exact i1, by rw [hrm]; exact i2, zcode hts g1, List.mem_cons_self, hts _ g1, hts _ g2, g3, zlen g4, hts _ g5⟩, hts _ g6⟩ ⟨zPreS.blind, fun U hU hW => ⟨⟨rfl, by rw [hU]; exact hz, by rw [hU]; exact hP, hKK.warm hW (by rw [hU]; exact hS.1) (fun q h1 h2 => by rw [hU]; exact hS.2.1 q h1 h2)⟩, va_X.moved hW.alike (hX.kept (by rw [hU]; exact hS.2.1 b hbl hbA)), by rw [hU]; exact Nat.lt_of_lt_of_le hbl hS.1⟩⟩ rfl hn hl.1 rfl (lv_room hrt) d ⟨by rw [hrm]; exact i3, by rw [hrm]; exact i4⟩) hS (fun ov1 H1 locs1 hov hP1 hS1 => ?_) (fun e9 H1 locs1 q ce hov hP1 hS1 h1 h2 h3 => ?_)
  · cases hov
    exact W.widen hk1 (by omega) (k ls H1 locs1 hl trivial hP1 hS1)
  · cases hov
theorem r_callWp (C0 : zCt Γ E own cc nL ret hh rm) {β : Type} {f : Option (Int32)} {K : Int32 → Option β} {r : β} {y : MethodName} {b1 : ByteArray} {maxL1 : Nat} {ret1 : Option FieldType} {rm1 : Room} {mc n index : Nat} {stk : List Value} {hh1 : List (Nat × Nat × Nat × Nat)} (As : List Value) (hf : cal f K = some r) (hcv : zcsW own index y b1 maxL1 ret1 hh1 n) (hM : (gL Γ).stackTraces = false → ∀ r1, f = some r1 → zMW (gL Γ) E y b1 maxL1 ret1 hh1 rm1 mc (6 * mc) As S M X (r1) (M) X) (hn : As.length = n) (hst : stk = As.reverse ++ st) (hrt : (st.map fun v => v.category).sum ≤ 8) (d : decode cc pc = .ok (.invokestatic index, 3)) (hroom : zrm rm1 rm maxL1 mc (6 * mc) kc (6 * kc)) (hk1 : kc + mc ≤ kc1) (k : ∀ r1 : Int32, f = some r1 → K r1 = some r → zG Γ Q E nL kc1 (6 * kc1) S ZT (M) X (pc + 3) L (.int r1 :: st)) : zG Γ Q E nL kc (6 * kc) S ZT M X pc L stk := by
  obtain ⟨r0, e0, hf⟩ := cal_some hf
  subst e0
  refine r_callSW C0 (f := some (r0, M, X)) (K := fun _ => K r0) (r := r) As hf hcv (fun hl r1 h1 => ?_) hn hst hrt d hroom (fun r1 h1 hf => ?_)
  · cases h1; exact hM hl r0 rfl
  · cases h1; exact r_widen hk1 (by omega) (k r0 rfl hf)
theorem r_callAp (C0 : zCt Γ E own cc nL ret hh rm) {β : Type} {f : Option (Int32)} {K : Int32 → Option β} {r : β} {y : MethodName} {b1 : ByteArray} {maxL1 : Nat} {ret1 : Option FieldType} {rm1 : Room} {mc n index : Nat} {stk : List Value} (As : List Value) (hf : cal f K = some r) (hcv : zcs own index y b1 maxL1 ret1 n) (hM : (gL Γ).stackTraces = false → ∀ r1, f = some r1 → zMX (gL Γ) E y b1 maxL1 ret1 rm1 mc (6 * mc) As S M X (.inr (some (.int (r1))), M)) (hn : As.length = n) (hst : stk = As.reverse ++ st) (hrt : (st.map fun v => v.category).sum ≤ 8) (d : decode cc pc = .ok (.invokestatic index, 3)) (hroom : zrm rm1 rm maxL1 mc (6 * mc) kc (6 * kc)) (hk1 : kc + mc ≤ kc1) (k : ∀ r1 : Int32, f = some r1 → K r1 = some r → zG Γ Q E nL kc1 (6 * kc1) S ZT (M) X (pc + 3) L (.int r1 :: st)) : zG Γ Q E nL kc (6 * kc) S ZT M X pc L stk := by
  obtain ⟨r0, e0, hf⟩ := cal_some hf
  exact r_callA0 C0 As hcv (fun hl => hM hl r0 e0) hn hst hrt d hroom hk1 (k r0 e0 hf)
theorem r_callSN (C0 : zCt Γ E own cc nL ret hh rm) {β : Type} {f : Option (Int32)} {K : Int32 → Option β} {r : β} {y : MethodName} {b1 : ByteArray} {maxL1 : Nat} {ret1 : Option FieldType} {rm1 : Room} {mc n index : Nat} {stk : List Value} {b len : Nat} {xs : Nat → Int32} (As : List Value) (hX : va_X b len xs (gS Γ) (gS Γ).heap) (hbl : b < (gS Γ).heap.size) (hbA : ¬ E.2.2 ≤ b) (hf : cal f K = some r) (hcv : zcs own index y b1 maxL1 ret1 n) (hM : (gL Γ).stackTraces = false → ∀ r1, f = some r1 → zMS (gL Γ) E y b1 maxL1 ret1 rm1 mc (6 * mc) As b len xs S M X (.inr (some (.int (r1))), M)) (hn : As.length = n) (hst : stk = As.reverse ++ st) (hrt : (st.map fun v => v.category).sum ≤ 8) (d : decode cc pc = .ok (.invokestatic index, 3)) (hroom : zrm rm1 rm maxL1 mc (6 * mc) kc (6 * kc)) (hk1 : kc + mc ≤ kc1) (k : ∀ r1 : Int32, f = some r1 → K r1 = some r → zG Γ Q E nL kc1 (6 * kc1) S ZT (M) X (pc + 3) L (.int r1 :: st)) : zG Γ Q E nL kc (6 * kc) S ZT M X pc L stk := by
  obtain ⟨r0, e0, hf⟩ := cal_some hf
  exact r_callS0 C0 As hcv hX hbl hbA (fun hl => hM hl r0 e0) hn hst hrt d hroom hk1 (k r0 e0 hf)
theorem r_callWw (C0 : zCt Γ E own cc nL ret hh rm) {β : Type} {f : Option (Int32 × zMi)} {K : Int32 × zMi → Option β} {r : β} {y : MethodName} {b1 : ByteArray} {maxL1 : Nat} {ret1 : Option FieldType} {rm1 : Room} {mc n index : Nat} {stk : List Value} {hh1 : List (Nat × Nat × Nat × Nat)} (As : List Value) (hf : cal f K = some r) (hcv : zcsW own index y b1 maxL1 ret1 hh1 n) (hM : (gL Γ).stackTraces = false → ∀ r1, f = some r1 → zMW (gL Γ) E y b1 maxL1 ret1 hh1 rm1 mc (6 * mc) As S M X (r1.1) (r1.2) X) (hn : As.length = n) (hst : stk = As.reverse ++ st) (hrt : (st.map fun v => v.category).sum ≤ 8) (d : decode cc pc = .ok (.invokestatic index, 3)) (hroom : zrm rm1 rm maxL1 mc (6 * mc) kc (6 * kc)) (hk1 : kc + mc ≤ kc1) (k : ∀ r1 : Int32 × zMi, f = some r1 → K r1 = some r → zG Γ Q E nL kc1 (6 * kc1) S ZT (r1.2) X (pc + 3) L (.int (r1.1) :: st)) : zG Γ Q E nL kc (6 * kc) S ZT M X pc L stk := by
  obtain ⟨r0, e0, hf⟩ := cal_some hf
  subst e0
  refine r_callSW C0 (f := some (r0.1, r0.2, X)) (K := fun _ => K r0) (r := r) As hf hcv (fun hl r1 h1 => ?_) hn hst hrt d hroom (fun r1 h1 hf => ?_)
  · cases h1; exact hM hl r0 rfl
  · cases h1; exact r_widen hk1 (by omega) (k r0 rfl hf)
theorem r_callAw (C0 : zCt Γ E own cc nL ret hh rm) {β : Type} {f : Option (Int32 × zMi)} {K : Int32 × zMi → Option β} {r : β} {y : MethodName} {b1 : ByteArray} {maxL1 : Nat} {ret1 : Option FieldType} {rm1 : Room} {mc n index : Nat} {stk : List Value} (As : List Value) (hf : cal f K = some r) (hcv : zcs own index y b1 maxL1 ret1 n) (hM : (gL Γ).stackTraces = false → ∀ r1, f = some r1 → zMX (gL Γ) E y b1 maxL1 ret1 rm1 mc (6 * mc) As S M X (.inr (some (.int (r1.1))), r1.2)) (hn : As.length = n) (hst : stk = As.reverse ++ st) (hrt : (st.map fun v => v.category).sum ≤ 8) (d : decode cc pc = .ok (.invokestatic index, 3)) (hroom : zrm rm1 rm maxL1 mc (6 * mc) kc (6 * kc)) (hk1 : kc + mc ≤ kc1) (k : ∀ r1 : Int32 × zMi, f = some r1 → K r1 = some r → zG Γ Q E nL kc1 (6 * kc1) S ZT (r1.2) X (pc + 3) L (.int (r1.1) :: st)) : zG Γ Q E nL kc (6 * kc) S ZT M X pc L stk := by
  obtain ⟨r0, e0, hf⟩ := cal_some hf
  exact r_callA0 C0 As hcv (fun hl => hM hl r0 e0) hn hst hrt d hroom hk1 (k r0 e0 hf)
theorem r_callST (C0 : zCt Γ E own cc nL ret hh rm) {β : Type} {f : Option (Int32 × zMi)} {K : Int32 × zMi → Option β} {r : β} {y : MethodName} {b1 : ByteArray} {maxL1 : Nat} {ret1 : Option FieldType} {rm1 : Room} {mc n index : Nat} {stk : List Value} {b len : Nat} {xs : Nat → Int32} (As : List Value) (hX : va_X b len xs (gS Γ) (gS Γ).heap) (hbl : b < (gS Γ).heap.size) (hbA : ¬ E.2.2 ≤ b) (hf : cal f K = some r) (hcv : zcs own index y b1 maxL1 ret1 n) (hM : (gL Γ).stackTraces = false → ∀ r1, f = some r1 → zMS (gL Γ) E y b1 maxL1 ret1 rm1 mc (6 * mc) As b len xs S M X (.inr (some (.int (r1.1))), r1.2)) (hn : As.length = n) (hst : stk = As.reverse ++ st) (hrt : (st.map fun v => v.category).sum ≤ 8) (d : decode cc pc = .ok (.invokestatic index, 3)) (hroom : zrm rm1 rm maxL1 mc (6 * mc) kc (6 * kc)) (hk1 : kc + mc ≤ kc1) (k : ∀ r1 : Int32 × zMi, f = some r1 → K r1 = some r → zG Γ Q E nL kc1 (6 * kc1) S ZT (r1.2) X (pc + 3) L (.int (r1.1) :: st)) : zG Γ Q E nL kc (6 * kc) S ZT M X pc L stk := by
  obtain ⟨r0, e0, hf⟩ := cal_some hf
  exact r_callS0 C0 As hcv hX hbl hbA (fun hl => hM hl r0 e0) hn hst hrt d hroom hk1 (k r0 e0 hf)
theorem r_callVL (C0 : zCt Γ E own cc nL ret hh rm) {β : Type} {f : Option (Int32 × zMi)} {K : Int32 × zMi → Option β} {r : β} {y : MethodName} {b1 : ByteArray} {maxL1 : Nat} {ret1 : Option FieldType} {rm1 : Room} {n index : Nat} {stk : List Value} {C : String} (As : List Value) (b : Nat) (hf : cal f K = some r) (hcv : zcv own index C y b1 maxL1 ret1 n) (hM : (gL Γ).stackTraces = false → ∀ r1, f = some r1 → zM (gL Γ) E y b1 maxL1 ret1 rm1 0 0 (.ref b :: As) S ZT M X S ZT (some (.int r1.1)) r1.2 X) {ci : Nat} {q9 : vw_C} (hkb : S.1 b = some (.inl ci)) (hci : vwCl[ci]? = some q9) (hq9 : q9.1 = C) (hn : As.length = n) (hst : stk = As.reverse ++ .ref b :: st) (hrt : (st.map fun v => v.category).sum ≤ 8) (d : decode cc pc = .ok (.invokevirtual index, 3)) (hroom : zrm rm1 rm maxL1 0 (6 * 0) kc (6 * kc)) (k : ∀ r1 : Int32 × zMi, f = some r1 → K r1 = some r → zG Γ Q E nL kc (6 * kc) S ZT r1.2 X (pc + 3) L (.int r1.1 :: st)) : zG Γ Q E nL kc (6 * kc) S ZT M X pc L stk := r_callVim C0 (mc := 0) (ms := 0) As b hf hcv hM hkb hci hq9 hn hst hrt d hroom k
end ZL
