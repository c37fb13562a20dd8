section
-- ===== PART A: goes FIRST, ahead of the names: the tables' words, and 'selects' of the private methods out of them =====
/-- a private method of a class that the tables say can be made, by its rows of tables_1 -/
def lw_okq (q : MethodName × Nat) : Prop := (q.1.cls ≠ "java/lang/invoke/MethodHandle" ∧ q.1.cls ≠ "java/lang/invoke/VarHandle") ∧ Cond.instantiable q.1.cls q.2 ∈ tables_1 ∧ Cond.privateMethod q.1 ∈ tables_1 ∧ Cond.instanceMethod q.1 ∈ tables_1
theorem lw_p0 : lw_okq (⟨"CableLanding$Text", "readHead", "(LCableLanding$State;)V"⟩, 4) := ⟨⟨by decide +kernel, by decide +kernel⟩, List.mem_of_getElem? (i := 28) (by decide +kernel), List.mem_of_getElem? (i := 361) (by decide +kernel), List.mem_of_getElem? (i := 362) (by decide +kernel)⟩
theorem lw_p1 : lw_okq (⟨"CableLanding$Text", "readLetter", "(C)V"⟩, 4) := ⟨⟨by decide +kernel, by decide +kernel⟩, List.mem_of_getElem? (i := 28) (by decide +kernel), List.mem_of_getElem? (i := 365) (by decide +kernel), List.mem_of_getElem? (i := 366) (by decide +kernel)⟩
theorem lw_p2 : lw_okq (⟨"CableLanding$Text", "nextIs", "(C)Z"⟩, 4) := ⟨⟨by decide +kernel, by decide +kernel⟩, List.mem_of_getElem? (i := 28) (by decide +kernel), List.mem_of_getElem? (i := 369) (by decide +kernel), List.mem_of_getElem? (i := 370) (by decide +kernel)⟩
theorem lw_p3 : lw_okq (⟨"CableLanding$Text", "readNumber", "(III)I"⟩, 4) := ⟨⟨by decide +kernel, by decide +kernel⟩, List.mem_of_getElem? (i := 28) (by decide +kernel), List.mem_of_getElem? (i := 373) (by decide +kernel), List.mem_of_getElem? (i := 374) (by decide +kernel)⟩
theorem lw_p4 : lw_okq (⟨"CableLanding$Text", "nextDigit", "()I"⟩, 4) := ⟨⟨by decide +kernel, by decide +kernel⟩, List.mem_of_getElem? (i := 28) (by decide +kernel), List.mem_of_getElem? (i := 377) (by decide +kernel), List.mem_of_getElem? (i := 378) (by decide +kernel)⟩
theorem lw_p5 : lw_okq (⟨"CableLanding$Text", "readZone", "(LCableLanding$State;)V"⟩, 4) := ⟨⟨by decide +kernel, by decide +kernel⟩, List.mem_of_getElem? (i := 28) (by decide +kernel), List.mem_of_getElem? (i := 382) (by decide +kernel), List.mem_of_getElem? (i := 383) (by decide +kernel)⟩
theorem lw_p6 : lw_okq (⟨"CableLanding$Text", "readShip", "(LCableLanding$State;)V"⟩, 4) := ⟨⟨by decide +kernel, by decide +kernel⟩, List.mem_of_getElem? (i := 28) (by decide +kernel), List.mem_of_getElem? (i := 387) (by decide +kernel), List.mem_of_getElem? (i := 388) (by decide +kernel)⟩
theorem lw_p7 : lw_okq (⟨"CableLanding$Text", "readWeather", "(LCableLanding$State;)V"⟩, 4) := ⟨⟨by decide +kernel, by decide +kernel⟩, List.mem_of_getElem? (i := 28) (by decide +kernel), List.mem_of_getElem? (i := 392) (by decide +kernel), List.mem_of_getElem? (i := 393) (by decide +kernel)⟩
theorem lw_p8 : lw_okq (⟨"java/lang/Throwable", "fillInStackTrace", "(I)Ljava/lang/Throwable;"⟩, 6) := ⟨⟨by decide +kernel, by decide +kernel⟩, List.mem_of_getElem? (i := 463) (by decide +kernel), List.mem_of_getElem? (i := 461) (by decide +kernel), List.mem_of_getElem? (i := 462) (by decide +kernel)⟩
theorem lw_p9 : lw_okq (⟨"CableLanding$History", "placeOf", "(I)LCableLanding$State;"⟩, 3) := ⟨⟨by decide +kernel, by decide +kernel⟩, List.mem_of_getElem? (i := 272) (by decide +kernel), List.mem_of_getElem? (i := 560) (by decide +kernel), List.mem_of_getElem? (i := 561) (by decide +kernel)⟩
theorem lw_p10 : lw_okq (⟨"CableLanding", "existingSlot", "(I)LCableLanding$Slot;"⟩, 5) := ⟨⟨by decide +kernel, by decide +kernel⟩, List.mem_of_getElem? (i := 20) (by decide +kernel), List.mem_of_getElem? (i := 595) (by decide +kernel), List.mem_of_getElem? (i := 596) (by decide +kernel)⟩
theorem lw_p11 : lw_okq (⟨"CableLanding", "existingShip", "(I)LCableLanding$Ship;"⟩, 5) := ⟨⟨by decide +kernel, by decide +kernel⟩, List.mem_of_getElem? (i := 20) (by decide +kernel), List.mem_of_getElem? (i := 684) (by decide +kernel), List.mem_of_getElem? (i := 685) (by decide +kernel)⟩
theorem lw_p12 : lw_okq (⟨"CableLanding$Teams", "sendToRest", "(I)V"⟩, 7) := ⟨⟨by decide +kernel, by decide +kernel⟩, List.mem_of_getElem? (i := 74) (by decide +kernel), List.mem_of_getElem? (i := 772) (by decide +kernel), List.mem_of_getElem? (i := 773) (by decide +kernel)⟩
theorem lw_p13 : lw_okq (⟨"CableLanding$State", "comeToFront", "()V"⟩, 12) := ⟨⟨by decide +kernel, by decide +kernel⟩, List.mem_of_getElem? (i := 48) (by decide +kernel), List.mem_of_getElem? (i := 836) (by decide +kernel), List.mem_of_getElem? (i := 837) (by decide +kernel)⟩
theorem lw_p14 : lw_okq (⟨"CableLanding$State", "workAtFront", "()I"⟩, 12) := ⟨⟨by decide +kernel, by decide +kernel⟩, List.mem_of_getElem? (i := 48) (by decide +kernel), List.mem_of_getElem? (i := 841) (by decide +kernel), List.mem_of_getElem? (i := 842) (by decide +kernel)⟩
theorem lw_p15 : lw_okq (⟨"CableLanding$State", "lay", "(LCableLanding$Ship;LCableLanding$Zone;)I"⟩, 12) := ⟨⟨by decide +kernel, by decide +kernel⟩, List.mem_of_getElem? (i := 48) (by decide +kernel), List.mem_of_getElem? (i := 857) (by decide +kernel), List.mem_of_getElem? (i := 858) (by decide +kernel)⟩
def lw_privs_1 : List (MethodName × Nat) := [(⟨"CableLanding$Text", "readHead", "(LCableLanding$State;)V"⟩, 4), (⟨"CableLanding$Text", "readLetter", "(C)V"⟩, 4), (⟨"CableLanding$Text", "nextIs", "(C)Z"⟩, 4), (⟨"CableLanding$Text", "readNumber", "(III)I"⟩, 4), (⟨"CableLanding$Text", "nextDigit", "()I"⟩, 4), (⟨"CableLanding$Text", "readZone", "(LCableLanding$State;)V"⟩, 4), (⟨"CableLanding$Text", "readShip", "(LCableLanding$State;)V"⟩, 4), (⟨"CableLanding$Text", "readWeather", "(LCableLanding$State;)V"⟩, 4), (⟨"java/lang/Throwable", "fillInStackTrace", "(I)Ljava/lang/Throwable;"⟩, 6), (⟨"CableLanding$History", "placeOf", "(I)LCableLanding$State;"⟩, 3), (⟨"CableLanding", "existingSlot", "(I)LCableLanding$Slot;"⟩, 5), (⟨"CableLanding", "existingShip", "(I)LCableLanding$Ship;"⟩, 5), (⟨"CableLanding$Teams", "sendToRest", "(I)V"⟩, 7), (⟨"CableLanding$State", "comeToFront", "()V"⟩, 12), (⟨"CableLanding$State", "workAtFront", "()I"⟩, 12), (⟨"CableLanding$State", "lay", "(LCableLanding$Ship;LCableLanding$Zone;)I"⟩, 12)]
theorem lw_r1 : ∀ q ∈ lw_privs_1, lw_okq q := List.forall_mem_cons.mpr ⟨lw_p0, List.forall_mem_cons.mpr ⟨lw_p1, List.forall_mem_cons.mpr ⟨lw_p2, List.forall_mem_cons.mpr ⟨lw_p3, List.forall_mem_cons.mpr ⟨lw_p4, List.forall_mem_cons.mpr ⟨lw_p5, List.forall_mem_cons.mpr ⟨lw_p6, List.forall_mem_cons.mpr ⟨lw_p7, List.forall_mem_cons.mpr ⟨lw_p8, List.forall_mem_cons.mpr ⟨lw_p9, List.forall_mem_cons.mpr ⟨lw_p10, List.forall_mem_cons.mpr ⟨lw_p11, List.forall_mem_cons.mpr ⟨lw_p12, List.forall_mem_cons.mpr ⟨lw_p13, List.forall_mem_cons.mpr ⟨lw_p14, List.forall_mem_cons.mpr ⟨lw_p15, fun _ h => absurd h List.not_mem_nil⟩⟩⟩⟩⟩⟩⟩⟩⟩⟩⟩⟩⟩⟩⟩⟩
theorem lw_p16 : lw_okq (⟨"CableLanding$State", "bookDay", "()V"⟩, 12) := ⟨⟨by decide +kernel, by decide +kernel⟩, List.mem_of_getElem? (i := 48) (by decide +kernel), List.mem_of_getElem? (i := 873) (by decide +kernel), List.mem_of_getElem? (i := 874) (by decide +kernel)⟩
def lw_privs_2 : List (MethodName × Nat) := [(⟨"CableLanding$State", "bookDay", "()V"⟩, 12)]
theorem lw_r2 : ∀ q ∈ lw_privs_2, lw_okq q := List.forall_mem_cons.mpr ⟨lw_p16, fun _ h => absurd h List.not_mem_nil⟩
def lw_privs : List (MethodName × Nat) := lw_privs_1 ++ (lw_privs_2)
def lw_tbl : List Cond := k2_sels lw_privs ++ tables_1
theorem lw_privs_ok : ∀ q ∈ lw_privs, lw_okq q := by
  show ∀ q ∈ lw_privs_1 ++ (lw_privs_2), lw_okq q
  exact List.forall_mem_append.mpr ⟨lw_r1, lw_r2⟩
-- ===== end of PART A; then your names; then what follows =====
end
section
/-! ===== BEGIN words of one list among another's, by their places ===== -/
theorem goodIn_r {big : List Cond} (ws : List Cond) (ps : List Nat) (hp : ws = ps.filterMap (fun i => big[i]?)) (h : ws.all goodWord = true) : GoodIn big ws := by
  intro w hw
  have h1 := List.all_eq_true.mp h w hw
  rw [hp] at hw
  obtain ⟨i, -, hi⟩ := List.mem_filterMap.mp hw
  have hm : w ∈ big := by first | exact List.mem_of_getElem? hi | exact List.getElem?_mem hi
  exact ⟨hm, good_of_word h1⟩
theorem goodIn_app {big a b : List Cond} (ha : GoodIn big a) (hb : GoodIn big b) : GoodIn big (a ++ b) := fun w h => (List.mem_append.mp h).elim (ha w) (hb w)
theorem goodIn_ca {big a b : List Cond} {c : Cond} (ha : GoodIn big (c :: a)) (hb : GoodIn big b) : GoodIn big (c :: (a ++ b)) := fun w h => (List.mem_cons.mp h).elim (fun e => ha w (List.mem_cons.mpr (Or.inl e))) (fun h => (List.mem_append.mp h).elim (fun h => ha w (List.mem_cons.mpr (Or.inr h))) (hb w))
theorem goodIn_sub {big ws : List Cond} (hm : ∀ w ∈ ws, w ∈ big) (h : ws.all goodWord = true) : GoodIn big ws := fun w hw => ⟨hm w hw, good_of_word (List.all_eq_true.mp h w hw)⟩
/-! ===== END ===== -/
/-! ===== BEGIN exceptions that leave a method, and their catching by the caller (launches without stack traces) ===== -/
section VXA
/-! The laws vx_back, vx_callV, vx_callS, vx_callSW, vx_throw0, vx_throwS follow proofs of the library, with one case more: JvmDerived/Free/Laws.lean (Back.of_free), Shelf42/LK1.lean (callV, callS), Shelf/KitTraced.lean (throwNew0V, throwNewS). -/
/-- where a method has thrown q: the class by its name, the cell, what was written, the world -/
def vx_T (XC : String → State → State → Prop) (st : State) (q : Addr) (t : State) (mc ms : Nat) (free : Addr → Prop) : Prop :=
  ∃ (E : String) (ce : Cell) (L : List Loc), XC E st t ∧ t.heap[q]? = some ce ∧ ce.vm = .none ∧ st.vm.findClass E = some ce.cls ∧ st.WarmedH t.vm ∧ st.sameButNew ({ t with vm := st.vm } : State) L mc ms ∧ ∀ z ∈ L, free z.base
def vx_Q (Qc : Array Value → State → Outcome → State → Prop) (XC : String → State → State → Prop) (mc ms : Nat) (free : Addr → Prop) : Array Value → State → Outcome → State → Prop := fun a st o t =>
  (Qc a st o t ∧ ∃ L, FrameEnd st o t L mc ms ∧ ∀ q ∈ L, free q.base) ∨ ∃ q, o = .threw q ∧ vx_T XC st q t mc ms free
/-- a callee that returns or throws -/
def vx_Met (l : Launch) (y : MethodName) (ws : List Cond) (rm : Room) (Pc : Array Value → State → Prop) (Qc : Array Value → State → Outcome → State → Prop) (XC : String → State → State → Prop) (mc ms : Nat) (free : Addr → Prop) : Prop :=
  MetFree l y (headSpec ws rm) Pc (fun _ _ _ _ _ => True) (vx_Q Qc XC mc ms free)
def vx_Post (XC : String → State → State → Prop) (mc ms : Nat) (free : Addr → Prop) : Pt → Array Value → Addr → Pt → Prop := fun A a q B =>
  ∃ (g : JFrame) (mk : MethodId) (t : State) (L : List Loc) (E : String) (ce : Cell), B.U.heap = t.heap ∧ B.U.vm = t.vm ∧ XC E (A.U.calling g mk a) t ∧ t.heap[q]? = some ce ∧ ce.vm = .none ∧ A.U.vm.findClass E = some ce.cls ∧ B.locs = A.locs ++ L ∧ (∀ z ∈ L, free z.base) ∧ B.cells = A.cells + mc ∧ B.slots = A.slots + ms
def vx_Back (l : Launch) (R : Room) (p : Program) (e : Env) (below : List Frame) (s : State) (sargs : Array Value) (y : MethodName) (len W9 : Nat)
    (Pre : Pt → Array Value → Prop) (Post : Pt → Array Value → Option Value → Pt → Prop) (PostX : Pt → Array Value → Addr → Pt → Prop) : Prop :=
  ∀ (m : MethodId) (meth : Method) (c : Code) (A : Pt) (g : JFrame) (ig : Instr) (mk : MethodId) (a : Array Value),
    Stand p l e R s m sargs below meth c A.U A.locs A.cells A.slots → g.method = m → g.locals.size = c.maxLocals → decode c.code g.pc = .ok (ig, len) →
    2 * g.monitorRoom + (g.stack.map fun v => v.category).sum ≤ W9 → A.U.methodNamed? y = some mk → Pre A a →
    (∃ (v : Option Value) (B : Pt), Stand p l e R s m sargs below meth c B.U B.locs B.cells B.slots ∧ Post A a v B ∧
      Steps p.tables e below (doInvoke e (A.U.setTop g) [] mk a).1 (B.U.setTop { g with pc := g.pc + len, stack := v.toList ++ g.stack })) ∨
    (∃ (q : Addr) (B : Pt), Stand p l e R s m sargs below meth c B.U B.locs B.cells B.slots ∧ PostX A a q B ∧
      Steps p.tables e below (doInvoke e (A.U.setTop g) [] mk a).1 ((B.U.setTop g).pushFrame (.throwing q)))
section Payer
variable {l : Launch} {R : Room} {p : Program} {e : Env} {below : List Frame} {s : State} {sargs : Array Value} {y : MethodName} {len W9 : Nat}
theorem vx_back {ws : List Cond} {rm : Room} {Pc : Array Value → State → Prop} {Qc : Array Value → State → Outcome → State → Prop} {XC : String → State → State → Prop} {mc ms : Nat} {free : Addr → Prop} {bytes : ByteArray} {maxL : Nat} {ret : Option FieldType}
    (hM : vx_Met l y ws rm Pc Qc XC mc ms free) (hblind : FrameBlind Pc) (hrc : rm.cells = mc) (hrs : rm.slots = ms)
    (hframes : rm.frames + 1 ≤ R.frames) (hlocals : W9 + (maxL + 11) + rm.locals ≤ R.locals)
    (hws : ∀ w ∈ ws, ∀ a' U, s.WarmedH U.vm → w.before a' U = true) (hcode : Cond.code y bytes maxL ret ∈ ws) (hinit : ∀ a' U, s.WarmedH U.vm → (Cond.initialized y.cls).before a' U = true) :
    vx_Back l R p e below s sargs y len W9 (PreOf R mc ms Pc) (PostOf Qc mc ms free) (vx_Post XC mc ms free) := by
  intro m meth c A g ig mk a X hg hsize hdg hW hn hp
  have h1 : (headSpec ws rm).pre.before a A.U = true := atoms_intro fun w hw => hws w hw _ _ X.warmed
  have h2 : (Cond.code y bytes maxL ret).before a A.U = true := hws _ hcode _ _ X.warmed
  have h3 : (Cond.initialized y.cls).before a A.U = true := hinit _ _ X.warmed
  have h4 : A.cells + (headSpec ws rm).room.cells ≤ R.cells := by rw [show (headSpec ws rm).room.cells = mc from hrc]; exact hp.1
  have h5 : A.slots + (headSpec ws rm).room.slots ≤ R.slots := by rw [show (headSpec ws rm).room.slots = ms from hrs]; exact hp.2.1
  have hPc : Pc a (A.U.calling g mk a) := hblind _ _ _ _ hp.2.2
  obtain ⟨U, Ls, c0, s0⟩ := A
  dsimp only [Pt.U, Pt.locs, Pt.cells, Pt.slots] at h1 h2 h3 h4 h5 X hn hPc ⊢
  obtain ⟨methY, cY, hmY, hcY, -, hlY, -, -, -, -⟩ := Cond.code_spec hn h2
  obtain ⟨kY, hkY, -⟩ := className_of_methodNamed hn
  have hinitY : kY.init = .initialized := Cond.initialized_spec (findClass_of_methodNamed hn) hkY h3
  have h : At U g.method c below := by rw [hg]; exact X.here
  have hlocals9 : W9 + (maxL + 11) + (headSpec ws rm).room.locals ≤ R.locals := hlocals
  have happ : (headSpec ws rm).appliesLoose y e.platform (U.calling g mk a) = true :=
    Spec.appliesLoose_calling (g := g) h hdg hn hkY hinitY
      (X.room_calling (g := g) (R' := (headSpec ws rm).room) hsize hmY hcY hframes (by rw [hlY]; omega) h4 h5) h1
  obtain ⟨mid, hmid⟩ := h.above
  have hfr : (U.setTop g).frames = (.java g :: mid) ++ below := by rw [State.frames_setTop' g h.top, hmid]; rfl
  obtain ⟨o, s₂, hsteps, -, hend, hq⟩ := Steps.callFree hM p X.admits X.cas X.clock (acts := []) hfr happ hPc trivial
  have hq' : vx_Q Qc XC mc ms free a (U.calling g mk a) o s₂ := hq
  rw [State.frames_setTop' g h.top] at hend
  obtain ⟨g₀, hg0⟩ := Option.isSome_iff_exists.mp h.top
  obtain ⟨r, hr⟩ := State.topJava?_eq_some.mp hg0
  have hr' : (({ U with heap := s₂.heap, slotsUsed := s₂.slotsUsed } : State).setVm s₂.vm).frames = .java g₀ :: r := hr
  rcases hq' with ⟨hqc, L, hfe, hL⟩ | ⟨q, rfl, E, ce, L, hx, hce, hcv, hcl, hW₂, hsm, hL⟩
  · obtain ⟨⟨v, rfl⟩, hW₂, e2, q2, q3, q4, q5, q6⟩ := id hfe
    have e3 : s₂ = ({ (U.calling g mk a).setFrames s₂.frames with heap := s₂.heap, slotsUsed := s₂.slotsUsed } : State).setVm s₂.vm := by
      have : s₂ = ({ s₂ with vm := (U.calling g mk a).vm } : State).setVm s₂.vm := rfl
      rw [e2] at this
      exact this
    obtain ⟨c₂, i₂, len₂, hc₂, hd₂, hf₂⟩ := hend
    have hW' : U.WarmedH s₂.vm := hW₂
    have hcc : c₂ = c := by
      have h1 : s₂.code? g.method = U.code? g.method := by
        rw [State.code?_eq, State.code?_eq, hW'.alike.method?]
      exact Option.some.inj (hc₂.symm.trans (h1.trans h.code))
    subst hcc
    have hlen : len₂ = len := by rw [hdg] at hd₂; cases hd₂; rfl
    subst hlen
    have hs₂ : s₂ = (({ U with heap := s₂.heap, slotsUsed := s₂.slotsUsed } : State).setVm s₂.vm).setTop { g with pc := g.pc + len₂, stack := v.toList ++ g.stack } := by
      refine e3.trans ?_
      rw [hf₂, State.calling_eq h.top, State.setFrames_setFrames, State.setTop_of_frames _ hr', hr]
      rfl
    have hsame : U.sameButNew ({ U with heap := s₂.heap, slotsUsed := s₂.slotsUsed } : State) L mc ms := by
      refine ⟨?_, q2, q3, q4, q5, q6⟩
      obtain ⟨t, ht, -⟩ := State.frames_cons hr
      show ({ U with heap := s₂.heap, slotsUsed := s₂.slotsUsed } : State) = { U.setFrames U.frames with heap := s₂.heap, slotsUsed := s₂.slotsUsed }
      rw [State.setFrames_self ht]
    subst hg
    refine Or.inl ⟨v, ⟨(({ U with heap := s₂.heap, slotsUsed := s₂.slotsUsed } : State).setVm s₂.vm), Ls ++ L, c0 + mc, s0 + ms⟩,
      ⟨X.admits, X.cas, X.clock, X.frames, X.room, X.hears, X.method, X.code, (X.here.setHeapUsed s₂.heap s₂.slotsUsed).setVm hW'.alike, X.tail, State.WarmedH.trans X.warmed hW', X.limits, X.bytes, X.same.trans (hsame.setVm s.vm)⟩,
      ⟨g, mk, s₂, L, rfl, rfl, hqc, rfl, hL, rfl, rfl⟩, ?_⟩
    show Steps p.tables e below _ ((({ U with heap := s₂.heap, slotsUsed := s₂.slotsUsed } : State).setVm s₂.vm).setTop { g with pc := g.pc + len₂, stack := v.toList ++ g.stack })
    rw [← hs₂]
    exact hsteps
  · obtain ⟨e2, q2, q3, q4, q5, q6⟩ := id hsm
    have e3 : s₂ = ({ (U.calling g mk a).setFrames s₂.frames with heap := s₂.heap, slotsUsed := s₂.slotsUsed } : State).setVm s₂.vm := by
      have : s₂ = ({ s₂ with vm := (U.calling g mk a).vm } : State).setVm s₂.vm := rfl
      rw [e2] at this
      exact this
    have hf₂ : s₂.frames = .throwing q :: .java g :: U.frames.tail := hend
    have hW' : U.WarmedH s₂.vm := hW₂
    have hs₂ : s₂ = ((({ U with heap := s₂.heap, slotsUsed := s₂.slotsUsed } : State).setVm s₂.vm).setTop g).pushFrame (.throwing q) := by
      refine e3.trans ?_
      rw [hf₂, State.calling_eq h.top, State.setFrames_setFrames, State.pushFrame, State.frames_setTop _ hr', State.setTop_of_frames _ hr', State.setFrames_setFrames, hr]
      rfl
    have hsame : U.sameButNew ({ U with heap := s₂.heap, slotsUsed := s₂.slotsUsed } : State) L mc ms := by
      refine ⟨?_, q2, q3, q4, q5, q6⟩
      obtain ⟨t, ht, -⟩ := State.frames_cons hr
      show ({ U with heap := s₂.heap, slotsUsed := s₂.slotsUsed } : State) = { U.setFrames U.frames with heap := s₂.heap, slotsUsed := s₂.slotsUsed }
      rw [State.setFrames_self ht]
    subst hg
    refine Or.inr ⟨q, ⟨(({ U with heap := s₂.heap, slotsUsed := s₂.slotsUsed } : State).setVm s₂.vm), Ls ++ L, c0 + mc, s0 + ms⟩,
      ⟨X.admits, X.cas, X.clock, X.frames, X.room, X.hears, X.method, X.code, (X.here.setHeapUsed s₂.heap s₂.slotsUsed).setVm hW'.alike, X.tail, State.WarmedH.trans X.warmed hW', X.limits, X.bytes, X.same.trans (hsame.setVm s.vm)⟩,
      ⟨g, mk, s₂, L, E, ce, rfl, rfl, hx, hce, hcv, hcl, rfl, hL, rfl, rfl⟩, ?_⟩
    show Steps p.tables e below _ (((({ U with heap := s₂.heap, slotsUsed := s₂.slotsUsed } : State).setVm s₂.vm).setTop g).pushFrame (.throwing q))
    rw [← hs₂]
    exact hsteps
end Payer
section Calls
variable {p : Program} {l : Launch} {e : Env} {R : Room} {s : State} {m : MethodId} {args : Array Value} {below : List Frame} {meth : Method} {c : Code} {T : State} {locs : List Loc} {cells slots : Nat}
theorem vx_callV (X : Stand p l e R s m args below meth c T locs cells slots) (hexec : p.tables.exec = Jvm.exec) {own C : String} {index : Nat} {y : MethodName} {bytes : ByteArray} {maxL : Nat} {ret : Option FieldType}
    (hown : s.vm.findClass own = some m.cls) (hlink : (Cond.methodLink own index y).before args s = true) (hinst : (Cond.instanceMethod y).before args s = true) (hsel : (Cond.selects C y y).before args s = true)
    (hcode : (Cond.code y bytes maxL ret).before args s = true) (hy : y.cls ≠ "java/lang/invoke/MethodHandle" ∧ y.cls ≠ "java/lang/invoke/VarHandle")
    {W9 : Nat} {Pre : Pt → Array Value → Prop} {Post : Pt → Array Value → Option Value → Pt → Prop} {PostX : Pt → Array Value → Addr → Pt → Prop} (hK : vx_Back l R p e below s args y 3 W9 Pre Post PostX)
    {b : Addr} {cellB : Cell} (hcell : T.heap[b]? = some cellB) (hobj : cellB.vm.isStatics = false) (hcls : s.vm.findClass C = some cellB.cls)
    {g : JFrame} (hg : g.method = m) (hsize : g.locals.size = c.maxLocals) {argsL rest : List Value} (hlen : ∀ sig, parseMethodDescriptor y.desc = some sig → argsL.length = sig.parameters.length)
    (hstack : g.stack = argsL.reverse ++ .ref b :: rest) (hW : 2 * g.monitorRoom + (rest.map fun v => v.category).sum ≤ W9) (hdg : decode c.code g.pc = .ok (.invokevirtual index, 3))
    (hpre : ∀ vm₁, s.WarmedH vm₁ → Pre ⟨T.setVm vm₁, locs, cells, slots⟩ (Value.ref b :: argsL).toArray) :
    (∃ (v : Option Value) (vm₁ : Vm) (B : Pt), s.WarmedH vm₁ ∧ Stand p l e R s m args below meth c B.U B.locs B.cells B.slots ∧ Post ⟨T.setVm vm₁, locs, cells, slots⟩ (Value.ref b :: argsL).toArray v B ∧
      ∀ target, Steps p.tables e below (B.U.setTop { g with pc := g.pc + 3, stack := v.toList ++ rest }) target → Steps p.tables e below (T.setTop g) target) ∨
    (∃ (q : Addr) (vm₁ : Vm) (B : Pt), s.WarmedH vm₁ ∧ Stand p l e R s m args below meth c B.U B.locs B.cells B.slots ∧ PostX ⟨T.setVm vm₁, locs, cells, slots⟩ (Value.ref b :: argsL).toArray q B ∧
      Steps p.tables e below (T.setTop g) ((B.U.setTop { g with stack := rest }).pushFrame (.throwing q))) := by
  obtain ⟨mk, methM, hnamed, hmethM, hstM, habM⟩ := Cond.instanceMethod_spec hinst
  obtain ⟨methM', cM, hmethM', -, -, -, -, -, -, hsigM⟩ := Cond.code_spec hnamed hcode
  cases hmethM.symm.trans hmethM'
  obtain ⟨c2, r2, m2, q1, q2, q3, q4, kP, hkP, hkPi⟩ := Cond.selects_spec hsel
  cases hcls.symm.trans q1
  cases (State.methodFound?_of_named hnamed hy).symm.trans q2
  cases hnamed.symm.trans q3
  have hselP : selectMethod e.platform s.vm cellB.cls mk = .method mk := by rw [Launch.admits_selectMethod X.admits]; exact q4
  obtain ⟨vm₁, X₁, hstep₁⟩ := X.invokevirtual hexec hown hlink hnamed hmethM hstM hkP hkPi hy (a := b) (cell := cellB) hcell
    (fun z h => by rw [h] at hobj; cases hobj) hselP hmethM habM hkP hkPi (g := g) hg (argsL := argsL) (rest := rest) (hlen _ hsigM) hstack hdg
  rcases hK m meth c ⟨T.setVm vm₁, locs, cells, slots⟩ { g with stack := rest } (.invokevirtual index) mk (Value.ref b :: argsL).toArray X₁ hg hsize hdg hW (X₁.named hnamed) (hpre vm₁ X₁.warmed) with ⟨v, B, X', hpost, hsteps⟩ | ⟨q, B, X', hpost, hsteps⟩
  · exact Or.inl ⟨v, vm₁, B, X₁.warmed, X', hpost, fun target h => hstep₁ _ fun acts => by rw [doInvoke_state]; exact hsteps.trans h⟩
  · exact Or.inr ⟨q, vm₁, B, X₁.warmed, X', hpost, hstep₁ _ fun acts => by rw [doInvoke_state]; exact hsteps⟩
theorem vx_callS (X : Stand p l e R s m args below meth c T locs cells slots) (hexec : p.tables.exec = Jvm.exec) {own : String} {index : Nat} {y : MethodName} {bytes : ByteArray} {maxL : Nat} {ret : Option FieldType}
    (hown : s.vm.findClass own = some m.cls) (hlink : (Cond.methodLink own index y).before args s = true) (hstat : (Cond.static y).before args s = true) (hinit : (Cond.initialized y.cls).before args s = true)
    (hcode : (Cond.code y bytes maxL ret).before args s = true) (hy : y.cls ≠ "java/lang/invoke/MethodHandle" ∧ y.cls ≠ "java/lang/invoke/VarHandle")
    {W9 : Nat} {Pre : Pt → Array Value → Prop} {Post : Pt → Array Value → Option Value → Pt → Prop} {PostX : Pt → Array Value → Addr → Pt → Prop} (hK : vx_Back l R p e below s args y 3 W9 Pre Post PostX)
    {g : JFrame} (hg : g.method = m) (hsize : g.locals.size = c.maxLocals) {argsL rest : List Value} (hlen : ∀ sig, parseMethodDescriptor y.desc = some sig → argsL.length = sig.parameters.length)
    (hstack : g.stack = argsL.reverse ++ rest) (hW : 2 * g.monitorRoom + (rest.map fun v => v.category).sum ≤ W9) (hdg : decode c.code g.pc = .ok (.invokestatic index, 3))
    (hpre : ∀ vm₁, s.WarmedH vm₁ → Pre ⟨T.setVm vm₁, locs, cells, slots⟩ argsL.toArray) :
    (∃ (v : Option Value) (vm₁ : Vm) (B : Pt), s.WarmedH vm₁ ∧ Stand p l e R s m args below meth c B.U B.locs B.cells B.slots ∧ Post ⟨T.setVm vm₁, locs, cells, slots⟩ argsL.toArray v B ∧
      ∀ target, Steps p.tables e below (B.U.setTop { g with pc := g.pc + 3, stack := v.toList ++ rest }) target → Steps p.tables e below (T.setTop g) target) ∨
    (∃ (q : Addr) (vm₁ : Vm) (B : Pt), s.WarmedH vm₁ ∧ Stand p l e R s m args below meth c B.U B.locs B.cells B.slots ∧ PostX ⟨T.setVm vm₁, locs, cells, slots⟩ argsL.toArray q B ∧
      Steps p.tables e below (T.setTop g) ((B.U.setTop { g with stack := rest }).pushFrame (.throwing q))) := by
  obtain ⟨mk, hnamed⟩ := Cond.code_named hcode
  obtain ⟨methM, cM, hmethM, -, -, -, -, -, -, hsigM⟩ := Cond.code_spec hnamed hcode
  have hstatic : methM.isStatic = true := Cond.static_spec hnamed hmethM hstat
  obtain ⟨kP, hkP, -⟩ := className_of_methodNamed hnamed
  have hinitP : kP.init = .initialized := Cond.initialized_spec (findClass_of_methodNamed hnamed) hkP hinit
  obtain ⟨vm₁, X₁, hstep₁⟩ := X.invokestatic hexec hown hlink hnamed hmethM hstatic hkP hinitP hy (g := g) hg (argsL := argsL) (rest := rest) (hlen _ hsigM) hstack hdg
  rcases hK m meth c ⟨T.setVm vm₁, locs, cells, slots⟩ { g with stack := rest } (.invokestatic index) mk argsL.toArray X₁ hg hsize hdg hW (X₁.named hnamed) (hpre vm₁ X₁.warmed) with ⟨v, B, X', hpost, hsteps⟩ | ⟨q, B, X', hpost, hsteps⟩
  · exact Or.inl ⟨v, vm₁, B, X₁.warmed, X', hpost, fun target h => hstep₁ _ fun acts => by rw [doInvoke_state]; exact hsteps.trans h⟩
  · exact Or.inr ⟨q, vm₁, B, X₁.warmed, X', hpost, hstep₁ _ fun acts => by rw [doInvoke_state]; exact hsteps⟩
end Calls
theorem vx_cls {s : State} {T : State} {vm₁ : Vm} {E : String} {k : ClassId} (hW : s.WarmedH vm₁) (h : (T.setVm vm₁).vm.findClass E = some k) : s.vm.findClass E = some k := by
  have h1 : vm₁.findClass E = some k := h
  rw [hW.alike.findClass] at h1
  exact h1
/-- the method's frame g, with q thrown over it -/
def vx_W (p : Program) (l : Launch) (e : Env) (R : Room) (s : State) (m : MethodId) (args : Array Value) (below : List Frame) (meth : Method) (c : Code) (H : Heap) (locs : List Loc) (cells slots : Nat) (Q : State → Prop) (g : JFrame) (q : Addr) : Prop :=
  ∀ T : State, T.heap = H → Stand p l e R s m args below meth c T locs cells slots → ∃ t, Steps p.tables e below ((T.setTop g).pushFrame (.throwing q)) t ∧ Q t
def vx_Run (p : Program) (l : Launch) (e : Env) (R : Room) (s : State) (m : MethodId) (args : Array Value) (below : List Frame) (meth : Method) (c : Code) (H : Heap) (locs : List Loc) (cells slots mc ms : Nat) (g : JFrame) (rest : List Value) (Qa : State → Outcome → State → Prop) (XC : String → State → State → Prop) (free : Addr → Prop) : Prop :=
  ∀ T : State, T.heap = H → Stand p l e R s m args below meth c T locs cells slots →
    (∃ (v : Option Value) (st₀ t T' : State) (L : List Loc), st₀.heap = H ∧ Stand p l e R s m args below meth c T' (locs ++ L) (cells + mc) (slots + ms) ∧ (∀ q ∈ L, free q.base) ∧ T'.heap = t.heap ∧ T'.vm = t.vm ∧ Qa st₀ (.returned v) t ∧
      Goes p e below T g T' { g with pc := g.pc + 3, stack := v.toList ++ rest }) ∨
    (∃ (q : Addr) (st₀ t T' : State) (L : List Loc) (E : String) (ce : Cell), st₀.heap = H ∧ Stand p l e R s m args below meth c T' (locs ++ L) (cells + mc) (slots + ms) ∧ (∀ z ∈ L, free z.base) ∧ T'.heap = t.heap ∧ T'.vm = t.vm ∧ XC E st₀ t ∧ t.heap[q]? = some ce ∧ ce.vm = .none ∧ s.vm.findClass E = some ce.cls ∧
      Steps p.tables e below (T.setTop g) ((T'.setTop { g with stack := rest }).pushFrame (.throwing q)))
def vx_X {S : Type} (px : S → Prop) (B : String → S → State → Prop) (A : Nat → Prop) : String → State → State → Prop := fun E st t => ∃ u : S, px u ∧ B E u t ∧ va_F A st t
section Runs
variable {p : Program} {l : Launch} {e : Env} {R : Room} {s : State} {m : MethodId} {args : Array Value} {below : List Frame} {meth : Method} {c : Code} {H : Heap} {locs : List Loc} {cells slots : Nat}
variable {y : MethodName} {bytes cc : ByteArray} {maxL nL mc ms n index : Nat} {ret : Option FieldType} {ws : List Cond} {rm : Room} {Pc : Array Value → State → Prop} {Qc : Array Value → State → Outcome → State → Prop} {XC : String → State → State → Prop} {free : Addr → Prop} {Ts : List Cond} {own C : String} {b : Addr} {As rest : List Value} {g : JFrame}
theorem vx_callBack (cb : CallB R s args own index y bytes maxL ret ws rm mc ms n) (hM : vx_Met l y ws rm Pc Qc XC mc ms free) (hbl : FrameBlind Pc) : vx_Back l R p e below s args y 3 8 (PreOf R mc ms Pc) (PostOf Qc mc ms free) (vx_Post XC mc ms free) := by
  obtain ⟨hrc, hrs, hfr, hlo, hws, hcw, -, hini, -⟩ := cb
  exact vx_back (bytes := bytes) (maxL := maxL) (ret := ret) hM hbl hrc hrs hfr hlo hws hcw (fun a' U hW => word_at hW (Or.inl (by first | rfl | simp [Cond.onTables, Cond.keeps, Cond.steady])) hini)
theorem vx_runV (S : CallFix p m c cc nL s args Ts own) (hM : vx_Met l y ws rm Pc Qc XC mc ms free) (cw : CallW R s args own C index y bytes maxL ret ws rm mc ms n) (hp : PreV s H C b Pc As)
    (hg : g.method = m) (hn : As.length = n) (hsize : g.locals.size = nL) (hstack : g.stack = As.reverse ++ .ref b :: rest) (hW : 2 * g.monitorRoom + (rest.map fun v => v.category).sum ≤ 8) (hdg : decode cc g.pc = .ok (.invokevirtual index, 3)) (hf : cells + mc ≤ R.cells ∧ slots + ms ≤ R.slots) :
    vx_Run p l e R s m args below meth c H locs cells slots mc ms g rest (Qc (Value.ref b :: As).toArray) XC free := by
  have hK : vx_Back l R p e below s args y 3 8 (PreOf R mc ms Pc) (PostOf Qc mc ms free) (vx_Post XC mc ms free) := vx_callBack cw.1 hM hp.1
  obtain ⟨⟨-, -, -, -, -, -, hcode, -, hy, hlen, hl⟩, hin, hse⟩ := cw
  obtain ⟨hx, hb, hml, ho, -⟩ := S
  obtain ⟨-, ⟨cellB, hcB, hoB, hclB⟩, hPc⟩ := hp
  intro T hT X
  rcases vx_callV X hx (C := C) (bytes := bytes) (maxL := maxL) (ret := ret) ho hl hin hse hcode hy hK (by rw [hT]; exact hcB) hoB hclB hg (hsize.trans hml.symm) (argsL := As) (rest := rest) (fun sig h => hn.trans (hlen sig h)) hstack hW (by rw [hb]; exact hdg)
    (fun vm₁ hW₁ => ⟨hf.1, hf.2, hPc (T.setVm vm₁) hT hW₁⟩) with ⟨v, vm₁, ⟨U', l2, c2, s2⟩, hW₁, X', ⟨g', mk, t, L, e1, e2, hq, h1, hL, h2, h3⟩, st⟩ | ⟨q, vm₁, ⟨U', l2, c2, s2⟩, hW₁, X', ⟨g', mk, t, L, E, ce, e1, e2, hq, hce, hcv, hcl, h1, hL, h2, h3⟩, st⟩
  · dsimp only [Pt.U, Pt.locs, Pt.cells, Pt.slots] at X' e1 e2 h1 h2 h3 st
    subst h1; subst h2; subst h3
    exact Or.inl ⟨v, (T.setVm vm₁).calling g' mk (Value.ref b :: As).toArray, t, U', L, hT, X', hL, e1, e2, hq, st⟩
  · dsimp only [Pt.U, Pt.locs, Pt.cells, Pt.slots] at X' e1 e2 h1 h2 h3 st hcl
    subst h1; subst h2; subst h3
    exact Or.inr ⟨q, (T.setVm vm₁).calling g' mk (Value.ref b :: As).toArray, t, U', L, E, ce, hT, X', hL, e1, e2, hq, hce, hcv, vx_cls hW₁ hcl, st⟩
theorem vx_runS (S : CallFix p m c cc nL s args Ts own) (hM : vx_Met l y ws rm Pc Qc XC mc ms free) (cw : CallB R s args own index y bytes maxL ret ws rm mc ms n ∧ (Cond.static y).before args s = true) (hp : PreS s H Pc As)
    (hg : g.method = m) (hn : As.length = n) (hsize : g.locals.size = nL) (hstack : g.stack = As.reverse ++ rest) (hW : 2 * g.monitorRoom + (rest.map fun v => v.category).sum ≤ 8) (hdg : decode cc g.pc = .ok (.invokestatic index, 3)) (hf : cells + mc ≤ R.cells ∧ slots + ms ≤ R.slots) :
    vx_Run p l e R s m args below meth c H locs cells slots mc ms g rest (Qc As.toArray) XC free := by
  have hK : vx_Back l R p e below s args y 3 8 (PreOf R mc ms Pc) (PostOf Qc mc ms free) (vx_Post XC mc ms free) := vx_callBack cw.1 hM hp.1
  obtain ⟨⟨-, -, -, -, -, -, hcode, hini, hy, hlen, hl⟩, hstt⟩ := cw
  obtain ⟨hx, hb, hml, ho, -⟩ := S
  intro T hT X
  rcases vx_callS X hx (bytes := bytes) (maxL := maxL) (ret := ret) ho hl hstt hini hcode hy hK hg (hsize.trans hml.symm) (argsL := As) (rest := rest) (fun sig h => hn.trans (hlen sig h)) hstack hW (by rw [hb]; exact hdg)
    (fun vm₁ hW₁ => ⟨hf.1, hf.2, hp.2 (T.setVm vm₁) hT hW₁⟩) with ⟨v, vm₁, ⟨U', l2, c2, s2⟩, hW₁, X', ⟨g', mk, t, L, e1, e2, hq, h1, hL, h2, h3⟩, st⟩ | ⟨q, vm₁, ⟨U', l2, c2, s2⟩, hW₁, X', ⟨g', mk, t, L, E, ce, e1, e2, hq, hce, hcv, hcl, h1, hL, h2, h3⟩, st⟩
  · dsimp only [Pt.U, Pt.locs, Pt.cells, Pt.slots] at X' e1 e2 h1 h2 h3 st
    subst h1; subst h2; subst h3
    exact Or.inl ⟨v, (T.setVm vm₁).calling g' mk As.toArray, t, U', L, hT, X', hL, e1, e2, hq, st⟩
  · dsimp only [Pt.U, Pt.locs, Pt.cells, Pt.slots] at X' e1 e2 h1 h2 h3 st hcl
    subst h1; subst h2; subst h3
    exact Or.inr ⟨q, (T.setVm vm₁).calling g' mk As.toArray, t, U', L, E, ce, hT, X', hL, e1, e2, hq, hce, hcv, vx_cls hW₁ hcl, st⟩
end Runs
section Rows
variable {p : Program} {l : Launch} {e : Env} {R : Room} {s : State} {m : MethodId} {args : Array Value} {below : List Frame} {meth : Method} {c : Code} {H : Heap} {locs : List Loc} {cells slots : Nat} {Q : State → Prop}
variable {mc ms : Nat} {free : Addr → Prop} {A0 A1 : Nat → Prop} {H0 : Heap} {a : Array Value} {pc : Nat} {ls : Array Slot} {st0 rest : List Value}
theorem vx_keep {st₀ t T' : State} {L : List Loc} (h0 : st₀.heap = H) (e1 : T'.heap = t.heap) (hS : va_S A0 H0 H locs) (hA : ∀ q, q < H.size → A1 q → A0 q) (hf : ∀ q, free q → A0 q) (hL : ∀ q ∈ L, free q.base) (hF : va_F A1 st₀ t) :
    H.size ≤ T'.heap.size ∧ (∀ q : Nat, q < H.size → ¬ A1 q → T'.heap[q]? = H[q]?) ∧ va_S A0 H0 T'.heap (locs ++ L) := by
  obtain ⟨hz, hk⟩ := hF
  rw [h0] at hz hk
  exact ⟨by rw [e1]; exact hz, fun q h1 h2 => by rw [e1]; exact hk q h1 h2,
    ⟨Nat.le_trans hS.1 (by rw [e1]; exact hz), fun q h1 h2 => by rw [e1, hk q (Nat.lt_of_lt_of_le h1 hS.1) (fun z => h2 (hA q (Nat.lt_of_lt_of_le h1 hS.1) z))]; exact hS.2.1 q h1 h2, fun q hq => by
      rcases List.mem_append.mp hq with h | h
      · exact hS.2.2 q h
      · exact hf _ (hL q h)⟩⟩
theorem vx_calli {S SX : Type} {post : Int32 → S → Prop} {px : SX → Prop} {B : S → State → Prop} {BX : String → SX → State → Prop} {AX : Nat → Prop} (hr : vx_Run p l e R s m args below meth c H locs cells slots mc ms (F0 m pc ls st0) rest (va_Qi post B A1 a) (vx_X px BX AX) free) (hS : va_S A0 H0 H locs) (hA : ∀ q, q < H.size → A1 q → A0 q) (hf : ∀ q, free q → A0 q) (hAX : ∀ q, q < H.size → AX q → A0 q)
    (kx : ∀ (E : String) (ce : Cell) (q9 : Addr) (u : SX) (t : State) (H1 : Heap) (locs1 : List Loc), t.heap = H1 → s.vm.Alike t.vm → px u → BX E u t → H.size ≤ H1.size → (∀ q : Nat, q < H.size → ¬ AX q → H1[q]? = H[q]?) → va_S A0 H0 H1 locs1 → H1[q9]? = some ce → ce.vm = .none → s.vm.findClass E = some ce.cls → vx_W p l e R s m args below meth c H1 locs1 (cells + mc) (slots + ms) Q (F0 m pc ls rest) q9)
    (kk : ∀ (r : Int32) (u : S) (t : State) (H1 : Heap) (locs1 : List Loc), t.heap = H1 → s.vm.Alike t.vm → post r u → B u t → H.size ≤ H1.size → (∀ q : Nat, q < H.size → ¬ A1 q → H1[q]? = H[q]?) → va_S A0 H0 H1 locs1 → W p l e R s m args below meth c H1 locs1 (cells + mc) (slots + ms) Q (F0 m (pc + 3) ls (.int r :: rest))) : W p l e R s m args below meth c H locs cells slots Q (F0 m pc ls st0) := by
  intro T hT X
  rcases hr T hT X with ⟨v, st₀, t, T', L, h0, X', hL, e1, e2, ⟨⟨r, u, hv, hp, hb⟩, hF⟩, st⟩ | ⟨q, st₀, t, T', L, E, ce, h0, X', hL, e1, e2, ⟨u, hp, hb, hF⟩, hce, hcv, hcl, st⟩
  · cases hv
    obtain ⟨k1, k2, k3⟩ := vx_keep h0 e1 hS hA hf hL hF
    obtain ⟨t2, a1, b1⟩ := kk r u t T'.heap (locs ++ L) e1.symm (by rw [← e2]; exact X'.warmed.alike) hp hb k1 k2 k3 T' rfl X'
    exact ⟨t2, st t2 a1, b1⟩
  · obtain ⟨k1, k2, k3⟩ := vx_keep h0 e1 hS hAX hf hL hF
    obtain ⟨t2, a1, b1⟩ := kx E ce q u t T'.heap (locs ++ L) e1.symm (by rw [← e2]; exact X'.warmed.alike) hp hb k1 k2 k3 (by rw [e1]; exact hce) hcv hcl T' rfl X'
    exact ⟨t2, st.trans a1, b1⟩
theorem vx_calll {S SX : Type} {post : Int64 → S → Prop} {px : SX → Prop} {B : S → State → Prop} {BX : String → SX → State → Prop} {AX : Nat → Prop} (hr : vx_Run p l e R s m args below meth c H locs cells slots mc ms (F0 m pc ls st0) rest (va_Ql post B A1 a) (vx_X px BX AX) free) (hS : va_S A0 H0 H locs) (hA : ∀ q, q < H.size → A1 q → A0 q) (hf : ∀ q, free q → A0 q) (hAX : ∀ q, q < H.size → AX q → A0 q)
    (kx : ∀ (E : String) (ce : Cell) (q9 : Addr) (u : SX) (t : State) (H1 : Heap) (locs1 : List Loc), t.heap = H1 → s.vm.Alike t.vm → px u → BX E u t → H.size ≤ H1.size → (∀ q : Nat, q < H.size → ¬ AX q → H1[q]? = H[q]?) → va_S A0 H0 H1 locs1 → H1[q9]? = some ce → ce.vm = .none → s.vm.findClass E = some ce.cls → vx_W p l e R s m args below meth c H1 locs1 (cells + mc) (slots + ms) Q (F0 m pc ls rest) q9)
    (kk : ∀ (r : Int64) (u : S) (t : State) (H1 : Heap) (locs1 : List Loc), t.heap = H1 → s.vm.Alike t.vm → post r u → B u t → H.size ≤ H1.size → (∀ q : Nat, q < H.size → ¬ A1 q → H1[q]? = H[q]?) → va_S A0 H0 H1 locs1 → W p l e R s m args below meth c H1 locs1 (cells + mc) (slots + ms) Q (F0 m (pc + 3) ls (.long r :: rest))) : W p l e R s m args below meth c H locs cells slots Q (F0 m pc ls st0) := by
  intro T hT X
  rcases hr T hT X with ⟨v, st₀, t, T', L, h0, X', hL, e1, e2, ⟨⟨r, u, hv, hp, hb⟩, hF⟩, st⟩ | ⟨q, st₀, t, T', L, E, ce, h0, X', hL, e1, e2, ⟨u, hp, hb, hF⟩, hce, hcv, hcl, st⟩
  · cases hv
    obtain ⟨k1, k2, k3⟩ := vx_keep h0 e1 hS hA hf hL hF
    obtain ⟨t2, a1, b1⟩ := kk r u t T'.heap (locs ++ L) e1.symm (by rw [← e2]; exact X'.warmed.alike) hp hb k1 k2 k3 T' rfl X'
    exact ⟨t2, st t2 a1, b1⟩
  · obtain ⟨k1, k2, k3⟩ := vx_keep h0 e1 hS hAX hf hL hF
    obtain ⟨t2, a1, b1⟩ := kx E ce q u t T'.heap (locs ++ L) e1.symm (by rw [← e2]; exact X'.warmed.alike) hp hb k1 k2 k3 (by rw [e1]; exact hce) hcv hcl T' rfl X'
    exact ⟨t2, st.trans a1, b1⟩
theorem vx_callf {S SX : Type} {post : UInt32 → S → Prop} {px : SX → Prop} {B : S → State → Prop} {BX : String → SX → State → Prop} {AX : Nat → Prop} (hr : vx_Run p l e R s m args below meth c H locs cells slots mc ms (F0 m pc ls st0) rest (va_Qf post B A1 a) (vx_X px BX AX) free) (hS : va_S A0 H0 H locs) (hA : ∀ q, q < H.size → A1 q → A0 q) (hf : ∀ q, free q → A0 q) (hAX : ∀ q, q < H.size → AX q → A0 q)
    (kx : ∀ (E : String) (ce : Cell) (q9 : Addr) (u : SX) (t : State) (H1 : Heap) (locs1 : List Loc), t.heap = H1 → s.vm.Alike t.vm → px u → BX E u t → H.size ≤ H1.size → (∀ q : Nat, q < H.size → ¬ AX q → H1[q]? = H[q]?) → va_S A0 H0 H1 locs1 → H1[q9]? = some ce → ce.vm = .none → s.vm.findClass E = some ce.cls → vx_W p l e R s m args below meth c H1 locs1 (cells + mc) (slots + ms) Q (F0 m pc ls rest) q9)
    (kk : ∀ (r : UInt32) (u : S) (t : State) (H1 : Heap) (locs1 : List Loc), t.heap = H1 → s.vm.Alike t.vm → post r u → B u t → H.size ≤ H1.size → (∀ q : Nat, q < H.size → ¬ A1 q → H1[q]? = H[q]?) → va_S A0 H0 H1 locs1 → W p l e R s m args below meth c H1 locs1 (cells + mc) (slots + ms) Q (F0 m (pc + 3) ls (.float r :: rest))) : W p l e R s m args below meth c H locs cells slots Q (F0 m pc ls st0) := by
  intro T hT X
  rcases hr T hT X with ⟨v, st₀, t, T', L, h0, X', hL, e1, e2, ⟨⟨r, u, hv, hp, hb⟩, hF⟩, st⟩ | ⟨q, st₀, t, T', L, E, ce, h0, X', hL, e1, e2, ⟨u, hp, hb, hF⟩, hce, hcv, hcl, st⟩
  · cases hv
    obtain ⟨k1, k2, k3⟩ := vx_keep h0 e1 hS hA hf hL hF
    obtain ⟨t2, a1, b1⟩ := kk r u t T'.heap (locs ++ L) e1.symm (by rw [← e2]; exact X'.warmed.alike) hp hb k1 k2 k3 T' rfl X'
    exact ⟨t2, st t2 a1, b1⟩
  · obtain ⟨k1, k2, k3⟩ := vx_keep h0 e1 hS hAX hf hL hF
    obtain ⟨t2, a1, b1⟩ := kx E ce q u t T'.heap (locs ++ L) e1.symm (by rw [← e2]; exact X'.warmed.alike) hp hb k1 k2 k3 (by rw [e1]; exact hce) hcv hcl T' rfl X'
    exact ⟨t2, st.trans a1, b1⟩
theorem vx_calld {S SX : Type} {post : UInt64 → S → Prop} {px : SX → Prop} {B : S → State → Prop} {BX : String → SX → State → Prop} {AX : Nat → Prop} (hr : vx_Run p l e R s m args below meth c H locs cells slots mc ms (F0 m pc ls st0) rest (va_Qd post B A1 a) (vx_X px BX AX) free) (hS : va_S A0 H0 H locs) (hA : ∀ q, q < H.size → A1 q → A0 q) (hf : ∀ q, free q → A0 q) (hAX : ∀ q, q < H.size → AX q → A0 q)
    (kx : ∀ (E : String) (ce : Cell) (q9 : Addr) (u : SX) (t : State) (H1 : Heap) (locs1 : List Loc), t.heap = H1 → s.vm.Alike t.vm → px u → BX E u t → H.size ≤ H1.size → (∀ q : Nat, q < H.size → ¬ AX q → H1[q]? = H[q]?) → va_S A0 H0 H1 locs1 → H1[q9]? = some ce → ce.vm = .none → s.vm.findClass E = some ce.cls → vx_W p l e R s m args below meth c H1 locs1 (cells + mc) (slots + ms) Q (F0 m pc ls rest) q9)
    (kk : ∀ (r : UInt64) (u : S) (t : State) (H1 : Heap) (locs1 : List Loc), t.heap = H1 → s.vm.Alike t.vm → post r u → B u t → H.size ≤ H1.size → (∀ q : Nat, q < H.size → ¬ A1 q → H1[q]? = H[q]?) → va_S A0 H0 H1 locs1 → W p l e R s m args below meth c H1 locs1 (cells + mc) (slots + ms) Q (F0 m (pc + 3) ls (.double r :: rest))) : W p l e R s m args below meth c H locs cells slots Q (F0 m pc ls st0) := by
  intro T hT X
  rcases hr T hT X with ⟨v, st₀, t, T', L, h0, X', hL, e1, e2, ⟨⟨r, u, hv, hp, hb⟩, hF⟩, st⟩ | ⟨q, st₀, t, T', L, E, ce, h0, X', hL, e1, e2, ⟨u, hp, hb, hF⟩, hce, hcv, hcl, st⟩
  · cases hv
    obtain ⟨k1, k2, k3⟩ := vx_keep h0 e1 hS hA hf hL hF
    obtain ⟨t2, a1, b1⟩ := kk r u t T'.heap (locs ++ L) e1.symm (by rw [← e2]; exact X'.warmed.alike) hp hb k1 k2 k3 T' rfl X'
    exact ⟨t2, st t2 a1, b1⟩
  · obtain ⟨k1, k2, k3⟩ := vx_keep h0 e1 hS hAX hf hL hF
    obtain ⟨t2, a1, b1⟩ := kx E ce q u t T'.heap (locs ++ L) e1.symm (by rw [← e2]; exact X'.warmed.alike) hp hb k1 k2 k3 (by rw [e1]; exact hce) hcv hcl T' rfl X'
    exact ⟨t2, st.trans a1, b1⟩
theorem vx_callv {S SX : Type} {post : S → Prop} {px : SX → Prop} {B : S → State → Prop} {BX : String → SX → State → Prop} {AX : Nat → Prop} (hr : vx_Run p l e R s m args below meth c H locs cells slots mc ms (F0 m pc ls st0) rest (va_Qv post B A1 a) (vx_X px BX AX) free) (hS : va_S A0 H0 H locs) (hA : ∀ q, q < H.size → A1 q → A0 q) (hf : ∀ q, free q → A0 q) (hAX : ∀ q, q < H.size → AX q → A0 q)
    (kx : ∀ (E : String) (ce : Cell) (q9 : Addr) (u : SX) (t : State) (H1 : Heap) (locs1 : List Loc), t.heap = H1 → s.vm.Alike t.vm → px u → BX E u t → H.size ≤ H1.size → (∀ q : Nat, q < H.size → ¬ AX q → H1[q]? = H[q]?) → va_S A0 H0 H1 locs1 → H1[q9]? = some ce → ce.vm = .none → s.vm.findClass E = some ce.cls → vx_W p l e R s m args below meth c H1 locs1 (cells + mc) (slots + ms) Q (F0 m pc ls rest) q9)
    (kk : ∀ (u : S) (t : State) (H1 : Heap) (locs1 : List Loc), t.heap = H1 → s.vm.Alike t.vm → post u → B u t → H.size ≤ H1.size → (∀ q : Nat, q < H.size → ¬ A1 q → H1[q]? = H[q]?) → va_S A0 H0 H1 locs1 → W p l e R s m args below meth c H1 locs1 (cells + mc) (slots + ms) Q (F0 m (pc + 3) ls (rest))) : W p l e R s m args below meth c H locs cells slots Q (F0 m pc ls st0) := by
  intro T hT X
  rcases hr T hT X with ⟨v, st₀, t, T', L, h0, X', hL, e1, e2, ⟨⟨u, hv, hp, hb⟩, hF⟩, st⟩ | ⟨q, st₀, t, T', L, E, ce, h0, X', hL, e1, e2, ⟨u, hp, hb, hF⟩, hce, hcv, hcl, st⟩
  · cases hv
    obtain ⟨k1, k2, k3⟩ := vx_keep h0 e1 hS hA hf hL hF
    obtain ⟨t2, a1, b1⟩ := kk u t T'.heap (locs ++ L) e1.symm (by rw [← e2]; exact X'.warmed.alike) hp hb k1 k2 k3 T' rfl X'
    exact ⟨t2, st t2 a1, b1⟩
  · obtain ⟨k1, k2, k3⟩ := vx_keep h0 e1 hS hAX hf hL hF
    obtain ⟨t2, a1, b1⟩ := kx E ce q u t T'.heap (locs ++ L) e1.symm (by rw [← e2]; exact X'.warmed.alike) hp hb k1 k2 k3 (by rw [e1]; exact hce) hcv hcl T' rfl X'
    exact ⟨t2, st.trans a1, b1⟩
/-- caught by the row x of this method's table; the rows ahead don't take it -/
theorem vx_catch {own name : String} {E : String} {ce : Cell} {q : Addr} (hown : s.vm.findClass own = some m.cls) (pre : List ExceptionTableEntry) (x : ExceptionTableEntry) (suf : List ExceptionTableEntry) (hsplit : c.exceptionTable.toList = pre ++ x :: suf)
    (hpass : ∀ z ∈ pre, covers z pc = false ∨ (z.catchType ≠ 0 ∧ ∃ nm : String, (Cond.classLink own z.catchType nm).before args s = true ∧ va_Nc E nm s)) (hx : covers x pc = true) (h0 : x.catchType ≠ 0)
    (hlink : (Cond.classLink own x.catchType name).before args s = true) (hcast : (Cond.castable E name).before args s = true) (hcell : H[q]? = some ce) (hv : ce.vm = .none) (hcl : s.vm.findClass E = some ce.cls)
    (kk : W p l e R s m args below meth c H locs cells slots Q (F0 m x.handlerPc ls [.ref q])) : vx_W p l e R s m args below meth c H locs cells slots Q (F0 m pc ls rest) q := by
  intro T hT X
  have hpl : e.platform.magicAccessors = ({} : Platform).magicAccessors := by rw [X.admits.platform]
  obtain ⟨c3, c4, hc3, hc4, hasg⟩ := Cond.castable_spec hcast
  cases Option.some.inj (hc3.symm.trans hcl)
  obtain ⟨c5, hc5, hcl5⟩ := Cond.classLink_spec hown hlink e.platform hpl
  cases Option.some.inj (hc4.symm.trans hc5)
  obtain ⟨vm', X', st⟩ := X.thenCaughtThrough q (g := F0 m pc ls rest) rfl (Steps.refl _) (by rw [hT]; exact hcell) (by rw [hv]; rfl) (by obtain ⟨k9, h9, -⟩ := Vm.findClass_spec hcl; exact ⟨k9, h9⟩) pre x suf hsplit
    (fun z hz => by
      rcases hpass z hz with h | ⟨hz0, nm, hl1, hn1⟩
      · exact Or.inl h
      · obtain ⟨c6, hc6, hcl6⟩ := Cond.classLink_spec hown hl1 e.platform hpl
        obtain ⟨a8, b8, h1, h2, h3⟩ := hn1
        cases Option.some.inj (h1.symm.trans hcl)
        cases Option.some.inj (h2.symm.trans hc6)
        exact Or.inr ⟨hz0, _, hcl6, h3⟩) hx (Or.inr ⟨h0, c4, hcl5, hasg⟩)
  obtain ⟨t, a1, b1⟩ := kk (T.setVm vm') hT X'
  exact ⟨t, st.trans a1, b1⟩
end Rows
section Ends
variable {p : Program} {l : Launch} {e : Env} {R : Room} {s : State} {m : MethodId} {args : Array Value} {below : List Frame} {meth : Method} {c : Code} {H : Heap} {locs : List Loc} {cells slots : Nat} {Q : State → Prop}
variable {mc ms : Nat} {free : Addr → Prop} {A0 A1 : Nat → Prop} {H0 : Heap} {a : Array Value} {ls : Array Slot} {st0 rest : List Value}
variable {Qc : Array Value → State → Outcome → State → Prop} {XC : String → State → State → Prop}
/-- what a body that may throw owes at its end -/
def vx_MQ (below : List Frame) (Qc : Array Value → State → Outcome → State → Prop) (XC : String → State → State → Prop) (a : Array Value) (s : State) (mc ms : Nat) (free : Addr → Prop) : State → Prop := fun t =>
  ∃ o, t.status = .running ∧ Ended t below o ∧ vx_Q Qc XC mc ms free a s o t
theorem vx_ret {g : JFrame} {mc ms : Nat} (k : W p l e R s m args below meth c H locs cells slots (MQ below Qc args s mc ms free) g) : W p l e R s m args below meth c H locs cells slots (vx_MQ below Qc XC args s mc ms free) g := by
  intro T hT X
  obtain ⟨t, a1, o, b1, b2, b3, b4⟩ := k T hT X
  exact ⟨t, a1, o, b1, b2, Or.inl ⟨b3, b4⟩⟩
/-- not caught here: it goes on to the caller -/
theorem vx_widen {g : JFrame} {q : Addr} {k n : Nat} (h1 : cells ≤ k) (h2 : slots ≤ n) (kk : vx_W p l e R s m args below meth c H locs k n Q g q) : vx_W p l e R s m args below meth c H locs cells slots Q g q := fun T hT X => kk T hT (stand_widen X h1 h2)
theorem vx_out {pc : Nat} {E : String} {ce : Cell} {q : Addr} {mc ms : Nat} (hout : ∀ x ∈ c.exceptionTable.toList, covers x pc = false) (hlocks : meth.locks = false) (hcell : H[q]? = some ce) (hv : ce.vm = .none) (hcl : s.vm.findClass E = some ce.cls)
    (hx : ∀ t : State, t.heap = H → s.vm.Alike t.vm → XC E s t) (hf : ∀ z ∈ locs, free z.base) (hc : cells ≤ mc) (hs : slots ≤ ms) :
    vx_W p l e R s m args below meth c H locs cells slots (vx_MQ below Qc XC args s mc ms free) (F0 m pc ls rest) q := by
  intro T hT X
  obtain ⟨st1, hrun, hend, hW, hsm⟩ := X.leaveThrown q (g := F0 m pc ls rest) rfl rfl rfl hout hlocks
  have hcell9 : (T.setFrames (.throwing q :: below)).heap[q]? = some ce := by
    show T.heap[q]? = some ce
    rw [hT]; exact hcell
  exact ⟨_, st1, .threw q, hrun, hend, Or.inr ⟨q, rfl, E, ce, locs, hx _ hT hW.alike, hcell9, hv, hcl, hW, hsm.mono hc hs, hf⟩⟩
theorem vx_frame {U : State} {k n : Nat} (h : s.sameButNew ({ U with vm := s.vm } : State) locs k n) : s.heap.size ≤ U.heap.size ∧ ∀ q : Nat, q < s.heap.size → (∀ z ∈ locs, z.base ≠ q) → U.heap[q]? = s.heap[q]? := by
  obtain ⟨-, h2, -, -, -, h6⟩ := h
  refine ⟨h2, fun q hq hz => ?_⟩
  obtain ⟨c9, e1, e2, e3, e4⟩ := h6 q _ (Array.getElem?_eq_getElem hq)
  have hs : c9.slots = (s.heap[q]).slots := Array.ext_getElem? fun i => e4 i fun hm => hz _ hm rfl
  have h9 : c9 = s.heap[q] := by
    rw [hs] at e2
    exact e2
  have e5 : U.heap[q]? = some c9 := e1
  rw [e5, h9, Array.getElem?_eq_getElem hq]
/-- the words of a throw but the four that speak of the heap -/
def vx_no (w : Cond) : Bool := decide (w ≠ .isRef (.static Bundle.tN "UNASSIGNED_STACK" Bundle.steD)) && decide (w ≠ .isRef (.static Bundle.tN "SUPPRESSED_SENTINEL" Bundle.listD)) && decide (w ≠ .laysStatic Bundle.tN "UNASSIGNED_STACK" Bundle.steD) && decide (w ≠ .laysStatic Bundle.tN "SUPPRESSED_SENTINEL" Bundle.listD)
def vx_at0 (own : String) (ic : Nat) (X : String) (names : List String) : List Cond := (Bundle.ownAtoms0 own ic X names).filter vx_no
def vx_atS (own : String) (ic : Nat) (X : String) (names : List String) : List Cond := (Bundle.ownAtoms own ic X names).filter vx_no
/-- a word that the tables alone decide, or a good one -/
def vx_ot (w : Cond) : Bool := w.onTables || goodWord w
theorem vx_ot_at {args a' : Array Value} {s U : State} {w : Cond} (hW : s.WarmedH U.vm) (hvm : s.vm = U.vm) (hg : vx_ot w = true) (h : w.before args s = true) : w.before a' U = true := by
  simp only [vx_ot, Bool.or_eq_true] at hg
  rcases hg with hg | hg
  · exact va_tabs hg hvm h
  · exact word_at hW (good_of_word hg) h
/-- a list's words: the good ones out of the method's own list, the others by premises of their own -/
theorem vx_hat {args : Array Value} {s : State} {L B : List Cond} (h1 : ∀ w ∈ L.filter goodWord, w.before args s = true) (h2 : ∀ w ∈ L.filter (fun w => !goodWord w), w ∈ B) (h3 : ∀ w ∈ B, w.before args s = true) : ∀ w ∈ L, w.before args s = true := by
  intro w hw
  by_cases g : goodWord w = true
  · exact h1 w (List.mem_filter.mpr ⟨hw, g⟩)
  · refine h3 w (h2 w (List.mem_filter.mpr ⟨hw, ?_⟩))
    show (!goodWord w) = true
    cases hgw : goodWord w
    · rfl
    · exact absurd hgw g
theorem vx_c {args : Array Value} {s : State} {w : Cond} {B : List Cond} (h : w.before args s = true) (t : ∀ w ∈ B, w.before args s = true) : ∀ w' ∈ w :: B, w'.before args s = true := fun w' h' => (List.mem_cons.mp h').elim (fun e => by rw [e]; exact h) (t w')
theorem vx_n {args : Array Value} {s : State} : ∀ w ∈ ([] : List Cond), w.before args s = true := fun _ h => nomatch h
theorem vx_own {args : Array Value} {s : State} {L : List Cond} (h1 : ∀ w ∈ L.filter vx_no, w.before args s = true)
    (hU : (Cond.isRef (.static Bundle.tN "UNASSIGNED_STACK" Bundle.steD)).before args s = true) (hN : (Cond.isRef (.static Bundle.tN "SUPPRESSED_SENTINEL" Bundle.listD)).before args s = true)
    (lU : (Cond.laysStatic Bundle.tN "UNASSIGNED_STACK" Bundle.steD).before args s = true) (lN : (Cond.laysStatic Bundle.tN "SUPPRESSED_SENTINEL" Bundle.listD).before args s = true) : ∀ w ∈ L, w.before args s = true := by
  intro w hw
  by_cases e1 : w = .isRef (.static Bundle.tN "UNASSIGNED_STACK" Bundle.steD)
  · rw [e1]; exact hU
  · by_cases e2 : w = .isRef (.static Bundle.tN "SUPPRESSED_SENTINEL" Bundle.listD)
    · rw [e2]; exact hN
    · by_cases e3 : w = .laysStatic Bundle.tN "UNASSIGNED_STACK" Bundle.steD
      · rw [e3]; exact lU
      · by_cases e4 : w = .laysStatic Bundle.tN "SUPPRESSED_SENTINEL" Bundle.listD
        · rw [e4]; exact lN
        · exact h1 w (List.mem_filter.mpr ⟨hw, by unfold vx_no; rw [decide_eq_true e1, decide_eq_true e2, decide_eq_true e3, decide_eq_true e4]; rfl⟩)
/-- where a static field lies, its class's statics cell in H -/
def vx_L (C n d : String) (A : Nat → Prop) (U : State) (H : Heap) : Prop := ∃ (c : ClassId) (k : Class) (i : Nat) (f : Field) (a : Nat) (cell : Cell), U.vm.findClass C = some c ∧ U.fieldFound? C n d = some (c, k, i, f) ∧ f.isStatic = true ∧ k.statics = some a ∧ H[a]? = some cell ∧ cell.vm.isStatics = true ∧ cell.cls = c ∧ f.slot < cell.slots.size ∧ k.staticTypes[f.slot]? = some f.type ∧ ¬ A a
theorem vx_L.moved {C n d : String} {A : Nat → Prop} {u U : State} {H : Heap} (hvm : u.vm.Alike U.vm) (h : vx_L C n d A u H) : vx_L C n d A U H := by
  obtain ⟨c, k, i, f, a, cell, h1, h2, h3, h4, h5, h6, h7, h8, h9, h10⟩ := h
  obtain ⟨k', hi', he⟩ := State.fieldFound?_setVm hvm h2
  exact ⟨c, k', i, f, a, cell, by rw [hvm.findClass]; exact h1, hi', h3, by rw [he]; exact h4, h5, h6, h7, h8, by rw [he]; exact h9, h10⟩
theorem vx_L.kept {C n d : String} {A : Nat → Prop} {U : State} {H H1 : Heap} (h : vx_L C n d A U H) (hq : ∀ a : Nat, a < H.size → ¬ A a → H1[a]? = H[a]?) : vx_L C n d A U H1 := by
  obtain ⟨c, k, i, f, a, cell, h1, h2, h3, h4, h5, h6, h7, h8, h9, h10⟩ := h
  exact ⟨c, k, i, f, a, cell, h1, h2, h3, h4, by rw [hq a (Array.getElem?_eq_some_iff.mp h5).1 h10]; exact h5, h6, h7, h8, h9, h10⟩
theorem vx_L.narrow {C n d : String} {A B : Nat → Prop} {U : State} {H : Heap} (h : vx_L C n d A U H) (hAB : ∀ q, B q → A q) : vx_L C n d B U H := by
  obtain ⟨c, k, i, f, a, cell, h1, h2, h3, h4, h5, h6, h7, h8, h9, h10⟩ := h
  exact ⟨c, k, i, f, a, cell, h1, h2, h3, h4, h5, h6, h7, h8, h9, fun z => h10 (hAB _ z)⟩
theorem vx_L.word {C n d : String} {A : Nat → Prop} {s : State} {args : Array Value} (h : vx_L C n d A s s.heap) : (Cond.laysStatic C n d).before args s = true := by
  obtain ⟨c, k, i, f, a, cell, h1, h2, h3, h4, h5, h6, h7, h8, h9, -⟩ := h
  show (Cond.laysStatic C n d).holds args s none s [] = true
  exact Cond.laysStatic_of h1 h2 h3 h4 h5 h6 h7 h8 h9
/-- .. and what it holds: null or some reference -/
def vx_Zq (C n d : String) (A : Nat → Prop) (U : State) (H : Heap) : Prop := va_Zq C n d A U H ∧ vx_L C n d A U H
theorem vx_Zq.moved {C n d : String} {A : Nat → Prop} {u U : State} {H : Heap} (hvm : u.vm.Alike U.vm) (h : vx_Zq C n d A u H) : vx_Zq C n d A U H := ⟨va_Zq.moved hvm h.1, vx_L.moved hvm h.2⟩
theorem vx_Zq.kept {C n d : String} {A : Nat → Prop} {U : State} {H H1 : Heap} (h : vx_Zq C n d A U H) (hq : ∀ a : Nat, a < H.size → ¬ A a → H1[a]? = H[a]?) : vx_Zq C n d A U H1 := ⟨va_Zq.kept h.1 hq, vx_L.kept h.2 hq⟩
theorem vx_Zq.narrow {C n d : String} {A B : Nat → Prop} {U : State} {H : Heap} (h : vx_Zq C n d A U H) (hAB : ∀ q, B q → A q) : vx_Zq C n d B U H := ⟨va_Zq.narrow h.1 hAB, vx_L.narrow h.2 hAB⟩
theorem vx_Zqof {args : Array Value} {s : State} {C n d : String} {A : Nat → Prop} (hl : (Cond.laysStatic C n d).before args s = true) (hini : (Cond.initialized C).before args s = true) (h : (Cond.isRef (.static C n d)).before args s = true) (hA : ∀ a : Nat, a < s.heap.size → ¬ A a) : vx_Zq C n d A s s.heap := by
  refine ⟨va_Zqof hl hini h hA, ?_⟩
  obtain ⟨c, k, i, f, a, cell, h1, h2, h3, h4, h5, h6, h7, h8, h9⟩ := Cond.laysStatic_spec hl
  exact ⟨c, k, i, f, a, cell, h1, h2, h3, h4, h5, h6, h7, h8, h9, hA a (Array.getElem?_eq_some_iff.mp h5).1⟩
theorem vx_isRef {C n d : String} {v : Value} {A : Nat → Prop} {s : State} {args : Array Value} (h : va_Z C n d v A s s.heap) (hv : v.isRef = true) : (Cond.isRef (.static C n d)).before args s = true := by
  obtain ⟨cf, kf, fi, f, a, cell, h1, h2, h3, h4, h5, h6, h7, -⟩ := h
  have he : (Term.static C n d).eval args s none [] s = some v := by
    simp [Term.eval, State.fieldNamed?, h1, h2, h4, h5, h6, h7]
  simp only [Cond.before, Cond.holds, Cond.value, he]
  cases v <;> simp_all [Value.isRef]
theorem vx_isRefq {C n d : String} {A : Nat → Prop} {s : State} {args : Array Value} (h : va_Zq C n d A s s.heap) : (Cond.isRef (.static C n d)).before args s = true := by
  rcases h with h | ⟨t, h⟩
  · exact vx_isRef h rfl
  · exact vx_isRef h rfl
/-- the same frame, seen from here: as if the method were called anew in this heap -/
theorem vx_rebase {T : State} (X : Stand p l e R s m args below meth c T locs cells slots) {R' : Room} (hf : R'.frames ≤ R.frames) (hl : R'.locals ≤ R.locals) (hc : cells + R'.cells ≤ R.cells) (hs : slots + R'.slots ≤ R.slots) :
    Stand p l e R' ((T.setVm s.vm).setFrames (.invoking m args :: below)) m args below meth c T [] 0 0 := by
  have htop : (T.setVm s.vm).topJava?.isSome := X.here.top
  have hF : ((T.setVm s.vm).setFrames (.invoking m args :: below)).frames = .invoking m args :: below := State.frames_setFrames _ (State.cur_lt_of_top htop)
  obtain ⟨g₀, hg0⟩ := Option.isSome_iff_exists.mp htop
  obtain ⟨r, hr⟩ := State.topJava?_eq_some.mp hg0
  have hl9 : e.platform.stackLimits (T.setVm s.vm).me = e.platform.stackLimits s.me := X.limits
  have hb9 : (T.setVm s.vm).me.stackBytes = s.me.stackBytes := X.bytes
  refine ⟨X.admits, X.cas, X.clock, hF, ?_, X.hears, X.method, X.code, X.here, X.tail, X.warmed, ?_, ?_, ?_⟩
  · have h := X.room
    have hU : ((T.setVm s.vm).setFrames (.invoking m args :: below)).localsInUse = s.localsInUse := by
      rw [State.localsInUse_invoking hF (meth := meth) (c := c) X.method X.code, State.localsInUse_invoking X.frames X.method X.code]
    simp only [State.hasRoom, Bool.and_eq_true, decide_eq_true_eq] at h ⊢
    obtain ⟨⟨⟨⟨h1, h2, h3, h4, h5, h6⟩, h7⟩, h8⟩, h9⟩ := h
    rw [X.frames, List.length_cons] at h2 h3
    have q1 := X.heapSize
    have q2 := X.used
    simp only [hF, hU, List.length_cons, State.stackLimits_setFrames, State.stackBytes_setFrames, hl9, hb9]
    refine ⟨⟨⟨⟨by omega, by omega, by omega, by omega, by omega, h6⟩, ?_⟩, ?_⟩, X.book⟩
    · show T.heap.size + R'.cells ≤ e.platform.maxCells
      omega
    · show T.slotsUsed + R'.slots ≤ e.platform.maxSlots
      omega
  · rw [State.stackLimits_setFrames]; rfl
  · rw [State.stackBytes_setFrames]; rfl
  · refine ⟨?_, Nat.le_refl _, Nat.le_refl _, ?_, ?_, fun a c9 h9 => ⟨c9, h9, rfl, rfl, fun _ _ => rfl⟩⟩
    · obtain ⟨t, ht, -⟩ := State.frames_cons hr
      show T.setVm s.vm = { ((T.setVm s.vm).setFrames (.invoking m args :: below)).setFrames (T.setVm s.vm).frames with heap := T.heap, slotsUsed := T.slotsUsed }
      rw [State.setFrames_setFrames, State.setFrames_self ht]
      rfl
    · show T.slotsUsed = T.slotsUsed + ((T.heap.toList.drop T.heap.size).map (·.slots.size)).sum
      rw [List.drop_eq_nil_of_le (Nat.le_of_eq Array.length_toList)]
      rfl
    · show ((T.heap.toList.drop T.heap.size).map (·.slots.size)).sum ≤ 0
      rw [List.drop_eq_nil_of_le (Nat.le_of_eq Array.length_toList)]
      exact Nat.le_refl _
/-- 'throw new E()': new; dup; invokespecial; athrow -/
theorem vx_throw0 {cc : ByteArray} {pc : Nat} (hexec : p.tables.exec = Jvm.exec) (hb : c.code = cc) (hl : l.stackTraces = false) {own cls : String} {names : List String} {ik ic mc ms : Nat} {A : Nat → Prop}
    (hown : s.vm.findClass own = some m.cls) (hcls : Bundle.fit cls = true) (hnames : ∀ n ∈ names, Bundle.fit n = true)
    (hk : (Cond.classLink own ik cls).before args s = true) (hini : (Cond.initialized cls).before args s = true) (hat : ∀ w ∈ vx_at0 own ic cls names, w.before args s = true)
    (hgood : ∀ w ∈ Cond.classLink own ik cls :: Cond.initialized cls :: vx_at0 own ic cls names, vx_ot w = true)
    (hU : vx_Zq Bundle.tN "UNASSIGNED_STACK" Bundle.steD A s s.heap) (hN : vx_Zq Bundle.tN "SUPPRESSED_SENTINEL" Bundle.listD A s s.heap) (hS : va_S A s.heap H locs) (hsize : ls.size = c.maxLocals)
    (d0 : decode cc pc = .ok (.new ik, 3)) (d3 : decode cc (pc + 3) = .ok (.dup, 1)) (d4 : decode cc (pc + 4) = .ok (.invokespecial ic, 3)) (d7 : decode cc (pc + 7) = .ok (.athrow, 1))
    (hout : ∀ x ∈ c.exceptionTable.toList, covers x (pc + 7) = false)
    (hRframes : names.length + 3 < R.frames) (hRlocals : (rest.map fun v => v.category).sum + (13 * (names.length + 1) + 42) ≤ R.locals) (hRcells : cells + 1 ≤ R.cells) (hRslots : slots + 6 ≤ R.slots) (hlocks : meth.locks = false)
    (hx : ∀ t : State, s.vm.Alike t.vm → H.size ≤ t.heap.size → (∀ q : Nat, q < H.size → t.heap[q]? = H[q]?) → XC cls s t)
    (hf : ∀ z ∈ locs, free z.base) (hc : cells + 1 ≤ mc) (hs : slots + 6 ≤ ms) :
    W p l e R s m args below meth c H locs cells slots (vx_MQ below Qc XC args s mc ms free) (F0 m pc ls rest) := by
  intro T hT X
  have htr : e.platform.stackTraces = false := (show e.platform.stackTraces = l.stackTraces by rw [X.admits.platform]).trans hl
  have Y := vx_rebase X (R' := { frames := R.frames, locals := R.locals, cells := 1, slots := 6 }) (Nat.le_refl _) (Nat.le_refl _) hRcells hRslots
  obtain ⟨s', hA⟩ : ∃ z, z = (T.setVm s.vm).setFrames (.invoking m args :: below) := ⟨_, rfl⟩
  rw [← hA] at Y
  have hvm : s'.vm = s.vm := by rw [hA]; rfl
  have hhp : s'.heap = H := by rw [hA]; exact hT
  have hW0 : s.WarmedH s'.vm := by rw [hvm]; exact State.WarmedH.refl s
  have hat' : ∀ w ∈ vx_at0 own ic cls names, w.before args s' = true := fun w hw => vx_ot_at hW0 hvm.symm (hgood w (List.mem_cons_of_mem _ (List.mem_cons_of_mem _ hw))) (hat w hw)
  have hk' : (Cond.classLink own ik cls).before args s' = true := vx_ot_at hW0 hvm.symm (hgood _ List.mem_cons_self) hk
  have hini' : (Cond.initialized cls).before args s' = true := vx_ot_at hW0 hvm.symm (hgood _ (List.mem_cons_of_mem _ List.mem_cons_self)) hini
  have hU' : vx_Zq Bundle.tN "UNASSIGNED_STACK" Bundle.steD A s' s'.heap := by rw [hhp]; exact vx_Zq.moved hW0.alike (hU.kept hS.2.1)
  have hN' : vx_Zq Bundle.tN "SUPPRESSED_SENTINEL" Bundle.listD A s' s'.heap := by rw [hhp]; exact vx_Zq.moved hW0.alike (hN.kept hS.2.1)
  have h : ∀ w ∈ Bundle.ownAtoms0 own ic cls names, w.before args s' = true := vx_own hat' (vx_isRefq hU'.1) (vx_isRefq hN'.1) hU'.2.word hN'.2.word
  have hown' : s'.vm.findClass own = some m.cls := by rw [hvm]; exact hown
  have hins : (Cond.instantiable cls 6).before args s' = true := h _ (by simp [Bundle.ownAtoms0])
  obtain ⟨vm₁, cX, kX, hfX, hkX, -, -, X₁, st1⟩ := Y.newCold hexec (own := own) (C := cls) (index := ik) (n := 6) hown' hk' hins hini'
    (g := F0 m pc ls rest) rfl (by rw [hb]; exact d0) (Nat.le_refl _) (Nat.le_refl _)
  generalize hT1 : (T.setVm vm₁).pushCell { cls := cX, slots := kX.instanceTypes.map defaultValue, vm := .none } = T1 at X₁ st1
  have hcat : (Value.ref T.heap.size).category = 1 := rfl
  have hcellA : T1.heap[T.heap.size]? = some (freshCell cX kX) := by rw [← hT1]; exact State.heap_pushCell_size _ _
  have d3' : decode c.code (pc + 3) = .ok (.dup, 1) := by rw [hb]; exact d3
  obtain ⟨U, hsteps, hrun, hend, hW, hsame, ce, hce, hO⟩ := X₁.ctorThrow0 hexec htr (own := own) (cls := cls) (names := names) (ic := ic) hown' hcls hnames h (fun x hx => nomatch hx) hfX hkX hcellA (by rw [hhp, hT]; exact Nat.le_refl _)
    (g := { method := m, pc := pc + 4, locals := ls, stack := .ref T.heap.size :: .ref T.heap.size :: rest, locked := none }) rfl hsize rfl rfl (rest := rest) rfl
    (by rw [hb]; exact d4) (by rw [hb]; exact d7) hout hRframes (by simp only [List.map_cons, List.sum_cons, hcat]; omega) hlocks
  obtain ⟨f1, f2⟩ := vx_frame hsame
  rw [hhp] at f1 f2
  have hWs : s.WarmedH U.vm := State.WarmedH.trans hW0 hW
  have hcl : s.vm.findClass cls = some ce.cls := by
    have h9 := hO.cls
    rw [hvm] at h9
    exact h9
  have hall : s.sameButNew ({ U with vm := s.vm } : State) locs mc ms := by
    subst hA
    obtain ⟨e1, e2⟩ := hsame
    rw [State.setFrames_setFrames] at e1
    have h2 : (T.setVm s.vm).sameButNew ({ U with vm := s.vm } : State) [] (0 + 1) (0 + 6) := ⟨e1, e2⟩
    have h3 := X.same.trans h2
    rw [List.append_nil] at h3
    exact h3.mono hc hs
  refine ⟨U, ?_, .threw T.heap.size, hrun, hend, Or.inr ⟨T.heap.size, rfl, cls, ce, locs, hx U hWs.alike f1 (fun q hq => f2 q hq (fun z hz => nomatch hz)), hce, hO.vm, hcl, hWs, hall, hf⟩⟩
  refine st1 _ ?_
  show Steps p.tables e below (T1.setTop { method := m, pc := pc + 3, locals := ls, stack := .ref T.heap.size :: rest, locked := none }) _
  jvm_step X₁.here [X₁.here.top, hexec, d3', Value.category]
  exact hsteps
/-- 'throw new E("text")': new; dup; ldc; invokespecial; athrow -/
theorem vx_throwS {cc : ByteArray} {pc : Nat} (hexec : p.tables.exec = Jvm.exec) (hb : c.code = cc) (hl : l.stackTraces = false) {own cls text : String} {names : List String} {ik is ic mc ms sa : Nat} {A : Nat → Prop}
    (hown : s.vm.findClass own = some m.cls) (hcls : Bundle.fit cls = true) (hnames : ∀ n ∈ names, Bundle.fit n = true)
    (hk : (Cond.classLink own ik cls).before args s = true) (hini : (Cond.initialized cls).before args s = true) (hstr : vk_R own is text sa s) (hat : ∀ w ∈ vx_atS own ic cls names, w.before args s = true)
    (hgood : ∀ w ∈ Cond.classLink own ik cls :: Cond.initialized cls :: vx_atS own ic cls names, vx_ot w = true)
    (hU : vx_Zq Bundle.tN "UNASSIGNED_STACK" Bundle.steD A s s.heap) (hN : vx_Zq Bundle.tN "SUPPRESSED_SENTINEL" Bundle.listD A s s.heap) (hS : va_S A s.heap H locs) (hsize : ls.size = c.maxLocals)
    (d0 : decode cc pc = .ok (.new ik, 3)) (d3 : decode cc (pc + 3) = .ok (.dup, 1)) (d4 : decode cc (pc + 4) = .ok (.ldc is, 2)) (d6 : decode cc (pc + 6) = .ok (.invokespecial ic, 3)) (d9 : decode cc (pc + 9) = .ok (.athrow, 1))
    (hout : ∀ x ∈ c.exceptionTable.toList, covers x (pc + 9) = false)
    (hRframes : names.length + 3 < R.frames) (hRlocals : (rest.map fun v => v.category).sum + (13 * (names.length + 1) + 43) ≤ R.locals) (hRcells : cells + 1 ≤ R.cells) (hRslots : slots + 6 ≤ R.slots) (hlocks : meth.locks = false)
    (hx : ∀ t : State, s.vm.Alike t.vm → H.size ≤ t.heap.size → (∀ q : Nat, q < H.size → t.heap[q]? = H[q]?) → XC cls s t)
    (hf : ∀ z ∈ locs, free z.base) (hc : cells + 1 ≤ mc) (hs : slots + 6 ≤ ms) :
    W p l e R s m args below meth c H locs cells slots (vx_MQ below Qc XC args s mc ms free) (F0 m pc ls rest) := by
  intro T hT X
  have htr : e.platform.stackTraces = false := (show e.platform.stackTraces = l.stackTraces by rw [X.admits.platform]).trans hl
  have Y := vx_rebase X (R' := { frames := R.frames, locals := R.locals, cells := 1, slots := 6 }) (Nat.le_refl _) (Nat.le_refl _) hRcells hRslots
  obtain ⟨s', hA⟩ : ∃ z, z = (T.setVm s.vm).setFrames (.invoking m args :: below) := ⟨_, rfl⟩
  rw [← hA] at Y
  have hvm : s'.vm = s.vm := by rw [hA]; rfl
  have hhp : s'.heap = H := by rw [hA]; exact hT
  have hW0 : s.WarmedH s'.vm := by rw [hvm]; exact State.WarmedH.refl s
  have hat' : ∀ w ∈ vx_atS own ic cls names, w.before args s' = true := fun w hw => vx_ot_at hW0 hvm.symm (hgood w (List.mem_cons_of_mem _ (List.mem_cons_of_mem _ hw))) (hat w hw)
  have hk' : (Cond.classLink own ik cls).before args s' = true := vx_ot_at hW0 hvm.symm (hgood _ List.mem_cons_self) hk
  have hini' : (Cond.initialized cls).before args s' = true := vx_ot_at hW0 hvm.symm (hgood _ (List.mem_cons_of_mem _ List.mem_cons_self)) hini
  have hU' : vx_Zq Bundle.tN "UNASSIGNED_STACK" Bundle.steD A s' s'.heap := by rw [hhp]; exact vx_Zq.moved hW0.alike (hU.kept hS.2.1)
  have hN' : vx_Zq Bundle.tN "SUPPRESSED_SENTINEL" Bundle.listD A s' s'.heap := by rw [hhp]; exact vx_Zq.moved hW0.alike (hN.kept hS.2.1)
  have h : ∀ w ∈ Bundle.ownAtoms own ic cls names, w.before args s' = true := vx_own hat' (vx_isRefq hU'.1) (vx_isRefq hN'.1) hU'.2.word hN'.2.word
  have hown' : s'.vm.findClass own = some m.cls := by rw [hvm]; exact hown
  have hins : (Cond.instantiable cls 6).before args s' = true := h _ (by simp [Bundle.ownAtoms])
  obtain ⟨vm₁, cX, kX, hfX, hkX, -, -, X₁, st1⟩ := Y.newCold hexec (own := own) (C := cls) (index := ik) (n := 6) hown' hk' hins hini'
    (g := F0 m pc ls rest) rfl (by rw [hb]; exact d0) (Nat.le_refl _) (Nat.le_refl _)
  generalize hT1 : (T.setVm vm₁).pushCell { cls := cX, slots := kX.instanceTypes.map defaultValue, vm := .none } = T1 at X₁ st1
  have hcat : (Value.ref T.heap.size).category = 1 := rfl
  have hcellA : T1.heap[T.heap.size]? = some (freshCell cX kX) := by rw [← hT1]; exact State.heap_pushCell_size _ _
  have d3' : decode c.code (pc + 3) = .ok (.dup, 1) := by rw [hb]; exact d3
  have d4' : decode c.code (pc + 4) = .ok (.ldc is, 2) := by rw [hb]; exact d4
  have hstr' : vk_R own is text sa s' := vk_R.warm hW0 hstr
  obtain ⟨U, hsteps, hrun, hend, hW, hsame, ce, hce, hO⟩ := X₁.ctorThrowS hexec htr (own := own) (cls := cls) (names := names) (ic := ic) hown' hcls hnames h (fun x hx => nomatch hx) hfX hkX hcellA (by rw [hhp, hT]; exact Nat.le_refl _) (msg := .ref sa) rfl
    (g := { method := m, pc := pc + 6, locals := ls, stack := .ref sa :: .ref T.heap.size :: .ref T.heap.size :: rest, locked := none }) rfl hsize rfl rfl (rest := rest) rfl
    (by rw [hb]; exact d6) (by rw [hb]; exact d9) hout hRframes (by simp only [List.map_cons, List.sum_cons, hcat]; omega) hlocks
  obtain ⟨f1, f2⟩ := vx_frame hsame
  rw [hhp] at f1 f2
  have hWs : s.WarmedH U.vm := State.WarmedH.trans hW0 hW
  have hcl : s.vm.findClass cls = some ce.cls := by
    have h9 := hO.cls
    rw [hvm] at h9
    exact h9
  have hall : s.sameButNew ({ U with vm := s.vm } : State) locs mc ms := by
    subst hA
    obtain ⟨e1, e2⟩ := hsame
    rw [State.setFrames_setFrames] at e1
    have h2 : (T.setVm s.vm).sameButNew ({ U with vm := s.vm } : State) [] (0 + 1) (0 + 6) := ⟨e1, e2⟩
    have h3 := X.same.trans h2
    rw [List.append_nil] at h3
    exact h3.mono hc hs
  refine ⟨U, ?_, .threw T.heap.size, hrun, hend, Or.inr ⟨T.heap.size, rfl, cls, ce, locs, hx U hWs.alike f1 (fun q hq => f2 q hq (fun z hz => nomatch hz)), hce, hO.vm, hcl, hWs, hall, hf⟩⟩
  refine st1 _ ?_
  show Steps p.tables e below (T1.setTop { method := m, pc := pc + 3, locals := ls, stack := .ref T.heap.size :: rest, locked := none }) _
  jvm_step X₁.here [X₁.here.top, hexec, d3', Value.category]
  exact X₁.ldcString hexec (own := own) (text := text) (index := is) (a := sa) hown' hstr'.1 hstr'.2
    (g := { method := m, pc := pc + 4, locals := ls, stack := .ref T.heap.size :: .ref T.heap.size :: rest, locked := none }) rfl d4' _ hsteps
/-- 'throw new E("text")', the text by a wide index -/
theorem vx_throwSW {cc : ByteArray} {pc : Nat} (hexec : p.tables.exec = Jvm.exec) (hb : c.code = cc) (hl : l.stackTraces = false) {own cls text : String} {names : List String} {ik is ic mc ms sa : Nat} {A : Nat → Prop}
    (hown : s.vm.findClass own = some m.cls) (hcls : Bundle.fit cls = true) (hnames : ∀ n ∈ names, Bundle.fit n = true)
    (hk : (Cond.classLink own ik cls).before args s = true) (hini : (Cond.initialized cls).before args s = true) (hstr : vk_R own is text sa s) (hat : ∀ w ∈ vx_atS own ic cls names, w.before args s = true)
    (hgood : ∀ w ∈ Cond.classLink own ik cls :: Cond.initialized cls :: vx_atS own ic cls names, vx_ot w = true)
    (hU : vx_Zq Bundle.tN "UNASSIGNED_STACK" Bundle.steD A s s.heap) (hN : vx_Zq Bundle.tN "SUPPRESSED_SENTINEL" Bundle.listD A s s.heap) (hS : va_S A s.heap H locs) (hsize : ls.size = c.maxLocals)
    (d0 : decode cc pc = .ok (.new ik, 3)) (d3 : decode cc (pc + 3) = .ok (.dup, 1)) (d4 : decode cc (pc + 4) = .ok (.ldc_w is, 3)) (d7 : decode cc (pc + 7) = .ok (.invokespecial ic, 3)) (d10 : decode cc (pc + 10) = .ok (.athrow, 1))
    (hout : ∀ x ∈ c.exceptionTable.toList, covers x (pc + 10) = false)
    (hRframes : names.length + 3 < R.frames) (hRlocals : (rest.map fun v => v.category).sum + (13 * (names.length + 1) + 43) ≤ R.locals) (hRcells : cells + 1 ≤ R.cells) (hRslots : slots + 6 ≤ R.slots) (hlocks : meth.locks = false)
    (hx : ∀ t : State, s.vm.Alike t.vm → H.size ≤ t.heap.size → (∀ q : Nat, q < H.size → t.heap[q]? = H[q]?) → XC cls s t)
    (hf : ∀ z ∈ locs, free z.base) (hc : cells + 1 ≤ mc) (hs : slots + 6 ≤ ms) :
    W p l e R s m args below meth c H locs cells slots (vx_MQ below Qc XC args s mc ms free) (F0 m pc ls rest) := by
  intro T hT X
  have htr : e.platform.stackTraces = false := (show e.platform.stackTraces = l.stackTraces by rw [X.admits.platform]).trans hl
  have Y := vx_rebase X (R' := { frames := R.frames, locals := R.locals, cells := 1, slots := 6 }) (Nat.le_refl _) (Nat.le_refl _) hRcells hRslots
  obtain ⟨s', hA⟩ : ∃ z, z = (T.setVm s.vm).setFrames (.invoking m args :: below) := ⟨_, rfl⟩
  rw [← hA] at Y
  have hvm : s'.vm = s.vm := by rw [hA]; rfl
  have hhp : s'.heap = H := by rw [hA]; exact hT
  have hW0 : s.WarmedH s'.vm := by rw [hvm]; exact State.WarmedH.refl s
  have hat' : ∀ w ∈ vx_atS own ic cls names, w.before args s' = true := fun w hw => vx_ot_at hW0 hvm.symm (hgood w (List.mem_cons_of_mem _ (List.mem_cons_of_mem _ hw))) (hat w hw)
  have hk' : (Cond.classLink own ik cls).before args s' = true := vx_ot_at hW0 hvm.symm (hgood _ List.mem_cons_self) hk
  have hini' : (Cond.initialized cls).before args s' = true := vx_ot_at hW0 hvm.symm (hgood _ (List.mem_cons_of_mem _ List.mem_cons_self)) hini
  have hU' : vx_Zq Bundle.tN "UNASSIGNED_STACK" Bundle.steD A s' s'.heap := by rw [hhp]; exact vx_Zq.moved hW0.alike (hU.kept hS.2.1)
  have hN' : vx_Zq Bundle.tN "SUPPRESSED_SENTINEL" Bundle.listD A s' s'.heap := by rw [hhp]; exact vx_Zq.moved hW0.alike (hN.kept hS.2.1)
  have h : ∀ w ∈ Bundle.ownAtoms own ic cls names, w.before args s' = true := vx_own hat' (vx_isRefq hU'.1) (vx_isRefq hN'.1) hU'.2.word hN'.2.word
  have hown' : s'.vm.findClass own = some m.cls := by rw [hvm]; exact hown
  have hins : (Cond.instantiable cls 6).before args s' = true := h _ (by simp [Bundle.ownAtoms])
  obtain ⟨vm₁, cX, kX, hfX, hkX, -, -, X₁, st1⟩ := Y.newCold hexec (own := own) (C := cls) (index := ik) (n := 6) hown' hk' hins hini'
    (g := F0 m pc ls rest) rfl (by rw [hb]; exact d0) (Nat.le_refl _) (Nat.le_refl _)
  generalize hT1 : (T.setVm vm₁).pushCell { cls := cX, slots := kX.instanceTypes.map defaultValue, vm := .none } = T1 at X₁ st1
  have hcat : (Value.ref T.heap.size).category = 1 := rfl
  have hcellA : T1.heap[T.heap.size]? = some (freshCell cX kX) := by rw [← hT1]; exact State.heap_pushCell_size _ _
  have d3' : decode c.code (pc + 3) = .ok (.dup, 1) := by rw [hb]; exact d3
  have d4' : decode c.code (pc + 4) = .ok (.ldc_w is, 3) := by rw [hb]; exact d4
  have hstr' : vk_R own is text sa s' := vk_R.warm hW0 hstr
  obtain ⟨U, hsteps, hrun, hend, hW, hsame, ce, hce, hO⟩ := X₁.ctorThrowS hexec htr (own := own) (cls := cls) (names := names) (ic := ic) hown' hcls hnames h (fun x hx => nomatch hx) hfX hkX hcellA (by rw [hhp, hT]; exact Nat.le_refl _) (msg := .ref sa) rfl
    (g := { method := m, pc := pc + 7, locals := ls, stack := .ref sa :: .ref T.heap.size :: .ref T.heap.size :: rest, locked := none }) rfl hsize rfl rfl (rest := rest) rfl
    (by rw [hb]; exact d7) (by rw [hb]; exact d10) hout hRframes (by simp only [List.map_cons, List.sum_cons, hcat]; omega) hlocks
  obtain ⟨f1, f2⟩ := vx_frame hsame
  rw [hhp] at f1 f2
  have hWs : s.WarmedH U.vm := State.WarmedH.trans hW0 hW
  have hcl : s.vm.findClass cls = some ce.cls := by
    have h9 := hO.cls
    rw [hvm] at h9
    exact h9
  have hall : s.sameButNew ({ U with vm := s.vm } : State) locs mc ms := by
    subst hA
    obtain ⟨e1, e2⟩ := hsame
    rw [State.setFrames_setFrames] at e1
    have h2 : (T.setVm s.vm).sameButNew ({ U with vm := s.vm } : State) [] (0 + 1) (0 + 6) := ⟨e1, e2⟩
    have h3 := X.same.trans h2
    rw [List.append_nil] at h3
    exact h3.mono hc hs
  refine ⟨U, ?_, .threw T.heap.size, hrun, hend, Or.inr ⟨T.heap.size, rfl, cls, ce, locs, hx U hWs.alike f1 (fun q hq => f2 q hq (fun z hz => nomatch hz)), hce, hO.vm, hcl, hWs, hall, hf⟩⟩
  refine st1 _ ?_
  show Steps p.tables e below (T1.setTop { method := m, pc := pc + 3, locals := ls, stack := .ref T.heap.size :: rest, locked := none }) _
  jvm_step X₁.here [X₁.here.top, hexec, d3', Value.category]
  exact X₁.ldcStringW hexec (own := own) (text := text) (index := is) (a := sa) hown' hstr'.1 hstr'.2
    (g := { method := m, pc := pc + 4, locals := ls, stack := .ref T.heap.size :: .ref T.heap.size :: rest, locked := none }) rfl d4' _ hsteps
end Ends
section Bodies
variable {l : Launch}
theorem vx_ofW {y : MethodName} {ws ws' : List Cond} {rm : Room} {Pc : Array Value → State → Prop} {Qc : Array Value → State → Outcome → State → Prop} {XC : String → State → State → Prop} {mc ms : Nat} {free : Addr → Prop} {cc : ByteArray} {maxL : Nat} {ret : Option FieldType}
    (hy : plainName y.cls = true) (hw : ws = Cond.code y cc maxL ret :: ws')
    (body : ∀ p e s m args below meth c s₁, BodyLoose p l y (headSpec ws rm) cc maxL ret e s m args below meth c s₁ → c.maxLocals = maxL → (∀ x ∈ c.exceptionTable.toList, False) → Pc args s →
      W p l e (headSpec ws rm).room s m args below meth c s.heap [] 0 0 (vx_MQ below Qc XC args s mc ms free) (entryFrame m args maxL)) : vx_Met l y ws rm Pc Qc XC mc ms free := by
  refine MetFree.of_bodyS (code := cc) (maxLocals := maxL) (ret := ret) hy ?_ ?_
  · intro args s m h hn
    obtain ⟨meth, c, h1, h2, h3, h4, h5, h6, -, -⟩ := Cond.code_spec hn (atoms_spec (ws := ws) h _ (by rw [hw]; exact List.mem_cons_self))
    exact ⟨meth, c, h1, h2, h3, h4, h5, h6⟩
  · intro p e s m args below meth c s₁ B hml hP _
    have hh0 : s₁.heap = s.heap := by rw [B.state]; rfl
    have ht : ∀ x ∈ c.exceptionTable.toList, False := by
      obtain ⟨meth9, c9, h1, h2, -, -, -, -, h7, -⟩ := Cond.code_spec B.named (atoms_spec (ws := ws) B.pre _ (by rw [hw]; exact List.mem_cons_self))
      cases Option.some.inj (h1.symm.trans B.method)
      cases Option.some.inj (h2.symm.trans (Stand.of_body B).code)
      intro x hx
      rw [Array.isEmpty_iff.mp h7] at hx
      cases hx
    obtain ⟨t, a1, o, b1, b2, b3⟩ := body p e s m args below meth c s₁ B hml ht hP s₁ hh0 (Stand.of_body B)
    exact ⟨t, o, a1, b1, b2, b3⟩
/-- the table of a body with handlers -/
theorem vx_table {p : Program} {x y : MethodName} {S : Spec} {cc bytes : ByteArray} {maxL maxL' : Nat} {ret ret' : Option FieldType} {e : Env} {s s₁ : State} {m : MethodId} {args : Array Value} {below : List Frame} {meth : Method} {c : Code} {hh : List (Nat × Nat × Nat × Nat)}
    (B : BodyLoose p l y S cc maxL ret e s m args below meth c s₁) (h : (Cond.codeWith y bytes maxL' ret' hh).before args s = true) : c.exceptionTable.toList = tableOf hh := by
  obtain ⟨m9, meth9, c9, hn9, h1, h2, -, -, h6, -⟩ := Cond.codeWith_spec h
  cases Option.some.inj (hn9.symm.trans B.named)
  cases Option.some.inj (h1.symm.trans B.method)
  cases Option.some.inj (h2.symm.trans (Stand.of_body B).code)
  rw [← h6, table_eq]
end Bodies
end VXA
/-! ===== END ===== -/
/-! ===== BEGIN a static call of a method with an exception table ===== -/
section VXS
variable {p : Program} {l : Launch} {e : Env} {R : Room} {s : State} {m : MethodId} {args : Array Value} {below : List Frame} {meth : Method} {c : Code} {T : State} {H : Heap} {locs : List Loc} {cells slots : Nat}
abbrev vx_CSW (R : Room) (s : State) (args : Array Value) (own : String) (index : Nat) (y : MethodName) (bytes : ByteArray) (maxL : Nat) (ret : Option FieldType) (hh : List (Nat × Nat × Nat × Nat)) (ws : List Cond) (rm : Room) (mc ms n : Nat) : Prop :=
  (rm.cells = mc ∧ rm.slots = ms ∧ rm.frames + 1 ≤ R.frames ∧ 8 + (maxL + 11) + rm.locals ≤ R.locals ∧ (∀ w ∈ ws, ∀ (a' : Array Value) (U : State), s.WarmedH U.vm → w.before a' U = true) ∧ Cond.codeWith y bytes maxL ret hh ∈ ws) ∧
  (Cond.codeWith y bytes maxL ret hh).before args s = true ∧ (Cond.initialized y.cls).before args s = true ∧ (y.cls ≠ "java/lang/invoke/MethodHandle" ∧ y.cls ≠ "java/lang/invoke/VarHandle") ∧
  (∀ sig, parseMethodDescriptor y.desc = some sig → n = sig.parameters.length) ∧ (Cond.methodLink own index y).before args s = true ∧ (Cond.static y).before args s = true
theorem vx_cwSW {own : String} {index maxL mc ms : Nat} {y : MethodName} {bytes : ByteArray} {ret : Option FieldType} {hh : List (Nat × Nat × Nat × Nat)} {Ts ws ws' : List Cond} {rm : Room} (n : Nat) (ht : ∀ w ∈ Ts, w.before args s = true) (hT : GoodIn Ts (va_wsS own index y ws)) (hw : ws = Cond.codeWith y bytes maxL ret hh :: ws') (hrc : rm.cells = mc) (hrs : rm.slots = ms)
    (hd : y.cls ≠ "java/lang/invoke/MethodHandle" ∧ y.cls ≠ "java/lang/invoke/VarHandle" ∧ (parseMethodDescriptor y.desc).map (fun d => d.parameters.length) = some n) (hR : rm.frames + 1 ≤ R.frames ∧ 8 + (maxL + 11) + rm.locals ≤ R.locals) :
    vx_CSW R s args own index y bytes maxL ret hh ws rm mc ms n := by
  have ok : ∀ w ∈ va_wsS own index y ws, w.before args s = true := fun w h => ht w (hT w h).1
  have hG : GoodIn Ts ws := fun w h => hT w (by unfold va_wsS; exact List.mem_append_right _ h)
  have hc : Cond.codeWith y bytes maxL ret hh ∈ ws := by rw [hw]; exact List.mem_cons_self
  refine ⟨⟨hrc, hrs, hR.1, hR.2, pay_in ht hG, hc⟩, ht _ (hG _ hc).1, ok _ (by simp [va_wsS]), ⟨hd.1, hd.2.1⟩, fun sig h => ?_, ok _ (by simp [va_wsS]), ok _ (by simp [va_wsS])⟩
  have h2 := hd.2.2
  rw [h] at h2
  exact (Option.some.inj h2).symm
theorem vx_callSW (X : Stand p l e R s m args below meth c T locs cells slots) (hexec : p.tables.exec = Jvm.exec) {own : String} {index : Nat} {y : MethodName} {bytes : ByteArray} {maxL : Nat} {ret : Option FieldType} {hh : List (Nat × Nat × Nat × Nat)}
    (hown : s.vm.findClass own = some m.cls) (hlink : (Cond.methodLink own index y).before args s = true) (hstat : (Cond.static y).before args s = true) (hinit : (Cond.initialized y.cls).before args s = true)
    (hcode : (Cond.codeWith y bytes maxL ret hh).before args s = true) (hy : y.cls ≠ "java/lang/invoke/MethodHandle" ∧ y.cls ≠ "java/lang/invoke/VarHandle")
    {W9 : Nat} {Pre : Pt → Array Value → Prop} {Post : Pt → Array Value → Option Value → Pt → Prop} (hK : Back l R p e below s args y 3 W9 Pre Post)
    {g : JFrame} (hg : g.method = m) (hsize : g.locals.size = c.maxLocals) {argsL rest : List Value} (hlen : ∀ sig, parseMethodDescriptor y.desc = some sig → argsL.length = sig.parameters.length)
    (hstack : g.stack = argsL.reverse ++ rest) (hW : 2 * g.monitorRoom + (rest.map fun v => v.category).sum ≤ W9) (hdg : decode c.code g.pc = .ok (.invokestatic index, 3))
    (hpre : ∀ vm₁, s.WarmedH vm₁ → Pre ⟨T.setVm vm₁, locs, cells, slots⟩ argsL.toArray) :
    ∃ (v : Option Value) (vm₁ : Vm) (B : Pt), s.WarmedH vm₁ ∧ Stand p l e R s m args below meth c B.U B.locs B.cells B.slots ∧ Post ⟨T.setVm vm₁, locs, cells, slots⟩ argsL.toArray v B ∧
      ∀ target, Steps p.tables e below (B.U.setTop { g with pc := g.pc + 3, stack := v.toList ++ rest }) target → Steps p.tables e below (T.setTop g) target := by
  obtain ⟨mk, methM, cM, hnamed, hmethM, -, -, -, -, -, -, hsigM⟩ := Cond.codeWith_spec hcode
  have hstatic : methM.isStatic = true := Cond.static_spec hnamed hmethM hstat
  obtain ⟨kP, hkP, -⟩ := className_of_methodNamed hnamed
  have hinitP : kP.init = .initialized := Cond.initialized_spec (findClass_of_methodNamed hnamed) hkP hinit
  obtain ⟨vm₁, X₁, hstep₁⟩ := X.invokestatic hexec hown hlink hnamed hmethM hstatic hkP hinitP hy (g := g) hg (argsL := argsL) (rest := rest) (hlen _ hsigM) hstack hdg
  obtain ⟨v, B, X', hpost, hsteps⟩ := hK m meth c ⟨T.setVm vm₁, locs, cells, slots⟩ { g with stack := rest } (.invokestatic index) mk argsL.toArray X₁ hg hsize hdg hW (X₁.named hnamed) (hpre vm₁ X₁.warmed)
  exact ⟨v, vm₁, B, X₁.warmed, X', hpost, fun target h => hstep₁ _ fun acts => by rw [doInvoke_state]; exact hsteps.trans h⟩
theorem vx_runSW {y : MethodName} {bytes cc : ByteArray} {maxL nL mc ms n index : Nat} {ret : Option FieldType} {hh : List (Nat × Nat × Nat × Nat)} {ws : List Cond} {rm : Room} {Pc : Array Value → State → Prop} {Qc : Array Value → State → Outcome → State → Prop} {free : Addr → Prop} {Ts : List Cond} {own : String} {As rest : List Value} {g : JFrame}
    (S : CallFix p m c cc nL s args Ts own) (hM : Met l y ws rm Pc Qc mc ms free) (cw : vx_CSW R s args own index y bytes maxL ret hh ws rm mc ms n) (hp : PreS s H Pc As)
    (hg : g.method = m) (hn : As.length = n) (hsize : g.locals.size = nL) (hstack : g.stack = As.reverse ++ rest) (hW : 2 * g.monitorRoom + (rest.map fun v => v.category).sum ≤ 8) (hdg : decode cc g.pc = .ok (.invokestatic index, 3)) (hf : cells + mc ≤ R.cells ∧ slots + ms ≤ R.slots) :
    va_Run p l e R s m args below meth c H locs cells slots mc ms g rest (Qc As.toArray) (free) := by
  obtain ⟨⟨hrc, hrs, hfr, hlo, hws, hcw⟩, hcode, hini, hy, hlen, hl, hstt⟩ := cw
  have hK : Back l R p e below s args y 3 8 (PreOf R mc ms Pc) (PostOf Qc mc ms free) := va_backW (hh := hh) (bytes := bytes) (maxL := maxL) (ret := ret) hM hp.1 hrc hrs hfr hlo hws hcw (fun a' U hW => word_at hW (Or.inl (by first | rfl | simp [Cond.onTables, Cond.keeps, Cond.steady])) hini)
  obtain ⟨hx, hb, hml, ho, -⟩ := S
  intro T hT X
  obtain ⟨v, vm₁, ⟨U', l2, c2, s2⟩, hW₁, X', ⟨g', mk, t, L, e1, e2, hq, h1, hL, h2, h3⟩, st⟩ := vx_callSW X hx (hh := hh) (bytes := bytes) (maxL := maxL) (ret := ret) ho hl hstt hini hcode hy hK hg (hsize.trans hml.symm) (argsL := As) (rest := rest) (fun sig h => hn.trans (hlen sig h)) hstack hW (by rw [hb]; exact hdg)
    (fun vm₁ hW₁ => ⟨hf.1, hf.2, hp.2 (T.setVm vm₁) hT hW₁⟩)
  dsimp only [Pt.U, Pt.locs, Pt.cells, Pt.slots] at X' e1 e2 h1 h2 h3 st
  subst h1; subst h2; subst h3
  exact ⟨v, (T.setVm vm₁).calling g' mk As.toArray, t, U', L, hT, X', hL, e1, e2, hq, st⟩
/-- not caught here, past rows that name other classes: it goes on to the caller -/
theorem vx_outP {p : Program} {l : Launch} {e : Env} {R : Room} {s : State} {m : MethodId} {args : Array Value} {below : List Frame} {meth : Method} {c : Code} {H : Heap} {locs : List Loc} {cells slots : Nat} {free : Addr → Prop} {ls : Array Slot} {rest : List Value} {Qc : Array Value → State → Outcome → State → Prop} {XC : String → State → State → Prop}
    {pc : Nat} {own E : String} {ce : Cell} {q : Addr} {mc ms : Nat} (hown : s.vm.findClass own = some m.cls) (hlocks : meth.locks = false)
    (hpass : ∀ z ∈ c.exceptionTable.toList, covers z pc = false ∨ (z.catchType ≠ 0 ∧ ∃ nm : String, (Cond.classLink own z.catchType nm).before args s = true ∧ va_Nc E nm s)) (hcell : H[q]? = some ce) (hv : ce.vm = .none) (hcl : s.vm.findClass E = some ce.cls)
    (hx : ∀ t : State, t.heap = H → s.vm.Alike t.vm → XC E s t) (hf : ∀ z ∈ locs, free z.base) (hc : cells ≤ mc) (hs : slots ≤ ms) :
    vx_W p l e R s m args below meth c H locs cells slots (vx_MQ below Qc XC args s mc ms free) (F0 m pc ls rest) q := by
  intro T hT X
  have hpl : e.platform.magicAccessors = ({} : Platform).magicAccessors := by rw [X.admits.platform]
  obtain ⟨vm', hW', X', st⟩ := X.outThrough hlocks q (g := F0 m pc ls rest) rfl rfl rfl (cell := ce) (by rw [hT]; exact hcell) (by rw [hv]; rfl)
    (by obtain ⟨k9, h9, -⟩ := Vm.findClass_spec hcl; exact ⟨k9, h9⟩) (fun z hz => by
      rcases hpass z hz with h | ⟨hz0, nm, hl1, hn1⟩
      · exact Or.inl h
      · obtain ⟨c6, hc6, hcl6⟩ := Cond.classLink_spec hown hl1 e.platform hpl
        obtain ⟨a8, b8, h1, h2, h3⟩ := hn1
        cases Option.some.inj (h1.symm.trans hcl)
        cases Option.some.inj (h2.symm.trans hc6)
        exact Or.inr ⟨hz0, _, hcl6, h3⟩)
  obtain ⟨g₀, hfr⟩ := X'.frames_eq
  have hcell9 : ((T.setVm vm').setFrames (.throwing q :: below)).heap[q]? = some ce := by
    show T.heap[q]? = some ce
    rw [hT]; exact hcell
  have hend : Ended ((T.setVm vm').setFrames (.throwing q :: below)) below (.threw q) := State.frames_setFrames _ (State.cur_lt_of_frames hfr)
  refine ⟨(T.setVm vm').setFrames (.throwing q :: below), ?_, .threw q, X'.here.running, hend, Or.inr ⟨q, rfl, E, ce, locs, hx _ hT (X'.ends _).1.alike, hcell9, hv, hcl, (X'.ends _).1, (X'.ends _).2.mono hc hs, hf⟩⟩
  rw [X.pushThrowing_eq]
  exact st
/-- a thing of a world lies in the heap -/
theorem vx_lt {D : va_G} {cl : List vw_C} {ws : va_W} {H1 : Heap} (h : va_P D cl ws H1) {k : Nat} {q : Nat × va_E} (hk : ws[k]? = some q) : q.1 < H1.size := (h k q hk).lt
end VXS
/-! ===== END ===== -/
/-! ===== BEGIN methods with a table of their own: called by a name, returning or throwing ===== -/
section VXH
/-! vx_backW, vx_callVX, vx_callSX, vx_callVW, vx_runVW, vx_runVX, vx_runSX, vx_ofWH follow the same proofs as their sisters above (Free/Laws.lean, Shelf42/LK1.lean); vx_outP calls Shelf42/NT130.lean (outThrough). -/
section
variable {l : Launch} {R : Room} {p : Program} {e : Env} {below : List Frame} {s : State} {sargs : Array Value} {y : MethodName} {len W9 : Nat}
theorem vx_backW {ws : List Cond} {rm : Room} {Pc : Array Value → State → Prop} {Qc : Array Value → State → Outcome → State → Prop} {XC : String → State → State → Prop} {mc ms : Nat} {free : Addr → Prop} {bytes : ByteArray} {maxL : Nat} {ret : Option FieldType} {hh : List (Nat × Nat × Nat × Nat)}
    (hM : vx_Met l y ws rm Pc Qc XC mc ms free) (hblind : FrameBlind Pc) (hrc : rm.cells = mc) (hrs : rm.slots = ms)
    (hframes : rm.frames + 1 ≤ R.frames) (hlocals : W9 + (maxL + 11) + rm.locals ≤ R.locals)
    (hws : ∀ w ∈ ws, ∀ a' U, s.WarmedH U.vm → w.before a' U = true) (hcode : Cond.codeWith y bytes maxL ret hh ∈ ws) (hinit : ∀ a' U, s.WarmedH U.vm → (Cond.initialized y.cls).before a' U = true) :
    vx_Back l R p e below s sargs y len W9 (PreOf R mc ms Pc) (PostOf Qc mc ms free) (vx_Post XC mc ms free) := by
  intro m meth c A g ig mk a X hg hsize hdg hW hn hp
  have h1 : (headSpec ws rm).pre.before a A.U = true := atoms_intro fun w hw => hws w hw _ _ X.warmed
  have h2 : (Cond.codeWith y bytes maxL ret hh).before a A.U = true := hws _ hcode _ _ X.warmed
  have h3 : (Cond.initialized y.cls).before a A.U = true := hinit _ _ X.warmed
  have h4 : A.cells + (headSpec ws rm).room.cells ≤ R.cells := by rw [show (headSpec ws rm).room.cells = mc from hrc]; exact hp.1
  have h5 : A.slots + (headSpec ws rm).room.slots ≤ R.slots := by rw [show (headSpec ws rm).room.slots = ms from hrs]; exact hp.2.1
  have hPc : Pc a (A.U.calling g mk a) := hblind _ _ _ _ hp.2.2
  obtain ⟨U, Ls, c0, s0⟩ := A
  dsimp only [Pt.U, Pt.locs, Pt.cells, Pt.slots] at h1 h2 h3 h4 h5 X hn hPc ⊢
  obtain ⟨m9, methY, cY, hn9, hmY, hcY, -, hlY, -⟩ := Cond.codeWith_spec h2
  cases Option.some.inj (hn9.symm.trans hn)
  obtain ⟨kY, hkY, -⟩ := className_of_methodNamed hn
  have hinitY : kY.init = .initialized := Cond.initialized_spec (findClass_of_methodNamed hn) hkY h3
  have h : At U g.method c below := by rw [hg]; exact X.here
  have hlocals9 : W9 + (maxL + 11) + (headSpec ws rm).room.locals ≤ R.locals := hlocals
  have happ : (headSpec ws rm).appliesLoose y e.platform (U.calling g mk a) = true :=
    Spec.appliesLoose_calling (g := g) h hdg hn hkY hinitY
      (X.room_calling (g := g) (R' := (headSpec ws rm).room) hsize hmY hcY hframes (by rw [hlY]; omega) h4 h5) h1
  obtain ⟨mid, hmid⟩ := h.above
  have hfr : (U.setTop g).frames = (.java g :: mid) ++ below := by rw [State.frames_setTop' g h.top, hmid]; rfl
  obtain ⟨o, s₂, hsteps, -, hend, hq⟩ := Steps.callFree hM p X.admits X.cas X.clock (acts := []) hfr happ hPc trivial
  have hq' : vx_Q Qc XC mc ms free a (U.calling g mk a) o s₂ := hq
  rw [State.frames_setTop' g h.top] at hend
  obtain ⟨g₀, hg0⟩ := Option.isSome_iff_exists.mp h.top
  obtain ⟨r, hr⟩ := State.topJava?_eq_some.mp hg0
  have hr' : (({ U with heap := s₂.heap, slotsUsed := s₂.slotsUsed } : State).setVm s₂.vm).frames = .java g₀ :: r := hr
  rcases hq' with ⟨hqc, L, hfe, hL⟩ | ⟨q, rfl, E, ce, L, hx, hce, hcv, hcl, hW₂, hsm, hL⟩
  · obtain ⟨⟨v, rfl⟩, hW₂, e2, q2, q3, q4, q5, q6⟩ := id hfe
    have e3 : s₂ = ({ (U.calling g mk a).setFrames s₂.frames with heap := s₂.heap, slotsUsed := s₂.slotsUsed } : State).setVm s₂.vm := by
      have : s₂ = ({ s₂ with vm := (U.calling g mk a).vm } : State).setVm s₂.vm := rfl
      rw [e2] at this
      exact this
    obtain ⟨c₂, i₂, len₂, hc₂, hd₂, hf₂⟩ := hend
    have hW' : U.WarmedH s₂.vm := hW₂
    have hcc : c₂ = c := by
      have h1 : s₂.code? g.method = U.code? g.method := by
        rw [State.code?_eq, State.code?_eq, hW'.alike.method?]
      exact Option.some.inj (hc₂.symm.trans (h1.trans h.code))
    subst hcc
    have hlen : len₂ = len := by rw [hdg] at hd₂; cases hd₂; rfl
    subst hlen
    have hs₂ : s₂ = (({ U with heap := s₂.heap, slotsUsed := s₂.slotsUsed } : State).setVm s₂.vm).setTop { g with pc := g.pc + len₂, stack := v.toList ++ g.stack } := by
      refine e3.trans ?_
      rw [hf₂, State.calling_eq h.top, State.setFrames_setFrames, State.setTop_of_frames _ hr', hr]
      rfl
    have hsame : U.sameButNew ({ U with heap := s₂.heap, slotsUsed := s₂.slotsUsed } : State) L mc ms := by
      refine ⟨?_, q2, q3, q4, q5, q6⟩
      obtain ⟨t, ht, -⟩ := State.frames_cons hr
      show ({ U with heap := s₂.heap, slotsUsed := s₂.slotsUsed } : State) = { U.setFrames U.frames with heap := s₂.heap, slotsUsed := s₂.slotsUsed }
      rw [State.setFrames_self ht]
    subst hg
    refine Or.inl ⟨v, ⟨(({ U with heap := s₂.heap, slotsUsed := s₂.slotsUsed } : State).setVm s₂.vm), Ls ++ L, c0 + mc, s0 + ms⟩,
      ⟨X.admits, X.cas, X.clock, X.frames, X.room, X.hears, X.method, X.code, (X.here.setHeapUsed s₂.heap s₂.slotsUsed).setVm hW'.alike, X.tail, State.WarmedH.trans X.warmed hW', X.limits, X.bytes, X.same.trans (hsame.setVm s.vm)⟩,
      ⟨g, mk, s₂, L, rfl, rfl, hqc, rfl, hL, rfl, rfl⟩, ?_⟩
    show Steps p.tables e below _ ((({ U with heap := s₂.heap, slotsUsed := s₂.slotsUsed } : State).setVm s₂.vm).setTop { g with pc := g.pc + len₂, stack := v.toList ++ g.stack })
    rw [← hs₂]
    exact hsteps
  · obtain ⟨e2, q2, q3, q4, q5, q6⟩ := id hsm
    have e3 : s₂ = ({ (U.calling g mk a).setFrames s₂.frames with heap := s₂.heap, slotsUsed := s₂.slotsUsed } : State).setVm s₂.vm := by
      have : s₂ = ({ s₂ with vm := (U.calling g mk a).vm } : State).setVm s₂.vm := rfl
      rw [e2] at this
      exact this
    have hf₂ : s₂.frames = .throwing q :: .java g :: U.frames.tail := hend
    have hW' : U.WarmedH s₂.vm := hW₂
    have hs₂ : s₂ = ((({ U with heap := s₂.heap, slotsUsed := s₂.slotsUsed } : State).setVm s₂.vm).setTop g).pushFrame (.throwing q) := by
      refine e3.trans ?_
      rw [hf₂, State.calling_eq h.top, State.setFrames_setFrames, State.pushFrame, State.frames_setTop _ hr', State.setTop_of_frames _ hr', State.setFrames_setFrames, hr]
      rfl
    have hsame : U.sameButNew ({ U with heap := s₂.heap, slotsUsed := s₂.slotsUsed } : State) L mc ms := by
      refine ⟨?_, q2, q3, q4, q5, q6⟩
      obtain ⟨t, ht, -⟩ := State.frames_cons hr
      show ({ U with heap := s₂.heap, slotsUsed := s₂.slotsUsed } : State) = { U.setFrames U.frames with heap := s₂.heap, slotsUsed := s₂.slotsUsed }
      rw [State.setFrames_self ht]
    subst hg
    refine Or.inr ⟨q, ⟨(({ U with heap := s₂.heap, slotsUsed := s₂.slotsUsed } : State).setVm s₂.vm), Ls ++ L, c0 + mc, s0 + ms⟩,
      ⟨X.admits, X.cas, X.clock, X.frames, X.room, X.hears, X.method, X.code, (X.here.setHeapUsed s₂.heap s₂.slotsUsed).setVm hW'.alike, X.tail, State.WarmedH.trans X.warmed hW', X.limits, X.bytes, X.same.trans (hsame.setVm s.vm)⟩,
      ⟨g, mk, s₂, L, E, ce, rfl, rfl, hx, hce, hcv, hcl, rfl, hL, rfl, rfl⟩, ?_⟩
    show Steps p.tables e below _ (((({ U with heap := s₂.heap, slotsUsed := s₂.slotsUsed } : State).setVm s₂.vm).setTop g).pushFrame (.throwing q))
    rw [← hs₂]
    exact hsteps
end
variable {p : Program} {l : Launch} {e : Env} {R : Room} {s : State} {m : MethodId} {args : Array Value} {below : List Frame} {meth : Method} {c : Code} {T : State} {H : Heap} {locs : List Loc} {cells slots : Nat}
theorem vx_callVX (X : Stand p l e R s m args below meth c T locs cells slots) (hexec : p.tables.exec = Jvm.exec) {own C : String} {index : Nat} {y : MethodName} {bytes : ByteArray} {maxL : Nat} {ret : Option FieldType} {hh : List (Nat × Nat × Nat × Nat)}
    (hown : s.vm.findClass own = some m.cls) (hlink : (Cond.methodLink own index y).before args s = true) (hinst : (Cond.instanceMethod y).before args s = true) (hsel : (Cond.selects C y y).before args s = true)
    (hcode : (Cond.codeWith y bytes maxL ret hh).before args s = true) (hy : y.cls ≠ "java/lang/invoke/MethodHandle" ∧ y.cls ≠ "java/lang/invoke/VarHandle")
    {W9 : Nat} {Pre : Pt → Array Value → Prop} {Post : Pt → Array Value → Option Value → Pt → Prop} {PostX : Pt → Array Value → Addr → Pt → Prop} (hK : vx_Back l R p e below s args y 3 W9 Pre Post PostX)
    {b : Addr} {cellB : Cell} (hcell : T.heap[b]? = some cellB) (hobj : cellB.vm.isStatics = false) (hcls : s.vm.findClass C = some cellB.cls)
    {g : JFrame} (hg : g.method = m) (hsize : g.locals.size = c.maxLocals) {argsL rest : List Value} (hlen : ∀ sig, parseMethodDescriptor y.desc = some sig → argsL.length = sig.parameters.length)
    (hstack : g.stack = argsL.reverse ++ .ref b :: rest) (hW : 2 * g.monitorRoom + (rest.map fun v => v.category).sum ≤ W9) (hdg : decode c.code g.pc = .ok (.invokevirtual index, 3))
    (hpre : ∀ vm₁, s.WarmedH vm₁ → Pre ⟨T.setVm vm₁, locs, cells, slots⟩ (Value.ref b :: argsL).toArray) :
    (∃ (v : Option Value) (vm₁ : Vm) (B : Pt), s.WarmedH vm₁ ∧ Stand p l e R s m args below meth c B.U B.locs B.cells B.slots ∧ Post ⟨T.setVm vm₁, locs, cells, slots⟩ (Value.ref b :: argsL).toArray v B ∧
      ∀ target, Steps p.tables e below (B.U.setTop { g with pc := g.pc + 3, stack := v.toList ++ rest }) target → Steps p.tables e below (T.setTop g) target) ∨
    (∃ (q : Addr) (vm₁ : Vm) (B : Pt), s.WarmedH vm₁ ∧ Stand p l e R s m args below meth c B.U B.locs B.cells B.slots ∧ PostX ⟨T.setVm vm₁, locs, cells, slots⟩ (Value.ref b :: argsL).toArray q B ∧
      Steps p.tables e below (T.setTop g) ((B.U.setTop { g with stack := rest }).pushFrame (.throwing q))) := by
  obtain ⟨mk, methM, hnamed, hmethM, hstM, habM⟩ := Cond.instanceMethod_spec hinst
  obtain ⟨m8, methM', cM, hn8, hmethM', -, -, -, -, -, -, hsigM⟩ := Cond.codeWith_spec hcode
  cases Option.some.inj (hn8.symm.trans hnamed)
  cases hmethM.symm.trans hmethM'
  obtain ⟨c2, r2, m2, q1, q2, q3, q4, kP, hkP, hkPi⟩ := Cond.selects_spec hsel
  cases hcls.symm.trans q1
  cases (State.methodFound?_of_named hnamed hy).symm.trans q2
  cases hnamed.symm.trans q3
  have hselP : selectMethod e.platform s.vm cellB.cls mk = .method mk := by rw [Launch.admits_selectMethod X.admits]; exact q4
  obtain ⟨vm₁, X₁, hstep₁⟩ := X.invokevirtual hexec hown hlink hnamed hmethM hstM hkP hkPi hy (a := b) (cell := cellB) hcell
    (fun z h => by rw [h] at hobj; cases hobj) hselP hmethM habM hkP hkPi (g := g) hg (argsL := argsL) (rest := rest) (hlen _ hsigM) hstack hdg
  rcases hK m meth c ⟨T.setVm vm₁, locs, cells, slots⟩ { g with stack := rest } (.invokevirtual index) mk (Value.ref b :: argsL).toArray X₁ hg hsize hdg hW (X₁.named hnamed) (hpre vm₁ X₁.warmed) with ⟨v, B, X', hpost, hsteps⟩ | ⟨q, B, X', hpost, hsteps⟩
  · exact Or.inl ⟨v, vm₁, B, X₁.warmed, X', hpost, fun target h => hstep₁ _ fun acts => by rw [doInvoke_state]; exact hsteps.trans h⟩
  · exact Or.inr ⟨q, vm₁, B, X₁.warmed, X', hpost, hstep₁ _ fun acts => by rw [doInvoke_state]; exact hsteps⟩
theorem vx_callSX (X : Stand p l e R s m args below meth c T locs cells slots) (hexec : p.tables.exec = Jvm.exec) {own : String} {index : Nat} {y : MethodName} {bytes : ByteArray} {maxL : Nat} {ret : Option FieldType} {hh : List (Nat × Nat × Nat × Nat)}
    (hown : s.vm.findClass own = some m.cls) (hlink : (Cond.methodLink own index y).before args s = true) (hstat : (Cond.static y).before args s = true) (hinit : (Cond.initialized y.cls).before args s = true)
    (hcode : (Cond.codeWith y bytes maxL ret hh).before args s = true) (hy : y.cls ≠ "java/lang/invoke/MethodHandle" ∧ y.cls ≠ "java/lang/invoke/VarHandle")
    {W9 : Nat} {Pre : Pt → Array Value → Prop} {Post : Pt → Array Value → Option Value → Pt → Prop} {PostX : Pt → Array Value → Addr → Pt → Prop} (hK : vx_Back l R p e below s args y 3 W9 Pre Post PostX)
    {g : JFrame} (hg : g.method = m) (hsize : g.locals.size = c.maxLocals) {argsL rest : List Value} (hlen : ∀ sig, parseMethodDescriptor y.desc = some sig → argsL.length = sig.parameters.length)
    (hstack : g.stack = argsL.reverse ++ rest) (hW : 2 * g.monitorRoom + (rest.map fun v => v.category).sum ≤ W9) (hdg : decode c.code g.pc = .ok (.invokestatic index, 3))
    (hpre : ∀ vm₁, s.WarmedH vm₁ → Pre ⟨T.setVm vm₁, locs, cells, slots⟩ argsL.toArray) :
    (∃ (v : Option Value) (vm₁ : Vm) (B : Pt), s.WarmedH vm₁ ∧ Stand p l e R s m args below meth c B.U B.locs B.cells B.slots ∧ Post ⟨T.setVm vm₁, locs, cells, slots⟩ argsL.toArray v B ∧
      ∀ target, Steps p.tables e below (B.U.setTop { g with pc := g.pc + 3, stack := v.toList ++ rest }) target → Steps p.tables e below (T.setTop g) target) ∨
    (∃ (q : Addr) (vm₁ : Vm) (B : Pt), s.WarmedH vm₁ ∧ Stand p l e R s m args below meth c B.U B.locs B.cells B.slots ∧ PostX ⟨T.setVm vm₁, locs, cells, slots⟩ argsL.toArray q B ∧
      Steps p.tables e below (T.setTop g) ((B.U.setTop { g with stack := rest }).pushFrame (.throwing q))) := by
  obtain ⟨mk, methM, cM, hnamed, hmethM, -, -, -, -, -, -, hsigM⟩ := Cond.codeWith_spec hcode
  have hstatic : methM.isStatic = true := Cond.static_spec hnamed hmethM hstat
  obtain ⟨kP, hkP, -⟩ := className_of_methodNamed hnamed
  have hinitP : kP.init = .initialized := Cond.initialized_spec (findClass_of_methodNamed hnamed) hkP hinit
  obtain ⟨vm₁, X₁, hstep₁⟩ := X.invokestatic hexec hown hlink hnamed hmethM hstatic hkP hinitP hy (g := g) hg (argsL := argsL) (rest := rest) (hlen _ hsigM) hstack hdg
  rcases hK m meth c ⟨T.setVm vm₁, locs, cells, slots⟩ { g with stack := rest } (.invokestatic index) mk argsL.toArray X₁ hg hsize hdg hW (X₁.named hnamed) (hpre vm₁ X₁.warmed) with ⟨v, B, X', hpost, hsteps⟩ | ⟨q, B, X', hpost, hsteps⟩
  · exact Or.inl ⟨v, vm₁, B, X₁.warmed, X', hpost, fun target h => hstep₁ _ fun acts => by rw [doInvoke_state]; exact hsteps.trans h⟩
  · exact Or.inr ⟨q, vm₁, B, X₁.warmed, X', hpost, hstep₁ _ fun acts => by rw [doInvoke_state]; exact hsteps⟩
theorem vx_callVW (X : Stand p l e R s m args below meth c T locs cells slots) (hexec : p.tables.exec = Jvm.exec) {own C : String} {index : Nat} {y : MethodName} {bytes : ByteArray} {maxL : Nat} {ret : Option FieldType} {hh : List (Nat × Nat × Nat × Nat)}
    (hown : s.vm.findClass own = some m.cls) (hlink : (Cond.methodLink own index y).before args s = true) (hinst : (Cond.instanceMethod y).before args s = true) (hsel : (Cond.selects C y y).before args s = true)
    (hcode : (Cond.codeWith y bytes maxL ret hh).before args s = true) (hy : y.cls ≠ "java/lang/invoke/MethodHandle" ∧ y.cls ≠ "java/lang/invoke/VarHandle")
    {W9 : Nat} {Pre : Pt → Array Value → Prop} {Post : Pt → Array Value → Option Value → Pt → Prop} (hK : Back l R p e below s args y 3 W9 Pre Post)
    {b : Addr} {cellB : Cell} (hcell : T.heap[b]? = some cellB) (hobj : cellB.vm.isStatics = false) (hcls : s.vm.findClass C = some cellB.cls)
    {g : JFrame} (hg : g.method = m) (hsize : g.locals.size = c.maxLocals) {argsL rest : List Value} (hlen : ∀ sig, parseMethodDescriptor y.desc = some sig → argsL.length = sig.parameters.length)
    (hstack : g.stack = argsL.reverse ++ .ref b :: rest) (hW : 2 * g.monitorRoom + (rest.map fun v => v.category).sum ≤ W9) (hdg : decode c.code g.pc = .ok (.invokevirtual index, 3))
    (hpre : ∀ vm₁, s.WarmedH vm₁ → Pre ⟨T.setVm vm₁, locs, cells, slots⟩ (Value.ref b :: argsL).toArray) :
    ∃ (v : Option Value) (vm₁ : Vm) (B : Pt), s.WarmedH vm₁ ∧ Stand p l e R s m args below meth c B.U B.locs B.cells B.slots ∧ Post ⟨T.setVm vm₁, locs, cells, slots⟩ (Value.ref b :: argsL).toArray v B ∧
      ∀ target, Steps p.tables e below (B.U.setTop { g with pc := g.pc + 3, stack := v.toList ++ rest }) target → Steps p.tables e below (T.setTop g) target := by
  obtain ⟨mk, methM, hnamed, hmethM, hstM, habM⟩ := Cond.instanceMethod_spec hinst
  obtain ⟨m8, methM', cM, hn8, hmethM', -, -, -, -, -, -, hsigM⟩ := Cond.codeWith_spec hcode
  cases Option.some.inj (hn8.symm.trans hnamed)
  cases hmethM.symm.trans hmethM'
  obtain ⟨c2, r2, m2, q1, q2, q3, q4, kP, hkP, hkPi⟩ := Cond.selects_spec hsel
  cases hcls.symm.trans q1
  cases (State.methodFound?_of_named hnamed hy).symm.trans q2
  cases hnamed.symm.trans q3
  have hselP : selectMethod e.platform s.vm cellB.cls mk = .method mk := by rw [Launch.admits_selectMethod X.admits]; exact q4
  obtain ⟨vm₁, X₁, hstep₁⟩ := X.invokevirtual hexec hown hlink hnamed hmethM hstM hkP hkPi hy (a := b) (cell := cellB) hcell
    (fun z h => by rw [h] at hobj; cases hobj) hselP hmethM habM hkP hkPi (g := g) hg (argsL := argsL) (rest := rest) (hlen _ hsigM) hstack hdg
  obtain ⟨v, B, X', hpost, hsteps⟩ := hK m meth c ⟨T.setVm vm₁, locs, cells, slots⟩ { g with stack := rest } (.invokevirtual index) mk (Value.ref b :: argsL).toArray X₁ hg hsize hdg hW (X₁.named hnamed) (hpre vm₁ X₁.warmed)
  exact ⟨v, vm₁, B, X₁.warmed, X', hpost, fun target h => hstep₁ _ fun acts => by rw [doInvoke_state]; exact hsteps.trans h⟩
abbrev vx_CVW (R : Room) (s : State) (args : Array Value) (own C : String) (index : Nat) (y : MethodName) (bytes : ByteArray) (maxL : Nat) (ret : Option FieldType) (hh : List (Nat × Nat × Nat × Nat)) (ws : List Cond) (rm : Room) (mc ms n : Nat) : Prop :=
  (rm.cells = mc ∧ rm.slots = ms ∧ rm.frames + 1 ≤ R.frames ∧ 8 + (maxL + 11) + rm.locals ≤ R.locals ∧ (∀ w ∈ ws, ∀ (a' : Array Value) (U : State), s.WarmedH U.vm → w.before a' U = true) ∧ Cond.codeWith y bytes maxL ret hh ∈ ws) ∧
  (Cond.codeWith y bytes maxL ret hh).before args s = true ∧ (Cond.initialized y.cls).before args s = true ∧ (y.cls ≠ "java/lang/invoke/MethodHandle" ∧ y.cls ≠ "java/lang/invoke/VarHandle") ∧
  (∀ sig, parseMethodDescriptor y.desc = some sig → n = sig.parameters.length) ∧ (Cond.methodLink own index y).before args s = true ∧ (Cond.instanceMethod y).before args s = true ∧ (Cond.selects C y y).before args s = true
theorem vx_cwVW {own C : String} {index maxL mc ms : Nat} {y : MethodName} {bytes : ByteArray} {ret : Option FieldType} {hh : List (Nat × Nat × Nat × Nat)} {Ts ws ws' : List Cond} {rm : Room} (n : Nat) (ht : ∀ w ∈ Ts, w.before args s = true) (hT : GoodIn Ts (wsV own index C y ws)) (hw : ws = Cond.codeWith y bytes maxL ret hh :: ws') (hrc : rm.cells = mc) (hrs : rm.slots = ms)
    (hd : y.cls = C ∧ y.cls ≠ "java/lang/invoke/MethodHandle" ∧ y.cls ≠ "java/lang/invoke/VarHandle" ∧ (parseMethodDescriptor y.desc).map (fun d => d.parameters.length) = some n) (hR : rm.frames + 1 ≤ R.frames ∧ 8 + (maxL + 11) + rm.locals ≤ R.locals) :
    vx_CVW R s args own C index y bytes maxL ret hh ws rm mc ms n := by
  obtain ⟨hC, hd⟩ := hd
  subst hC
  have ok : ∀ w ∈ wsV own index y.cls y ws, w.before args s = true := fun w h => ht w (hT w h).1
  have hG : GoodIn Ts ws := fun w h => hT w (by unfold wsV; exact List.mem_append_right _ h)
  have hc : Cond.codeWith y bytes maxL ret hh ∈ ws := by rw [hw]; exact List.mem_cons_self
  refine ⟨⟨hrc, hrs, hR.1, hR.2, pay_in ht hG, hc⟩, ht _ (hG _ hc).1, ok _ (by simp [wsV]), ⟨hd.1, hd.2.1⟩, fun sig h => ?_, ok _ (by simp [wsV]), ok _ (by simp [wsV]), ok _ (by simp [wsV])⟩
  have h2 := hd.2.2
  rw [h] at h2
  exact (Option.some.inj h2).symm
theorem vx_runVW {y : MethodName} {bytes cc : ByteArray} {maxL nL mc ms n index : Nat} {ret : Option FieldType} {hh : List (Nat × Nat × Nat × Nat)} {ws : List Cond} {rm : Room} {Pc : Array Value → State → Prop} {Qc : Array Value → State → Outcome → State → Prop} {free : Addr → Prop} {Ts : List Cond} {own C : String} {b : Addr} {As rest : List Value} {g : JFrame}
    (S : CallFix p m c cc nL s args Ts own) (hM : Met l y ws rm Pc Qc mc ms free) (cw : vx_CVW R s args own C index y bytes maxL ret hh ws rm mc ms n) (hp : PreV s H C b Pc As)
    (hg : g.method = m) (hn : As.length = n) (hsize : g.locals.size = nL) (hstack : g.stack = As.reverse ++ .ref b :: rest) (hW : 2 * g.monitorRoom + (rest.map fun v => v.category).sum ≤ 8) (hdg : decode cc g.pc = .ok (.invokevirtual index, 3)) (hf : cells + mc ≤ R.cells ∧ slots + ms ≤ R.slots) :
    va_Run p l e R s m args below meth c H locs cells slots mc ms g rest (Qc (Value.ref b :: As).toArray) free := by
  obtain ⟨⟨hrc, hrs, hfr, hlo, hws, hcw⟩, hcode, hini, hy, hlen, hl, hin, hse⟩ := cw
  have hK : Back l R p e below s args y 3 8 (PreOf R mc ms Pc) (PostOf Qc mc ms free) := va_backW (hh := hh) (bytes := bytes) (maxL := maxL) (ret := ret) hM hp.1 hrc hrs hfr hlo hws hcw (fun a' U hW => word_at hW (Or.inl (by first | rfl | simp [Cond.onTables, Cond.keeps, Cond.steady])) hini)
  obtain ⟨hx, hb, hml, ho, -⟩ := S
  obtain ⟨-, ⟨cellB, hcB, hoB, hclB⟩, hPc⟩ := hp
  intro T hT X
  obtain ⟨v, vm₁, ⟨U', l2, c2, s2⟩, hW₁, X', ⟨g', mk, t, L, e1, e2, hq, h1, hL, h2, h3⟩, st⟩ := vx_callVW X hx (C := C) (hh := hh) (bytes := bytes) (maxL := maxL) (ret := ret) ho hl hin hse hcode hy hK (by rw [hT]; exact hcB) hoB hclB hg (hsize.trans hml.symm) (argsL := As) (rest := rest) (fun sig h => hn.trans (hlen sig h)) hstack hW (by rw [hb]; exact hdg)
    (fun vm₁ hW₁ => ⟨hf.1, hf.2, hPc (T.setVm vm₁) hT hW₁⟩)
  dsimp only [Pt.U, Pt.locs, Pt.cells, Pt.slots] at X' e1 e2 h1 h2 h3 st
  subst h1; subst h2; subst h3
  exact ⟨v, (T.setVm vm₁).calling g' mk (Value.ref b :: As).toArray, t, U', L, hT, X', hL, e1, e2, hq, st⟩
section
variable {y : MethodName} {bytes cc : ByteArray} {maxL nL mc ms n index : Nat} {ret : Option FieldType} {ws : List Cond} {rm : Room} {Pc : Array Value → State → Prop} {Qc : Array Value → State → Outcome → State → Prop} {XC : String → State → State → Prop} {free : Addr → Prop} {Ts : List Cond} {own C : String} {b : Addr} {As rest : List Value} {g : JFrame}
theorem vx_runVX {hh : List (Nat × Nat × Nat × Nat)} (S : CallFix p m c cc nL s args Ts own) (hM : vx_Met l y ws rm Pc Qc XC mc ms free) (cw : vx_CVW R s args own C index y bytes maxL ret hh ws rm mc ms n) (hp : PreV s H C b Pc As)
    (hg : g.method = m) (hn : As.length = n) (hsize : g.locals.size = nL) (hstack : g.stack = As.reverse ++ .ref b :: rest) (hW : 2 * g.monitorRoom + (rest.map fun v => v.category).sum ≤ 8) (hdg : decode cc g.pc = .ok (.invokevirtual index, 3)) (hf : cells + mc ≤ R.cells ∧ slots + ms ≤ R.slots) :
    vx_Run p l e R s m args below meth c H locs cells slots mc ms g rest (Qc (Value.ref b :: As).toArray) XC free := by
  obtain ⟨⟨hrc, hrs, hfr, hlo, hws, hcw⟩, hcode, hini, hy, hlen, hl, hin, hse⟩ := cw
  have hK : vx_Back l R p e below s args y 3 8 (PreOf R mc ms Pc) (PostOf Qc mc ms free) (vx_Post XC mc ms free) := vx_backW (hh := hh) (bytes := bytes) (maxL := maxL) (ret := ret) hM hp.1 hrc hrs hfr hlo hws hcw (fun a' U hW => word_at hW (Or.inl (by first | rfl | simp [Cond.onTables, Cond.keeps, Cond.steady])) hini)
  obtain ⟨hx, hb, hml, ho, -⟩ := S
  obtain ⟨-, ⟨cellB, hcB, hoB, hclB⟩, hPc⟩ := hp
  intro T hT X
  rcases vx_callVX X hx (C := C) (hh := hh) (bytes := bytes) (maxL := maxL) (ret := ret) ho hl hin hse hcode hy hK (by rw [hT]; exact hcB) hoB hclB hg (hsize.trans hml.symm) (argsL := As) (rest := rest) (fun sig h => hn.trans (hlen sig h)) hstack hW (by rw [hb]; exact hdg)
    (fun vm₁ hW₁ => ⟨hf.1, hf.2, hPc (T.setVm vm₁) hT hW₁⟩) with ⟨v, vm₁, ⟨U', l2, c2, s2⟩, hW₁, X', ⟨g', mk, t, L, e1, e2, hq, h1, hL, h2, h3⟩, st⟩ | ⟨q, vm₁, ⟨U', l2, c2, s2⟩, hW₁, X', ⟨g', mk, t, L, E, ce, e1, e2, hq, hce, hcv, hcl, h1, hL, h2, h3⟩, st⟩
  · dsimp only [Pt.U, Pt.locs, Pt.cells, Pt.slots] at X' e1 e2 h1 h2 h3 st
    subst h1; subst h2; subst h3
    exact Or.inl ⟨v, (T.setVm vm₁).calling g' mk (Value.ref b :: As).toArray, t, U', L, hT, X', hL, e1, e2, hq, st⟩
  · dsimp only [Pt.U, Pt.locs, Pt.cells, Pt.slots] at X' e1 e2 h1 h2 h3 st hcl
    subst h1; subst h2; subst h3
    exact Or.inr ⟨q, (T.setVm vm₁).calling g' mk (Value.ref b :: As).toArray, t, U', L, E, ce, hT, X', hL, e1, e2, hq, hce, hcv, vx_cls hW₁ hcl, st⟩
theorem vx_runSX {hh : List (Nat × Nat × Nat × Nat)} (S : CallFix p m c cc nL s args Ts own) (hM : vx_Met l y ws rm Pc Qc XC mc ms free) (cw : vx_CSW R s args own index y bytes maxL ret hh ws rm mc ms n) (hp : PreS s H Pc As)
    (hg : g.method = m) (hn : As.length = n) (hsize : g.locals.size = nL) (hstack : g.stack = As.reverse ++ rest) (hW : 2 * g.monitorRoom + (rest.map fun v => v.category).sum ≤ 8) (hdg : decode cc g.pc = .ok (.invokestatic index, 3)) (hf : cells + mc ≤ R.cells ∧ slots + ms ≤ R.slots) :
    vx_Run p l e R s m args below meth c H locs cells slots mc ms g rest (Qc As.toArray) XC free := by
  obtain ⟨⟨hrc, hrs, hfr, hlo, hws, hcw⟩, hcode, hini, hy, hlen, hl, hstt⟩ := cw
  have hK : vx_Back l R p e below s args y 3 8 (PreOf R mc ms Pc) (PostOf Qc mc ms free) (vx_Post XC mc ms free) := vx_backW (hh := hh) (bytes := bytes) (maxL := maxL) (ret := ret) hM hp.1 hrc hrs hfr hlo hws hcw (fun a' U hW => word_at hW (Or.inl (by first | rfl | simp [Cond.onTables, Cond.keeps, Cond.steady])) hini)
  obtain ⟨hx, hb, hml, ho, -⟩ := S
  intro T hT X
  rcases vx_callSX X hx (hh := hh) (bytes := bytes) (maxL := maxL) (ret := ret) ho hl hstt hini hcode hy hK hg (hsize.trans hml.symm) (argsL := As) (rest := rest) (fun sig h => hn.trans (hlen sig h)) hstack hW (by rw [hb]; exact hdg)
    (fun vm₁ hW₁ => ⟨hf.1, hf.2, hp.2 (T.setVm vm₁) hT hW₁⟩) with ⟨v, vm₁, ⟨U', l2, c2, s2⟩, hW₁, X', ⟨g', mk, t, L, e1, e2, hq, h1, hL, h2, h3⟩, st⟩ | ⟨q, vm₁, ⟨U', l2, c2, s2⟩, hW₁, X', ⟨g', mk, t, L, E, ce, e1, e2, hq, hce, hcv, hcl, h1, hL, h2, h3⟩, st⟩
  · dsimp only [Pt.U, Pt.locs, Pt.cells, Pt.slots] at X' e1 e2 h1 h2 h3 st
    subst h1; subst h2; subst h3
    exact Or.inl ⟨v, (T.setVm vm₁).calling g' mk As.toArray, t, U', L, hT, X', hL, e1, e2, hq, st⟩
  · dsimp only [Pt.U, Pt.locs, Pt.cells, Pt.slots] at X' e1 e2 h1 h2 h3 st hcl
    subst h1; subst h2; subst h3
    exact Or.inr ⟨q, (T.setVm vm₁).calling g' mk As.toArray, t, U', L, E, ce, hT, X', hL, e1, e2, hq, hce, hcv, vx_cls hW₁ hcl, st⟩
end
end VXH
theorem vx_ofWH {l : Launch} {y : MethodName} {ws ws' : List Cond} {rm : Room} {Pc : Array Value → State → Prop} {Qc : Array Value → State → Outcome → State → Prop} {XC : String → State → State → Prop} {mc ms : Nat} {free : Addr → Prop} {cc : ByteArray} {maxL : Nat} {ret : Option FieldType} {hh : List (Nat × Nat × Nat × Nat)}
    (hy : plainName y.cls = true) (hw : ws = Cond.codeWith y cc maxL ret hh :: ws')
    (body : ∀ p e s m args below meth c s₁, BodyLoose p l y (headSpec ws rm) cc maxL ret e s m args below meth c s₁ → c.maxLocals = maxL → Pc args s →
      W p l e (headSpec ws rm).room s m args below meth c s.heap [] 0 0 (vx_MQ below Qc XC args s mc ms free) (entryFrame m args maxL)) : vx_Met l y ws rm Pc Qc XC mc ms free := by
  refine MetFree.of_bodyS (code := cc) (maxLocals := maxL) (ret := ret) hy ?_ ?_
  · intro args s m h hn
    obtain ⟨m9, meth, c, hn9, h1, h2, h3, h4, -, h5, h6, -⟩ := Cond.codeWith_spec (atoms_spec (ws := ws) h _ (by rw [hw]; exact List.mem_cons_self))
    cases hn.symm.trans hn9
    exact ⟨meth, c, h1, h2, h3, h4, h5, h6⟩
  · intro p e s m args below meth c s₁ B hml hP _
    have hh0 : s₁.heap = s.heap := by rw [B.state]; rfl
    obtain ⟨t, a1, o, b1, b2, b3⟩ := body p e s m args below meth c s₁ B hml hP s₁ hh0 (Stand.of_body B)
    exact ⟨t, o, a1, b1, b2, b3⟩
/-! ===== END ===== -/
end
section
def RX0 : String := "CableLanding$History"
def TX0 : u_T := fun k => match k with
  | 0 => ("CableLanding$History", "states", "[LCableLanding$State;", true)
  | 1 => ("CableLanding$History", "oldest", "I", false)
  | _ => ("CableLanding$History", "count", "I", false)
def tyX0 : Nat → FieldType := fun k => match k with
  | 0 => .array (.object "CableLanding$State")
  | 1 => .int
  | _ => .int
theorem nmX0 : ∀ a, a < 3 → ∀ b, b < 3 → a ≠ b → (TX0 a).2.1 ≠ (TX0 b).2.1 := by decide +kernel
theorem tyX0_ok : ∀ k, k < 3 → parseFieldDescriptor (TX0 k).2.2.1 = some (tyX0 k) := by decide +kernel
abbrev cX0_init : ByteArray := prog_2_method_1_code
def yX0_init : MethodName := ⟨RX0, "<init>", "()V"⟩
abbrev cX0_clear : ByteArray := prog_2_method_2_code
def yX0_clear : MethodName := ⟨RX0, "clear", "()V"⟩
abbrev cX0_remember : ByteArray := prog_2_method_3_code
def yX0_remember : MethodName := ⟨RX0, "remember", "(LCableLanding$State;)V"⟩
abbrev cX0_takeBack : ByteArray := prog_2_method_4_code
def yX0_takeBack : MethodName := ⟨RX0, "takeBack", "(LCableLanding$State;)I"⟩
abbrev cX0_placeOf : ByteArray := prog_2_method_5_code
def yX0_placeOf : MethodName := ⟨RX0, "placeOf", "(I)LCableLanding$State;"⟩
def RX1 : String := "CableLanding$Ledger"
def TX1 : u_T := fun k => match k with
  | 0 => ("CableLanding$Ledger", "cable", "I", false)
  | 1 => ("CableLanding$Ledger", "laid", "I", false)
  | 2 => ("CableLanding$Ledger", "slackUsed", "I", false)
  | 3 => ("CableLanding$Ledger", "seaCosts", "I", false)
  | 4 => ("CableLanding$Ledger", "waitingCosts", "I", false)
  | 5 => ("CableLanding$Ledger", "extensionCosts", "I", false)
  | _ => ("CableLanding$Ledger", "cableCosts", "I", false)
def tyX1 : Nat → FieldType := fun k => match k with
  | 0 => .int
  | 1 => .int
  | 2 => .int
  | 3 => .int
  | 4 => .int
  | 5 => .int
  | _ => .int
theorem nmX1 : ∀ a, a < 7 → ∀ b, b < 7 → a ≠ b → (TX1 a).2.1 ≠ (TX1 b).2.1 := by decide +kernel
theorem tyX1_ok : ∀ k, k < 7 → parseFieldDescriptor (TX1 k).2.2.1 = some (tyX1 k) := by decide +kernel
abbrev cX1_init : ByteArray := prog_3_method_1_code
def yX1_init : MethodName := ⟨RX1, "<init>", "()V"⟩
abbrev cX1_begin : ByteArray := prog_3_method_2_code
def yX1_begin : MethodName := ⟨RX1, "begin", "(I)V"⟩
abbrev cX1_copyFrom : ByteArray := prog_3_method_3_code
def yX1_copyFrom : MethodName := ⟨RX1, "copyFrom", "(LCableLanding$Ledger;)V"⟩
def RX2 : String := "CableLanding$Script"
def TX2 : u_T := fun k => match k with
  | _ => ("", "", "", false)
def tyX2 : Nat → FieldType := fun k => match k with
  | _ => .int
theorem nmX2 : ∀ a, a < 0 → ∀ b, b < 0 → a ≠ b → (TX2 a).2.1 ≠ (TX2 b).2.1 := by decide +kernel
theorem tyX2_ok : ∀ k, k < 0 → parseFieldDescriptor (TX2 k).2.2.1 = some (tyX2 k) := by decide +kernel
abbrev cX2_withoutLast : ByteArray := prog_4_method_2_code
def yX2_withoutLast : MethodName := ⟨RX2, "withoutLast", "(JI)J"⟩
abbrev cX2_succeeds : ByteArray := prog_4_method_3_code
def yX2_succeeds : MethodName := ⟨RX2, "succeeds", "(LCableLanding$State;I)Z"⟩
abbrev cX2_takes : ByteArray := prog_4_method_4_code
def yX2_takes : MethodName := ⟨RX2, "takes", "(LCableLanding$State;LCableLanding$Ship;I)Z"⟩
abbrev cX2_sends : ByteArray := prog_4_method_5_code
def yX2_sends : MethodName := ⟨RX2, "sends", "(LCableLanding$State;LCableLanding$Ship;)Z"⟩
abbrev cX2_recalls : ByteArray := prog_4_method_6_code
def yX2_recalls : MethodName := ⟨RX2, "recalls", "(LCableLanding$State;LCableLanding$Ship;)Z"⟩
abbrev cX2_extendsPermit : ByteArray := prog_4_method_7_code
def yX2_extendsPermit : MethodName := ⟨RX2, "extendsPermit", "(LCableLanding$State;LCableLanding$Zone;I)Z"⟩
abbrev cX2_buys : ByteArray := prog_4_method_8_code
def yX2_buys : MethodName := ⟨RX2, "buys", "(LCableLanding$State;I)Z"⟩
abbrev cX2_isAt : ByteArray := prog_4_method_9_code
def yX2_isAt : MethodName := ⟨RX2, "isAt", "(LCableLanding$Ship;I)Z"⟩
def RX3 : String := "CableLanding$Ship"
def TX3 : u_T := fun k => match k with
  | 0 => ("CableLanding$Ship", "capacity", "I", false)
  | 1 => ("CableLanding$Ship", "speed", "I", false)
  | 2 => ("CableLanding$Ship", "greatestWaves", "I", false)
  | 3 => ("CableLanding$Ship", "rate", "I", false)
  | 4 => ("CableLanding$Ship", "aboard", "I", false)
  | 5 => ("CableLanding$Ship", "where", "I", false)
  | 6 => ("CableLanding$Ship", "daysLeft", "I", false)
  | _ => ("CableLanding$Ship", "laid", "I", false)
def tyX3 : Nat → FieldType := fun k => match k with
  | 0 => .int
  | 1 => .int
  | 2 => .int
  | 3 => .int
  | 4 => .int
  | 5 => .int
  | 6 => .int
  | _ => .int
theorem nmX3 : ∀ a, a < 8 → ∀ b, b < 8 → a ≠ b → (TX3 a).2.1 ≠ (TX3 b).2.1 := by decide +kernel
theorem tyX3_ok : ∀ k, k < 8 → parseFieldDescriptor (TX3 k).2.2.1 = some (tyX3 k) := by decide +kernel
abbrev cX3_init : ByteArray := prog_5_method_1_code
def yX3_init : MethodName := ⟨RX3, "<init>", "()V"⟩
abbrev cX3_build : ByteArray := prog_5_method_2_code
def yX3_build : MethodName := ⟨RX3, "build", "(IIII)V"⟩
abbrev cX3_copyFrom : ByteArray := prog_5_method_3_code
def yX3_copyFrom : MethodName := ⟨RX3, "copyFrom", "(LCableLanding$Ship;)V"⟩
abbrev cX3_sail : ByteArray := prog_5_method_4_code
def yX3_sail : MethodName := ⟨RX3, "sail", "(II)V"⟩
abbrev cX3_sailOneDay : ByteArray := prog_5_method_5_code
def yX3_sailOneDay : MethodName := ⟨RX3, "sailOneDay", "()V"⟩
def RX4 : String := "CableLanding$Slot"
def TX4 : u_T := fun k => match k with
  | 0 => ("CableLanding$Slot", "state", "LCableLanding$State;", true)
  | _ => ("CableLanding$Slot", "filled", "Z", false)
def tyX4 : Nat → FieldType := fun k => match k with
  | 0 => .object "CableLanding$State"
  | _ => .boolean
theorem nmX4 : ∀ a, a < 2 → ∀ b, b < 2 → a ≠ b → (TX4 a).2.1 ≠ (TX4 b).2.1 := by decide +kernel
theorem tyX4_ok : ∀ k, k < 2 → parseFieldDescriptor (TX4 k).2.2.1 = some (tyX4 k) := by decide +kernel
abbrev cX4_init : ByteArray := prog_6_method_1_code
def yX4_init : MethodName := ⟨RX4, "<init>", "()V"⟩
def RX5 : String := "CableLanding$State"
def TX5 : u_T := fun k => match k with
  | 0 => ("CableLanding$State", "zones", "[LCableLanding$Zone;", true)
  | 1 => ("CableLanding$State", "ships", "[LCableLanding$Ship;", true)
  | 2 => ("CableLanding$State", "weather", "LCableLanding$Weather;", true)
  | 3 => ("CableLanding$State", "teams", "LCableLanding$Teams;", true)
  | 4 => ("CableLanding$State", "ledger", "LCableLanding$Ledger;", true)
  | 5 => ("CableLanding$State", "zoneCount", "I", false)
  | 6 => ("CableLanding$State", "shipCount", "I", false)
  | 7 => ("CableLanding$State", "depot", "I", false)
  | 8 => ("CableLanding$State", "day", "I", false)
  | 9 => ("CableLanding$State", "front", "I", false)
  | 10 => ("CableLanding$State", "laidHere", "I", false)
  | _ => ("CableLanding$State", "reason", "I", false)
def tyX5 : Nat → FieldType := fun k => match k with
  | 0 => .array (.object "CableLanding$Zone")
  | 1 => .array (.object "CableLanding$Ship")
  | 2 => .object "CableLanding$Weather"
  | 3 => .object "CableLanding$Teams"
  | 4 => .object "CableLanding$Ledger"
  | 5 => .int
  | 6 => .int
  | 7 => .int
  | 8 => .int
  | 9 => .int
  | 10 => .int
  | _ => .int
theorem nmX5 : ∀ a, a < 12 → ∀ b, b < 12 → a ≠ b → (TX5 a).2.1 ≠ (TX5 b).2.1 := by decide +kernel
theorem tyX5_ok : ∀ k, k < 12 → parseFieldDescriptor (TX5 k).2.2.1 = some (tyX5 k) := by decide +kernel
abbrev cX5_init : ByteArray := prog_7_method_1_code
def yX5_init : MethodName := ⟨RX5, "<init>", "()V"⟩
abbrev cX5_begin : ByteArray := prog_7_method_2_code
def yX5_begin : MethodName := ⟨RX5, "begin", "(III)V"⟩
abbrev cX5_addZone : ByteArray := prog_7_method_3_code
def yX5_addZone : MethodName := ⟨RX5, "addZone", "(IIII)V"⟩
abbrev cX5_addShip : ByteArray := prog_7_method_4_code
def yX5_addShip : MethodName := ⟨RX5, "addShip", "(IIII)V"⟩
abbrev cX5_copyFrom : ByteArray := prog_7_method_5_code
def yX5_copyFrom : MethodName := ⟨RX5, "copyFrom", "(LCableLanding$State;)V"⟩
abbrev cX5_zoneNumbered : ByteArray := prog_7_method_6_code
def yX5_zoneNumbered : MethodName := ⟨RX5, "zoneNumbered", "(I)LCableLanding$Zone;"⟩
abbrev cX5_shipNumbered : ByteArray := prog_7_method_7_code
def yX5_shipNumbered : MethodName := ⟨RX5, "shipNumbered", "(I)LCableLanding$Ship;"⟩
abbrev cX5_isFinished : ByteArray := prog_7_method_8_code
def yX5_isFinished : MethodName := ⟨RX5, "isFinished", "()Z"⟩
abbrev cX5_numberAtFront : ByteArray := prog_7_method_9_code
def yX5_numberAtFront : MethodName := ⟨RX5, "numberAtFront", "()I"⟩
abbrev cX5_leftIn : ByteArray := prog_7_method_10_code
def yX5_leftIn : MethodName := ⟨RX5, "leftIn", "(LCableLanding$Zone;I)I"⟩
abbrev cX5_aboardOfAll : ByteArray := prog_7_method_11_code
def yX5_aboardOfAll : MethodName := ⟨RX5, "aboardOfAll", "()I"⟩
abbrev cX5_canLoadOnto : ByteArray := prog_7_method_12_code
def yX5_canLoadOnto : MethodName := ⟨RX5, "canLoadOnto", "(LCableLanding$Ship;I)Z"⟩
abbrev cX5_loadOnto : ByteArray := prog_7_method_13_code
def yX5_loadOnto : MethodName := ⟨RX5, "loadOnto", "(LCableLanding$Ship;I)V"⟩
abbrev cX5_canSendOut : ByteArray := prog_7_method_14_code
def yX5_canSendOut : MethodName := ⟨RX5, "canSendOut", "(LCableLanding$Ship;)Z"⟩
abbrev cX5_sendOut : ByteArray := prog_7_method_15_code
def yX5_sendOut : MethodName := ⟨RX5, "sendOut", "(LCableLanding$Ship;)V"⟩
abbrev cX5_canCallHome : ByteArray := prog_7_method_16_code
def yX5_canCallHome : MethodName := ⟨RX5, "canCallHome", "(LCableLanding$Ship;)Z"⟩
abbrev cX5_callHome : ByteArray := prog_7_method_17_code
def yX5_callHome : MethodName := ⟨RX5, "callHome", "(LCableLanding$Ship;)V"⟩
abbrev cX5_canProlong : ByteArray := prog_7_method_18_code
def yX5_canProlong : MethodName := ⟨RX5, "canProlong", "(LCableLanding$Zone;I)Z"⟩
abbrev cX5_prolong : ByteArray := prog_7_method_19_code
def yX5_prolong : MethodName := ⟨RX5, "prolong", "(LCableLanding$Zone;I)V"⟩
abbrev cX5_canPurchase : ByteArray := prog_7_method_20_code
def yX5_canPurchase : MethodName := ⟨RX5, "canPurchase", "(I)Z"⟩
abbrev cX5_purchase : ByteArray := prog_7_method_21_code
def yX5_purchase : MethodName := ⟨RX5, "purchase", "(I)V"⟩
abbrev cX5_fillAndSend : ByteArray := prog_7_method_22_code
def yX5_fillAndSend : MethodName := ⟨RX5, "fillAndSend", "(I)Z"⟩
abbrev cX5_passDays : ByteArray := prog_7_method_23_code
def yX5_passDays : MethodName := ⟨RX5, "passDays", "(I)V"⟩
abbrev cX5_daysUntilDone : ByteArray := prog_7_method_24_code
def yX5_daysUntilDone : MethodName := ⟨RX5, "daysUntilDone", "(I)I"⟩
abbrev cX5_playRound : ByteArray := prog_7_method_25_code
def yX5_playRound : MethodName := ⟨RX5, "playRound", "(I)V"⟩
abbrev cX5_passDay : ByteArray := prog_7_method_26_code
def yX5_passDay : MethodName := ⟨RX5, "passDay", "()V"⟩
abbrev cX5_comeToFront : ByteArray := prog_7_method_27_code
def yX5_comeToFront : MethodName := ⟨RX5, "comeToFront", "()V"⟩
abbrev cX5_workAtFront : ByteArray := prog_7_method_28_code
def yX5_workAtFront : MethodName := ⟨RX5, "workAtFront", "()I"⟩
abbrev cX5_lay : ByteArray := prog_7_method_29_code
def yX5_lay : MethodName := ⟨RX5, "lay", "(LCableLanding$Ship;LCableLanding$Zone;)I"⟩
abbrev cX5_bookDay : ByteArray := prog_7_method_30_code
def yX5_bookDay : MethodName := ⟨RX5, "bookDay", "()V"⟩
def RX6 : String := "CableLanding$Teams"
def TX6 : u_T := fun k => match k with
  | 0 => ("CableLanding$Teams", "count", "I", false)
  | 1 => ("CableLanding$Teams", "spliceDays", "I", false)
  | 2 => ("CableLanding$Teams", "rest", "[I", true)
  | 3 => ("CableLanding$Teams", "needed", "Z", false)
  | 4 => ("CableLanding$Teams", "atWork", "I", false)
  | 5 => ("CableLanding$Teams", "daysLeft", "I", false)
  | _ => ("CableLanding$Teams", "splicesDone", "I", false)
def tyX6 : Nat → FieldType := fun k => match k with
  | 0 => .int
  | 1 => .int
  | 2 => .array .int
  | 3 => .boolean
  | 4 => .int
  | 5 => .int
  | _ => .int
theorem nmX6 : ∀ a, a < 7 → ∀ b, b < 7 → a ≠ b → (TX6 a).2.1 ≠ (TX6 b).2.1 := by decide +kernel
theorem tyX6_ok : ∀ k, k < 7 → parseFieldDescriptor (TX6 k).2.2.1 = some (tyX6 k) := by decide +kernel
abbrev cX6_init : ByteArray := prog_8_method_1_code
def yX6_init : MethodName := ⟨RX6, "<init>", "()V"⟩
abbrev cX6_begin : ByteArray := prog_8_method_2_code
def yX6_begin : MethodName := ⟨RX6, "begin", "(II)V"⟩
abbrev cX6_copyFrom : ByteArray := prog_8_method_3_code
def yX6_copyFrom : MethodName := ⟨RX6, "copyFrom", "(LCableLanding$Teams;)V"⟩
abbrev cX6_spliceGoesOn : ByteArray := prog_8_method_4_code
def yX6_spliceGoesOn : MethodName := ⟨RX6, "spliceGoesOn", "()Z"⟩
abbrev cX6_stageOfSplice : ByteArray := prog_8_method_5_code
def yX6_stageOfSplice : MethodName := ⟨RX6, "stageOfSplice", "()I"⟩
abbrev cX6_isFree : ByteArray := prog_8_method_6_code
def yX6_isFree : MethodName := ⟨RX6, "isFree", "(I)Z"⟩
abbrev cX6_freeTeams : ByteArray := prog_8_method_7_code
def yX6_freeTeams : MethodName := ⟨RX6, "freeTeams", "()I"⟩
abbrev cX6_beginSplice : ByteArray := prog_8_method_8_code
def yX6_beginSplice : MethodName := ⟨RX6, "beginSplice", "(I)Z"⟩
abbrev cX6_workOnSplice : ByteArray := prog_8_method_9_code
def yX6_workOnSplice : MethodName := ⟨RX6, "workOnSplice", "()V"⟩
abbrev cX6_leaveFront : ByteArray := prog_8_method_10_code
def yX6_leaveFront : MethodName := ⟨RX6, "leaveFront", "()V"⟩
abbrev cX6_sendToRest : ByteArray := prog_8_method_11_code
def yX6_sendToRest : MethodName := ⟨RX6, "sendToRest", "(I)V"⟩
abbrev cX6_restOneDay : ByteArray := prog_8_method_12_code
def yX6_restOneDay : MethodName := ⟨RX6, "restOneDay", "()V"⟩
def RX7 : String := "CableLanding$Text"
def TX7 : u_T := fun k => match k with
  | 0 => ("CableLanding$Text", "signs", "[C", true)
  | 1 => ("CableLanding$Text", "length", "I", false)
  | 2 => ("CableLanding$Text", "position", "I", false)
  | _ => ("CableLanding$Text", "allowed", "Z", false)
def tyX7 : Nat → FieldType := fun k => match k with
  | 0 => .array .char
  | 1 => .int
  | 2 => .int
  | _ => .boolean
theorem nmX7 : ∀ a, a < 4 → ∀ b, b < 4 → a ≠ b → (TX7 a).2.1 ≠ (TX7 b).2.1 := by decide +kernel
theorem tyX7_ok : ∀ k, k < 4 → parseFieldDescriptor (TX7 k).2.2.1 = some (tyX7 k) := by decide +kernel
abbrev cX7_init : ByteArray := prog_9_method_1_code
def yX7_init : MethodName := ⟨RX7, "<init>", "()V"⟩
abbrev cX7_hasRoom : ByteArray := prog_9_method_2_code
def yX7_hasRoom : MethodName := ⟨RX7, "hasRoom", "()Z"⟩
abbrev cX7_add : ByteArray := prog_9_method_3_code
def yX7_add : MethodName := ⟨RX7, "add", "(C)I"⟩
abbrev cX7_clear : ByteArray := prog_9_method_4_code
def yX7_clear : MethodName := ⟨RX7, "clear", "()I"⟩
abbrev cX7_readInto : ByteArray := prog_9_method_5_code
def yX7_readInto : MethodName := ⟨RX7, "readInto", "(LCableLanding$State;)I"⟩
abbrev cX7_readHead : ByteArray := prog_9_method_6_code
def yX7_readHead : MethodName := ⟨RX7, "readHead", "(LCableLanding$State;)V"⟩
abbrev cX7_readZone : ByteArray := prog_9_method_7_code
def yX7_readZone : MethodName := ⟨RX7, "readZone", "(LCableLanding$State;)V"⟩
abbrev cX7_readShip : ByteArray := prog_9_method_8_code
def yX7_readShip : MethodName := ⟨RX7, "readShip", "(LCableLanding$State;)V"⟩
abbrev cX7_readWeather : ByteArray := prog_9_method_9_code
def yX7_readWeather : MethodName := ⟨RX7, "readWeather", "(LCableLanding$State;)V"⟩
abbrev cX7_nextIs : ByteArray := prog_9_method_10_code
def yX7_nextIs : MethodName := ⟨RX7, "nextIs", "(C)Z"⟩
abbrev cX7_readLetter : ByteArray := prog_9_method_11_code
def yX7_readLetter : MethodName := ⟨RX7, "readLetter", "(C)V"⟩
abbrev cX7_readNumber : ByteArray := prog_9_method_12_code
def yX7_readNumber : MethodName := ⟨RX7, "readNumber", "(III)I"⟩
abbrev cX7_nextDigit : ByteArray := prog_9_method_13_code
def yX7_nextDigit : MethodName := ⟨RX7, "nextDigit", "()I"⟩
def RX8 : String := "CableLanding$Weather"
def TX8 : u_T := fun k => match k with
  | 0 => ("CableLanding$Weather", "count", "I", false)
  | _ => ("CableLanding$Weather", "row", "[I", true)
def tyX8 : Nat → FieldType := fun k => match k with
  | 0 => .int
  | _ => .array .int
theorem nmX8 : ∀ a, a < 2 → ∀ b, b < 2 → a ≠ b → (TX8 a).2.1 ≠ (TX8 b).2.1 := by decide +kernel
theorem tyX8_ok : ∀ k, k < 2 → parseFieldDescriptor (TX8 k).2.2.1 = some (tyX8 k) := by decide +kernel
abbrev cX8_init : ByteArray := prog_10_method_1_code
def yX8_init : MethodName := ⟨RX8, "<init>", "()V"⟩
abbrev cX8_copyFrom : ByteArray := prog_10_method_2_code
def yX8_copyFrom : MethodName := ⟨RX8, "copyFrom", "(LCableLanding$Weather;)V"⟩
abbrev cX8_add : ByteArray := prog_10_method_3_code
def yX8_add : MethodName := ⟨RX8, "add", "(I)V"⟩
abbrev cX8_on : ByteArray := prog_10_method_4_code
def yX8_on : MethodName := ⟨RX8, "on", "(I)I"⟩
abbrev cX8_change : ByteArray := prog_10_method_5_code
def yX8_change : MethodName := ⟨RX8, "change", "(II)I"⟩
def RX9 : String := "CableLanding$Zone"
def TX9 : u_T := fun k => match k with
  | 0 => ("CableLanding$Zone", "length", "I", false)
  | 1 => ("CableLanding$Zone", "first", "I", false)
  | 2 => ("CableLanding$Zone", "last", "I", false)
  | _ => ("CableLanding$Zone", "slack", "I", false)
def tyX9 : Nat → FieldType := fun k => match k with
  | 0 => .int
  | 1 => .int
  | 2 => .int
  | _ => .int
theorem nmX9 : ∀ a, a < 4 → ∀ b, b < 4 → a ≠ b → (TX9 a).2.1 ≠ (TX9 b).2.1 := by decide +kernel
theorem tyX9_ok : ∀ k, k < 4 → parseFieldDescriptor (TX9 k).2.2.1 = some (tyX9 k) := by decide +kernel
abbrev cX9_init : ByteArray := prog_11_method_1_code
def yX9_init : MethodName := ⟨RX9, "<init>", "()V"⟩
abbrev cX9_copyFrom : ByteArray := prog_11_method_2_code
def yX9_copyFrom : MethodName := ⟨RX9, "copyFrom", "(LCableLanding$Zone;)V"⟩
abbrev cX9_cableFor : ByteArray := prog_11_method_3_code
def yX9_cableFor : MethodName := ⟨RX9, "cableFor", "(I)I"⟩
abbrev cX9_mostUnits : ByteArray := prog_11_method_4_code
def yX9_mostUnits : MethodName := ⟨RX9, "mostUnits", "(II)I"⟩
def RX10 : String := "CableLanding"
def TX10 : u_T := fun k => match k with
  | 0 => ("CableLanding", "text", "LCableLanding$Text;", true)
  | 1 => ("CableLanding", "now", "LCableLanding$State;", true)
  | 2 => ("CableLanding", "trial", "LCableLanding$State;", true)
  | 3 => ("CableLanding", "history", "LCableLanding$History;", true)
  | _ => ("CableLanding", "slots", "[LCableLanding$Slot;", true)
def tyX10 : Nat → FieldType := fun k => match k with
  | 0 => .object "CableLanding$Text"
  | 1 => .object "CableLanding$State"
  | 2 => .object "CableLanding$State"
  | 3 => .object "CableLanding$History"
  | _ => .array (.object "CableLanding$Slot")
theorem nmX10 : ∀ a, a < 5 → ∀ b, b < 5 → a ≠ b → (TX10 a).2.1 ≠ (TX10 b).2.1 := by decide +kernel
theorem tyX10_ok : ∀ k, k < 5 → parseFieldDescriptor (TX10 k).2.2.1 = some (tyX10 k) := by decide +kernel
abbrev cX10_init : ByteArray := prog_1_method_1_code
def yX10_init : MethodName := ⟨RX10, "<init>", "()V"⟩
abbrev cX10_append : ByteArray := prog_1_method_2_code
def yX10_append : MethodName := ⟨RX10, "append", "(I)I"⟩
abbrev cX10_clearText : ByteArray := prog_1_method_3_code
def yX10_clearText : MethodName := ⟨RX10, "clearText", "()I"⟩
abbrev cX10_errorPosition : ByteArray := prog_1_method_4_code
def yX10_errorPosition : MethodName := ⟨RX10, "errorPosition", "()I"⟩
abbrev cX10_load : ByteArray := prog_1_method_5_code
def yX10_load : MethodName := ⟨RX10, "load", "()I"⟩
abbrev cX10_about : ByteArray := prog_1_method_6_code
def yX10_about : MethodName := ⟨RX10, "about", "(I)I"⟩
abbrev cX10_zone : ByteArray := prog_1_method_7_code
def yX10_zone : MethodName := ⟨RX10, "zone", "(II)I"⟩
abbrev cX10_ship : ByteArray := prog_1_method_8_code
def yX10_ship : MethodName := ⟨RX10, "ship", "(II)I"⟩
abbrev cX10_waves : ByteArray := prog_1_method_9_code
def yX10_waves : MethodName := ⟨RX10, "waves", "(I)I"⟩
abbrev cX10_account : ByteArray := prog_1_method_10_code
def yX10_account : MethodName := ⟨RX10, "account", "(I)I"⟩
abbrev cX10_take : ByteArray := prog_1_method_11_code
def yX10_take : MethodName := ⟨RX10, "take", "(II)I"⟩
abbrev cX10_send : ByteArray := prog_1_method_12_code
def yX10_send : MethodName := ⟨RX10, "send", "(I)I"⟩
abbrev cX10_recall : ByteArray := prog_1_method_13_code
def yX10_recall : MethodName := ⟨RX10, "recall", "(I)I"⟩
abbrev cX10_extend : ByteArray := prog_1_method_14_code
def yX10_extend : MethodName := ⟨RX10, "extend", "(II)I"⟩
abbrev cX10_buy : ByteArray := prog_1_method_15_code
def yX10_buy : MethodName := ⟨RX10, "buy", "(I)I"⟩
abbrev cX10_setWaves : ByteArray := prog_1_method_16_code
def yX10_setWaves : MethodName := ⟨RX10, "setWaves", "(II)I"⟩
abbrev cX10_pass : ByteArray := prog_1_method_17_code
def yX10_pass : MethodName := ⟨RX10, "pass", "(I)I"⟩
abbrev cX10_undo : ByteArray := prog_1_method_18_code
def yX10_undo : MethodName := ⟨RX10, "undo", "()I"⟩
abbrev cX10_needs : ByteArray := prog_1_method_19_code
def yX10_needs : MethodName := ⟨RX10, "needs", "(II)I"⟩
abbrev cX10_reach : ByteArray := prog_1_method_20_code
def yX10_reach : MethodName := ⟨RX10, "reach", "(II)I"⟩
abbrev cX10_calmDays : ByteArray := prog_1_method_21_code
def yX10_calmDays : MethodName := ⟨RX10, "calmDays", "(II)I"⟩
abbrev cX10_ahead : ByteArray := prog_1_method_22_code
def yX10_ahead : MethodName := ⟨RX10, "ahead", "(II)I"⟩
abbrev cX10_doneAfter : ByteArray := prog_1_method_23_code
def yX10_doneAfter : MethodName := ⟨RX10, "doneAfter", "(I)I"⟩
abbrev cX10_bestShip : ByteArray := prog_1_method_24_code
def yX10_bestShip : MethodName := ⟨RX10, "bestShip", "()I"⟩
abbrev cX10_extension : ByteArray := prog_1_method_25_code
def yX10_extension : MethodName := ⟨RX10, "extension", "(I)I"⟩
abbrev cX10_runScript : ByteArray := prog_1_method_26_code
def yX10_runScript : MethodName := ⟨RX10, "runScript", "(IJ)I"⟩
abbrev cX10_simulate : ByteArray := prog_1_method_27_code
def yX10_simulate : MethodName := ⟨RX10, "simulate", "(JI)I"⟩
abbrev cX10_save : ByteArray := prog_1_method_28_code
def yX10_save : MethodName := ⟨RX10, "save", "(I)I"⟩
abbrev cX10_restore : ByteArray := prog_1_method_29_code
def yX10_restore : MethodName := ⟨RX10, "restore", "(I)I"⟩
abbrev cX10_requireRange : ByteArray := prog_1_method_30_code
def yX10_requireRange : MethodName := ⟨RX10, "requireRange", "(III)V"⟩
abbrev cX10_require : ByteArray := prog_1_method_31_code
def yX10_require : MethodName := ⟨RX10, "require", "(Z)V"⟩
abbrev cX10_existingZone : ByteArray := prog_1_method_32_code
def yX10_existingZone : MethodName := ⟨RX10, "existingZone", "(LCableLanding$State;I)LCableLanding$Zone;"⟩
abbrev cX10_existingShip : ByteArray := prog_1_method_33_code
def yX10_existingShip : MethodName := ⟨RX10, "existingShip", "(I)LCableLanding$Ship;"⟩
abbrev cX10_existingSlot : ByteArray := prog_1_method_34_code
def yX10_existingSlot : MethodName := ⟨RX10, "existingSlot", "(I)LCableLanding$Slot;"⟩
def RX11 : String := "CableLandingModel"
def TX11 : u_T := fun k => match k with
  | _ => ("", "", "", false)
def tyX11 : Nat → FieldType := fun k => match k with
  | _ => .int
theorem nmX11 : ∀ a, a < 0 → ∀ b, b < 0 → a ≠ b → (TX11 a).2.1 ≠ (TX11 b).2.1 := by decide +kernel
theorem tyX11_ok : ∀ k, k < 0 → parseFieldDescriptor (TX11 k).2.2.1 = some (tyX11 k) := by decide +kernel
def RL : String := "CableLandingLaw"
abbrev cL_tryAppend : ByteArray := method_2_code
def yL_tryAppend : MethodName := ⟨RL, "tryAppend", "(LCableLanding;I)I"⟩
abbrev cL_tryLoad : ByteArray := method_3_code
def yL_tryLoad : MethodName := ⟨RL, "tryLoad", "(LCableLanding;)I"⟩
abbrev cL_tryAbout : ByteArray := method_4_code
def yL_tryAbout : MethodName := ⟨RL, "tryAbout", "(LCableLanding;I)I"⟩
abbrev cL_tryZone : ByteArray := method_5_code
def yL_tryZone : MethodName := ⟨RL, "tryZone", "(LCableLanding;II)I"⟩
abbrev cL_tryShip : ByteArray := method_6_code
def yL_tryShip : MethodName := ⟨RL, "tryShip", "(LCableLanding;II)I"⟩
abbrev cL_tryWaves : ByteArray := method_7_code
def yL_tryWaves : MethodName := ⟨RL, "tryWaves", "(LCableLanding;I)I"⟩
abbrev cL_tryAccount : ByteArray := method_8_code
def yL_tryAccount : MethodName := ⟨RL, "tryAccount", "(LCableLanding;I)I"⟩
abbrev cL_tryTake : ByteArray := method_9_code
def yL_tryTake : MethodName := ⟨RL, "tryTake", "(LCableLanding;II)I"⟩
abbrev cL_trySend : ByteArray := method_10_code
def yL_trySend : MethodName := ⟨RL, "trySend", "(LCableLanding;I)I"⟩
abbrev cL_tryRecall : ByteArray := method_11_code
def yL_tryRecall : MethodName := ⟨RL, "tryRecall", "(LCableLanding;I)I"⟩
abbrev cL_tryExtend : ByteArray := method_12_code
def yL_tryExtend : MethodName := ⟨RL, "tryExtend", "(LCableLanding;II)I"⟩
abbrev cL_tryBuy : ByteArray := method_13_code
def yL_tryBuy : MethodName := ⟨RL, "tryBuy", "(LCableLanding;I)I"⟩
abbrev cL_trySetWaves : ByteArray := method_14_code
def yL_trySetWaves : MethodName := ⟨RL, "trySetWaves", "(LCableLanding;II)I"⟩
abbrev cL_tryPass : ByteArray := method_15_code
def yL_tryPass : MethodName := ⟨RL, "tryPass", "(LCableLanding;I)I"⟩
abbrev cL_tryUndo : ByteArray := method_16_code
def yL_tryUndo : MethodName := ⟨RL, "tryUndo", "(LCableLanding;)I"⟩
abbrev cL_tryNeeds : ByteArray := method_17_code
def yL_tryNeeds : MethodName := ⟨RL, "tryNeeds", "(LCableLanding;II)I"⟩
abbrev cL_tryReach : ByteArray := method_18_code
def yL_tryReach : MethodName := ⟨RL, "tryReach", "(LCableLanding;II)I"⟩
abbrev cL_tryCalmDays : ByteArray := method_19_code
def yL_tryCalmDays : MethodName := ⟨RL, "tryCalmDays", "(LCableLanding;II)I"⟩
abbrev cL_tryAhead : ByteArray := method_20_code
def yL_tryAhead : MethodName := ⟨RL, "tryAhead", "(LCableLanding;II)I"⟩
abbrev cL_tryDoneAfter : ByteArray := method_21_code
def yL_tryDoneAfter : MethodName := ⟨RL, "tryDoneAfter", "(LCableLanding;I)I"⟩
abbrev cL_tryExtension : ByteArray := method_22_code
def yL_tryExtension : MethodName := ⟨RL, "tryExtension", "(LCableLanding;I)I"⟩
abbrev cL_tryScript : ByteArray := method_23_code
def yL_tryScript : MethodName := ⟨RL, "tryScript", "(LCableLanding;IJ)I"⟩
abbrev cL_trySimulate : ByteArray := method_24_code
def yL_trySimulate : MethodName := ⟨RL, "trySimulate", "(LCableLanding;JI)I"⟩
abbrev cL_trySave : ByteArray := method_25_code
def yL_trySave : MethodName := ⟨RL, "trySave", "(LCableLanding;I)I"⟩
abbrev cL_tryRestore : ByteArray := method_26_code
def yL_tryRestore : MethodName := ⟨RL, "tryRestore", "(LCableLanding;I)I"⟩
abbrev cL_number : ByteArray := method_27_code
def yL_number : MethodName := ⟨RL, "number", "([II)I"⟩
abbrev cL_put : ByteArray := method_28_code
def yL_put : MethodName := ⟨RL, "put", "(LCableLanding;LCableLanding;I)Z"⟩
abbrev cL_digits : ByteArray := method_29_code
def yL_digits : MethodName := ⟨RL, "digits", "(LCableLanding;LCableLanding;II)Z"⟩
abbrev cL_told : ByteArray := method_30_code
def yL_told : MethodName := ⟨RL, "told", "(LCableLanding;LCableLanding;[II)Z"⟩
abbrev cL_alike : ByteArray := method_31_code
def yL_alike : MethodName := ⟨RL, "alike", "(LCableLanding;LCableLanding;)Z"⟩
abbrev cL_refuses : ByteArray := method_32_code
def yL_refuses : MethodName := ⟨RL, "refuses", "(LCableLanding;)Z"⟩
abbrev cL_sound : ByteArray := method_33_code
def yL_sound : MethodName := ⟨RL, "sound", "(LCableLanding;)Z"⟩
abbrev cL_days : ByteArray := method_34_code
def yL_days : MethodName := ⟨RL, "days", "(LCableLanding;I)Z"⟩
abbrev cL_hands : ByteArray := method_35_code
def yL_hands : MethodName := ⟨RL, "hands", "(LCableLanding;I)Z"⟩
abbrev cL_after : ByteArray := method_36_code
def yL_after : MethodName := ⟨RL, "after", "(LCableLanding;III)I"⟩
abbrev cL_scripts : ByteArray := method_37_code
def yL_scripts : MethodName := ⟨RL, "scripts", "(LCableLanding;I)Z"⟩
abbrev cL_act : ByteArray := method_38_code
def yL_act : MethodName := ⟨RL, "act", "(LCableLanding;II)I"⟩
abbrev cL_law : ByteArray := code
def yL_law : MethodName := ⟨RL, "law", "([I)Z"⟩
abbrev vwCl : List vw_C := [(RX0, TX0, 3), (RX1, TX1, 7), (RX3, TX3, 8), (RX4, TX4, 2), (RX5, TX5, 12), (RX6, TX6, 7), (RX7, TX7, 4), (RX8, TX8, 2), (RX9, TX9, 4), (RX10, TX10, 5)]
end
section
theorem dX0_init_0 : decode cX0_init 0 = .ok (.aload_n 0, 1) := by decide +kernel
theorem dX0_init_1 : decode cX0_init 1 = .ok (.invokespecial 1, 3) := by decide +kernel
theorem dX0_init_4 : decode cX0_init 4 = .ok (.aload_n 0, 1) := by decide +kernel
theorem dX0_init_5 : decode cX0_init 5 = .ok (.bipush 14, 2) := by decide +kernel
theorem dX0_init_7 : decode cX0_init 7 = .ok (.anewarray 9, 3) := by decide +kernel
theorem dX0_init_10 : decode cX0_init 10 = .ok (.putfield 11, 3) := by decide +kernel
theorem dX0_init_13 : decode cX0_init 13 = .ok (.iconst 0, 1) := by decide +kernel
theorem dX0_init_14 : decode cX0_init 14 = .ok (.istore_n 1, 1) := by decide +kernel
theorem dX0_init_15 : decode cX0_init 15 = .ok (.iload_n 1, 1) := by decide +kernel
theorem dX0_init_16 : decode cX0_init 16 = .ok (.aload_n 0, 1) := by decide +kernel
theorem dX0_init_17 : decode cX0_init 17 = .ok (.getfield 11, 3) := by decide +kernel
theorem dX0_init_20 : decode cX0_init 20 = .ok (.arraylength, 1) := by decide +kernel
theorem dX0_init_21 : decode cX0_init 21 = .ok (.if_icmp .ge 22, 3) := by decide +kernel
theorem dX0_init_24 : decode cX0_init 24 = .ok (.aload_n 0, 1) := by decide +kernel
theorem dX0_init_25 : decode cX0_init 25 = .ok (.getfield 11, 3) := by decide +kernel
theorem dX0_init_28 : decode cX0_init 28 = .ok (.iload_n 1, 1) := by decide +kernel
theorem dX0_init_29 : decode cX0_init 29 = .ok (.new 9, 3) := by decide +kernel
theorem dX0_init_32 : decode cX0_init 32 = .ok (.dup, 1) := by decide +kernel
theorem dX0_init_33 : decode cX0_init 33 = .ok (.invokespecial 15, 3) := by decide +kernel
theorem dX0_init_36 : decode cX0_init 36 = .ok (.aastore, 1) := by decide +kernel
theorem dX0_init_37 : decode cX0_init 37 = .ok (.iinc 1 1, 3) := by decide +kernel
theorem dX0_init_40 : decode cX0_init 40 = .ok (.goto (-25), 3) := by decide +kernel
theorem dX0_init_43 : decode cX0_init 43 = .ok (.return_, 1) := by decide +kernel
theorem dX0_clear_0 : decode cX0_clear 0 = .ok (.aload_n 0, 1) := by decide +kernel
theorem dX0_clear_1 : decode cX0_clear 1 = .ok (.iconst 0, 1) := by decide +kernel
theorem dX0_clear_2 : decode cX0_clear 2 = .ok (.putfield 16, 3) := by decide +kernel
theorem dX0_clear_5 : decode cX0_clear 5 = .ok (.aload_n 0, 1) := by decide +kernel
theorem dX0_clear_6 : decode cX0_clear 6 = .ok (.iconst 0, 1) := by decide +kernel
theorem dX0_clear_7 : decode cX0_clear 7 = .ok (.putfield 20, 3) := by decide +kernel
theorem dX0_clear_10 : decode cX0_clear 10 = .ok (.return_, 1) := by decide +kernel
theorem dX0_remember_0 : decode cX0_remember 0 = .ok (.aload_n 0, 1) := by decide +kernel
theorem dX0_remember_1 : decode cX0_remember 1 = .ok (.aload_n 0, 1) := by decide +kernel
theorem dX0_remember_2 : decode cX0_remember 2 = .ok (.getfield 20, 3) := by decide +kernel
theorem dX0_remember_5 : decode cX0_remember 5 = .ok (.invokevirtual 23, 3) := by decide +kernel
theorem dX0_remember_8 : decode cX0_remember 8 = .ok (.astore_n 2, 1) := by decide +kernel
theorem dX0_remember_9 : decode cX0_remember 9 = .ok (.aload_n 2, 1) := by decide +kernel
theorem dX0_remember_10 : decode cX0_remember 10 = .ok (.ifnull 8, 3) := by decide +kernel
theorem dX0_remember_13 : decode cX0_remember 13 = .ok (.aload_n 2, 1) := by decide +kernel
theorem dX0_remember_14 : decode cX0_remember 14 = .ok (.aload_n 1, 1) := by decide +kernel
theorem dX0_remember_15 : decode cX0_remember 15 = .ok (.invokevirtual 27, 3) := by decide +kernel
theorem dX0_remember_18 : decode cX0_remember 18 = .ok (.aload_n 0, 1) := by decide +kernel
theorem dX0_remember_19 : decode cX0_remember 19 = .ok (.getfield 20, 3) := by decide +kernel
theorem dX0_remember_22 : decode cX0_remember 22 = .ok (.bipush 14, 2) := by decide +kernel
theorem dX0_remember_24 : decode cX0_remember 24 = .ok (.if_icmp .ge 16, 3) := by decide +kernel
theorem dX0_remember_27 : decode cX0_remember 27 = .ok (.aload_n 0, 1) := by decide +kernel
theorem dX0_remember_28 : decode cX0_remember 28 = .ok (.dup, 1) := by decide +kernel
theorem dX0_remember_29 : decode cX0_remember 29 = .ok (.getfield 20, 3) := by decide +kernel
theorem dX0_remember_32 : decode cX0_remember 32 = .ok (.iconst 1, 1) := by decide +kernel
theorem dX0_remember_33 : decode cX0_remember 33 = .ok (.iadd, 1) := by decide +kernel
theorem dX0_remember_34 : decode cX0_remember 34 = .ok (.putfield 20, 3) := by decide +kernel
theorem dX0_remember_37 : decode cX0_remember 37 = .ok (.goto 16, 3) := by decide +kernel
theorem dX0_remember_40 : decode cX0_remember 40 = .ok (.aload_n 0, 1) := by decide +kernel
theorem dX0_remember_41 : decode cX0_remember 41 = .ok (.aload_n 0, 1) := by decide +kernel
theorem dX0_remember_42 : decode cX0_remember 42 = .ok (.getfield 16, 3) := by decide +kernel
theorem dX0_remember_45 : decode cX0_remember 45 = .ok (.iconst 1, 1) := by decide +kernel
theorem dX0_remember_46 : decode cX0_remember 46 = .ok (.iadd, 1) := by decide +kernel
theorem dX0_remember_47 : decode cX0_remember 47 = .ok (.bipush 14, 2) := by decide +kernel
theorem dX0_remember_49 : decode cX0_remember 49 = .ok (.irem, 1) := by decide +kernel
theorem dX0_remember_50 : decode cX0_remember 50 = .ok (.putfield 16, 3) := by decide +kernel
theorem dX0_remember_53 : decode cX0_remember 53 = .ok (.return_, 1) := by decide +kernel
theorem dX0_takeBack_0 : decode cX0_takeBack 0 = .ok (.aload_n 0, 1) := by decide +kernel
theorem dX0_takeBack_1 : decode cX0_takeBack 1 = .ok (.aload_n 0, 1) := by decide +kernel
theorem dX0_takeBack_2 : decode cX0_takeBack 2 = .ok (.getfield 20, 3) := by decide +kernel
theorem dX0_takeBack_5 : decode cX0_takeBack 5 = .ok (.iconst 1, 1) := by decide +kernel
theorem dX0_takeBack_6 : decode cX0_takeBack 6 = .ok (.isub, 1) := by decide +kernel
theorem dX0_takeBack_7 : decode cX0_takeBack 7 = .ok (.invokevirtual 23, 3) := by decide +kernel
theorem dX0_takeBack_10 : decode cX0_takeBack 10 = .ok (.astore_n 2, 1) := by decide +kernel
theorem dX0_takeBack_11 : decode cX0_takeBack 11 = .ok (.aload_n 2, 1) := by decide +kernel
theorem dX0_takeBack_12 : decode cX0_takeBack 12 = .ok (.ifnull 25, 3) := by decide +kernel
theorem dX0_takeBack_15 : decode cX0_takeBack 15 = .ok (.aload_n 0, 1) := by decide +kernel
theorem dX0_takeBack_16 : decode cX0_takeBack 16 = .ok (.getfield 20, 3) := by decide +kernel
theorem dX0_takeBack_19 : decode cX0_takeBack 19 = .ok (.ifCond .le 18, 3) := by decide +kernel
theorem dX0_takeBack_22 : decode cX0_takeBack 22 = .ok (.aload_n 0, 1) := by decide +kernel
theorem dX0_takeBack_23 : decode cX0_takeBack 23 = .ok (.dup, 1) := by decide +kernel
theorem dX0_takeBack_24 : decode cX0_takeBack 24 = .ok (.getfield 20, 3) := by decide +kernel
theorem dX0_takeBack_27 : decode cX0_takeBack 27 = .ok (.iconst 1, 1) := by decide +kernel
theorem dX0_takeBack_28 : decode cX0_takeBack 28 = .ok (.isub, 1) := by decide +kernel
theorem dX0_takeBack_29 : decode cX0_takeBack 29 = .ok (.putfield 20, 3) := by decide +kernel
theorem dX0_takeBack_32 : decode cX0_takeBack 32 = .ok (.aload_n 1, 1) := by decide +kernel
theorem dX0_takeBack_33 : decode cX0_takeBack 33 = .ok (.aload_n 2, 1) := by decide +kernel
theorem dX0_takeBack_34 : decode cX0_takeBack 34 = .ok (.invokevirtual 27, 3) := by decide +kernel
theorem dX0_takeBack_37 : decode cX0_takeBack 37 = .ok (.aload_n 0, 1) := by decide +kernel
theorem dX0_takeBack_38 : decode cX0_takeBack 38 = .ok (.getfield 20, 3) := by decide +kernel
theorem dX0_takeBack_41 : decode cX0_takeBack 41 = .ok (.ireturn, 1) := by decide +kernel
theorem dX0_placeOf_0 : decode cX0_placeOf 0 = .ok (.aload_n 0, 1) := by decide +kernel
theorem dX0_placeOf_1 : decode cX0_placeOf 1 = .ok (.getfield 16, 3) := by decide +kernel
theorem dX0_placeOf_4 : decode cX0_placeOf 4 = .ok (.iload_n 1, 1) := by decide +kernel
theorem dX0_placeOf_5 : decode cX0_placeOf 5 = .ok (.iadd, 1) := by decide +kernel
theorem dX0_placeOf_6 : decode cX0_placeOf 6 = .ok (.bipush 14, 2) := by decide +kernel
theorem dX0_placeOf_8 : decode cX0_placeOf 8 = .ok (.irem, 1) := by decide +kernel
theorem dX0_placeOf_9 : decode cX0_placeOf 9 = .ok (.istore_n 2, 1) := by decide +kernel
theorem dX0_placeOf_10 : decode cX0_placeOf 10 = .ok (.iload_n 2, 1) := by decide +kernel
theorem dX0_placeOf_11 : decode cX0_placeOf 11 = .ok (.ifCond .lt 21, 3) := by decide +kernel
theorem dX0_placeOf_14 : decode cX0_placeOf 14 = .ok (.iload_n 2, 1) := by decide +kernel
theorem dX0_placeOf_15 : decode cX0_placeOf 15 = .ok (.aload_n 0, 1) := by decide +kernel
theorem dX0_placeOf_16 : decode cX0_placeOf 16 = .ok (.getfield 11, 3) := by decide +kernel
theorem dX0_placeOf_19 : decode cX0_placeOf 19 = .ok (.arraylength, 1) := by decide +kernel
theorem dX0_placeOf_20 : decode cX0_placeOf 20 = .ok (.if_icmp .ge 12, 3) := by decide +kernel
theorem dX0_placeOf_23 : decode cX0_placeOf 23 = .ok (.aload_n 0, 1) := by decide +kernel
theorem dX0_placeOf_24 : decode cX0_placeOf 24 = .ok (.getfield 11, 3) := by decide +kernel
theorem dX0_placeOf_27 : decode cX0_placeOf 27 = .ok (.iload_n 2, 1) := by decide +kernel
theorem dX0_placeOf_28 : decode cX0_placeOf 28 = .ok (.aaload, 1) := by decide +kernel
theorem dX0_placeOf_29 : decode cX0_placeOf 29 = .ok (.goto 4, 3) := by decide +kernel
theorem dX0_placeOf_32 : decode cX0_placeOf 32 = .ok (.aconst_null, 1) := by decide +kernel
theorem dX0_placeOf_33 : decode cX0_placeOf 33 = .ok (.areturn, 1) := by decide +kernel
theorem dX1_init_0 : decode cX1_init 0 = .ok (.aload_n 0, 1) := by decide +kernel
theorem dX1_init_1 : decode cX1_init 1 = .ok (.invokespecial 1, 3) := by decide +kernel
theorem dX1_init_4 : decode cX1_init 4 = .ok (.return_, 1) := by decide +kernel
theorem dX1_begin_0 : decode cX1_begin 0 = .ok (.aload_n 0, 1) := by decide +kernel
theorem dX1_begin_1 : decode cX1_begin 1 = .ok (.iload_n 1, 1) := by decide +kernel
theorem dX1_begin_2 : decode cX1_begin 2 = .ok (.putfield 7, 3) := by decide +kernel
theorem dX1_begin_5 : decode cX1_begin 5 = .ok (.aload_n 0, 1) := by decide +kernel
theorem dX1_begin_6 : decode cX1_begin 6 = .ok (.iconst 0, 1) := by decide +kernel
theorem dX1_begin_7 : decode cX1_begin 7 = .ok (.putfield 13, 3) := by decide +kernel
theorem dX1_begin_10 : decode cX1_begin 10 = .ok (.aload_n 0, 1) := by decide +kernel
theorem dX1_begin_11 : decode cX1_begin 11 = .ok (.iconst 0, 1) := by decide +kernel
theorem dX1_begin_12 : decode cX1_begin 12 = .ok (.putfield 16, 3) := by decide +kernel
theorem dX1_begin_15 : decode cX1_begin 15 = .ok (.aload_n 0, 1) := by decide +kernel
theorem dX1_begin_16 : decode cX1_begin 16 = .ok (.iconst 0, 1) := by decide +kernel
theorem dX1_begin_17 : decode cX1_begin 17 = .ok (.putfield 19, 3) := by decide +kernel
theorem dX1_begin_20 : decode cX1_begin 20 = .ok (.aload_n 0, 1) := by decide +kernel
theorem dX1_begin_21 : decode cX1_begin 21 = .ok (.iconst 0, 1) := by decide +kernel
theorem dX1_begin_22 : decode cX1_begin 22 = .ok (.putfield 22, 3) := by decide +kernel
theorem dX1_begin_25 : decode cX1_begin 25 = .ok (.aload_n 0, 1) := by decide +kernel
theorem dX1_begin_26 : decode cX1_begin 26 = .ok (.iconst 0, 1) := by decide +kernel
theorem dX1_begin_27 : decode cX1_begin 27 = .ok (.putfield 25, 3) := by decide +kernel
theorem dX1_begin_30 : decode cX1_begin 30 = .ok (.aload_n 0, 1) := by decide +kernel
theorem dX1_begin_31 : decode cX1_begin 31 = .ok (.iconst 0, 1) := by decide +kernel
theorem dX1_begin_32 : decode cX1_begin 32 = .ok (.putfield 28, 3) := by decide +kernel
theorem dX1_begin_35 : decode cX1_begin 35 = .ok (.return_, 1) := by decide +kernel
theorem dX1_copyFrom_0 : decode cX1_copyFrom 0 = .ok (.aload_n 0, 1) := by decide +kernel
theorem dX1_copyFrom_1 : decode cX1_copyFrom 1 = .ok (.aload_n 1, 1) := by decide +kernel
theorem dX1_copyFrom_2 : decode cX1_copyFrom 2 = .ok (.getfield 7, 3) := by decide +kernel
theorem dX1_copyFrom_5 : decode cX1_copyFrom 5 = .ok (.putfield 7, 3) := by decide +kernel
theorem dX1_copyFrom_8 : decode cX1_copyFrom 8 = .ok (.aload_n 0, 1) := by decide +kernel
theorem dX1_copyFrom_9 : decode cX1_copyFrom 9 = .ok (.aload_n 1, 1) := by decide +kernel
theorem dX1_copyFrom_10 : decode cX1_copyFrom 10 = .ok (.getfield 13, 3) := by decide +kernel
theorem dX1_copyFrom_13 : decode cX1_copyFrom 13 = .ok (.putfield 13, 3) := by decide +kernel
theorem dX1_copyFrom_16 : decode cX1_copyFrom 16 = .ok (.aload_n 0, 1) := by decide +kernel
theorem dX1_copyFrom_17 : decode cX1_copyFrom 17 = .ok (.aload_n 1, 1) := by decide +kernel
theorem dX1_copyFrom_18 : decode cX1_copyFrom 18 = .ok (.getfield 16, 3) := by decide +kernel
theorem dX1_copyFrom_21 : decode cX1_copyFrom 21 = .ok (.putfield 16, 3) := by decide +kernel
theorem dX1_copyFrom_24 : decode cX1_copyFrom 24 = .ok (.aload_n 0, 1) := by decide +kernel
theorem dX1_copyFrom_25 : decode cX1_copyFrom 25 = .ok (.aload_n 1, 1) := by decide +kernel
theorem dX1_copyFrom_26 : decode cX1_copyFrom 26 = .ok (.getfield 19, 3) := by decide +kernel
theorem dX1_copyFrom_29 : decode cX1_copyFrom 29 = .ok (.putfield 19, 3) := by decide +kernel
theorem dX1_copyFrom_32 : decode cX1_copyFrom 32 = .ok (.aload_n 0, 1) := by decide +kernel
theorem dX1_copyFrom_33 : decode cX1_copyFrom 33 = .ok (.aload_n 1, 1) := by decide +kernel
theorem dX1_copyFrom_34 : decode cX1_copyFrom 34 = .ok (.getfield 22, 3) := by decide +kernel
theorem dX1_copyFrom_37 : decode cX1_copyFrom 37 = .ok (.putfield 22, 3) := by decide +kernel
theorem dX1_copyFrom_40 : decode cX1_copyFrom 40 = .ok (.aload_n 0, 1) := by decide +kernel
theorem dX1_copyFrom_41 : decode cX1_copyFrom 41 = .ok (.aload_n 1, 1) := by decide +kernel
theorem dX1_copyFrom_42 : decode cX1_copyFrom 42 = .ok (.getfield 25, 3) := by decide +kernel
theorem dX1_copyFrom_45 : decode cX1_copyFrom 45 = .ok (.putfield 25, 3) := by decide +kernel
theorem dX1_copyFrom_48 : decode cX1_copyFrom 48 = .ok (.aload_n 0, 1) := by decide +kernel
theorem dX1_copyFrom_49 : decode cX1_copyFrom 49 = .ok (.aload_n 1, 1) := by decide +kernel
theorem dX1_copyFrom_50 : decode cX1_copyFrom 50 = .ok (.getfield 28, 3) := by decide +kernel
theorem dX1_copyFrom_53 : decode cX1_copyFrom 53 = .ok (.putfield 28, 3) := by decide +kernel
theorem dX1_copyFrom_56 : decode cX1_copyFrom 56 = .ok (.return_, 1) := by decide +kernel
theorem dX2_withoutLast_0 : decode cX2_withoutLast 0 = .ok (.lload_n 0, 1) := by decide +kernel
theorem dX2_withoutLast_1 : decode cX2_withoutLast 1 = .ok (.lstore_n 3, 1) := by decide +kernel
theorem dX2_withoutLast_2 : decode cX2_withoutLast 2 = .ok (.iconst 0, 1) := by decide +kernel
theorem dX2_withoutLast_3 : decode cX2_withoutLast 3 = .ok (.istore 5, 2) := by decide +kernel
theorem dX2_withoutLast_5 : decode cX2_withoutLast 5 = .ok (.iload 5, 2) := by decide +kernel
theorem dX2_withoutLast_7 : decode cX2_withoutLast 7 = .ok (.iload_n 2, 1) := by decide +kernel
theorem dX2_withoutLast_8 : decode cX2_withoutLast 8 = .ok (.if_icmp .ge 15, 3) := by decide +kernel
theorem dX2_withoutLast_11 : decode cX2_withoutLast 11 = .ok (.lload_n 3, 1) := by decide +kernel
theorem dX2_withoutLast_12 : decode cX2_withoutLast 12 = .ok (.ldc2_w 11, 3) := by decide +kernel
theorem dX2_withoutLast_15 : decode cX2_withoutLast 15 = .ok (.ldiv, 1) := by decide +kernel
theorem dX2_withoutLast_16 : decode cX2_withoutLast 16 = .ok (.lstore_n 3, 1) := by decide +kernel
theorem dX2_withoutLast_17 : decode cX2_withoutLast 17 = .ok (.iinc 5 1, 3) := by decide +kernel
theorem dX2_withoutLast_20 : decode cX2_withoutLast 20 = .ok (.goto (-15), 3) := by decide +kernel
theorem dX2_withoutLast_23 : decode cX2_withoutLast 23 = .ok (.lload_n 3, 1) := by decide +kernel
theorem dX2_withoutLast_24 : decode cX2_withoutLast 24 = .ok (.lreturn, 1) := by decide +kernel
theorem dX2_succeeds_0 : decode cX2_succeeds 0 = .ok (.iload_n 1, 1) := by decide +kernel
theorem dX2_succeeds_1 : decode cX2_succeeds 1 = .ok (.sipush 1000, 3) := by decide +kernel
theorem dX2_succeeds_4 : decode cX2_succeeds 4 = .ok (.idiv, 1) := by decide +kernel
theorem dX2_succeeds_5 : decode cX2_succeeds 5 = .ok (.bipush 10, 2) := by decide +kernel
theorem dX2_succeeds_7 : decode cX2_succeeds 7 = .ok (.irem, 1) := by decide +kernel
theorem dX2_succeeds_8 : decode cX2_succeeds 8 = .ok (.istore_n 2, 1) := by decide +kernel
theorem dX2_succeeds_9 : decode cX2_succeeds 9 = .ok (.iload_n 1, 1) := by decide +kernel
theorem dX2_succeeds_10 : decode cX2_succeeds 10 = .ok (.sipush 1000, 3) := by decide +kernel
theorem dX2_succeeds_13 : decode cX2_succeeds 13 = .ok (.irem, 1) := by decide +kernel
theorem dX2_succeeds_14 : decode cX2_succeeds 14 = .ok (.istore_n 3, 1) := by decide +kernel
theorem dX2_succeeds_15 : decode cX2_succeeds 15 = .ok (.iload_n 1, 1) := by decide +kernel
theorem dX2_succeeds_16 : decode cX2_succeeds 16 = .ok (.sipush 10000, 3) := by decide +kernel
theorem dX2_succeeds_19 : decode cX2_succeeds 19 = .ok (.idiv, 1) := by decide +kernel
theorem dX2_succeeds_20 : decode cX2_succeeds 20 = .ok (.tableswitch 250 1 9 #[52, 63, 85, 107, 132, 156, 174, 202, 226], 52) := by decide +kernel
theorem dX2_succeeds_72 : decode cX2_succeeds 72 = .ok (.aload_n 0, 1) := by decide +kernel
theorem dX2_succeeds_73 : decode cX2_succeeds 73 = .ok (.aload_n 0, 1) := by decide +kernel
theorem dX2_succeeds_74 : decode cX2_succeeds 74 = .ok (.iload_n 2, 1) := by decide +kernel
theorem dX2_succeeds_75 : decode cX2_succeeds 75 = .ok (.invokevirtual 13, 3) := by decide +kernel
theorem dX2_succeeds_78 : decode cX2_succeeds 78 = .ok (.iload_n 3, 1) := by decide +kernel
theorem dX2_succeeds_79 : decode cX2_succeeds 79 = .ok (.invokestatic 19, 3) := by decide +kernel
theorem dX2_succeeds_82 : decode cX2_succeeds 82 = .ok (.ireturn, 1) := by decide +kernel
theorem dX2_succeeds_83 : decode cX2_succeeds 83 = .ok (.iload_n 3, 1) := by decide +kernel
theorem dX2_succeeds_84 : decode cX2_succeeds 84 = .ok (.ifCond .ne 19, 3) := by decide +kernel
theorem dX2_succeeds_87 : decode cX2_succeeds 87 = .ok (.aload_n 0, 1) := by decide +kernel
theorem dX2_succeeds_88 : decode cX2_succeeds 88 = .ok (.aload_n 0, 1) := by decide +kernel
theorem dX2_succeeds_89 : decode cX2_succeeds 89 = .ok (.iload_n 2, 1) := by decide +kernel
theorem dX2_succeeds_90 : decode cX2_succeeds 90 = .ok (.invokevirtual 13, 3) := by decide +kernel
theorem dX2_succeeds_93 : decode cX2_succeeds 93 = .ok (.invokestatic 23, 3) := by decide +kernel
theorem dX2_succeeds_96 : decode cX2_succeeds 96 = .ok (.ifCond .eq 7, 3) := by decide +kernel
theorem dX2_succeeds_99 : decode cX2_succeeds 99 = .ok (.iconst 1, 1) := by decide +kernel
theorem dX2_succeeds_100 : decode cX2_succeeds 100 = .ok (.goto 4, 3) := by decide +kernel
theorem dX2_succeeds_103 : decode cX2_succeeds 103 = .ok (.iconst 0, 1) := by decide +kernel
theorem dX2_succeeds_104 : decode cX2_succeeds 104 = .ok (.ireturn, 1) := by decide +kernel
theorem dX2_succeeds_105 : decode cX2_succeeds 105 = .ok (.iload_n 3, 1) := by decide +kernel
theorem dX2_succeeds_106 : decode cX2_succeeds 106 = .ok (.ifCond .ne 19, 3) := by decide +kernel
theorem dX2_succeeds_109 : decode cX2_succeeds 109 = .ok (.aload_n 0, 1) := by decide +kernel
theorem dX2_succeeds_110 : decode cX2_succeeds 110 = .ok (.aload_n 0, 1) := by decide +kernel
theorem dX2_succeeds_111 : decode cX2_succeeds 111 = .ok (.iload_n 2, 1) := by decide +kernel
theorem dX2_succeeds_112 : decode cX2_succeeds 112 = .ok (.invokevirtual 13, 3) := by decide +kernel
theorem dX2_succeeds_115 : decode cX2_succeeds 115 = .ok (.invokestatic 27, 3) := by decide +kernel
theorem dX2_succeeds_118 : decode cX2_succeeds 118 = .ok (.ifCond .eq 7, 3) := by decide +kernel
theorem dX2_succeeds_121 : decode cX2_succeeds 121 = .ok (.iconst 1, 1) := by decide +kernel
theorem dX2_succeeds_122 : decode cX2_succeeds 122 = .ok (.goto 4, 3) := by decide +kernel
theorem dX2_succeeds_125 : decode cX2_succeeds 125 = .ok (.iconst 0, 1) := by decide +kernel
theorem dX2_succeeds_126 : decode cX2_succeeds 126 = .ok (.ireturn, 1) := by decide +kernel
theorem dX2_succeeds_127 : decode cX2_succeeds 127 = .ok (.iload_n 3, 1) := by decide +kernel
theorem dX2_succeeds_128 : decode cX2_succeeds 128 = .ok (.bipush 100, 2) := by decide +kernel
theorem dX2_succeeds_130 : decode cX2_succeeds 130 = .ok (.if_icmp .ge 20, 3) := by decide +kernel
theorem dX2_succeeds_133 : decode cX2_succeeds 133 = .ok (.aload_n 0, 1) := by decide +kernel
theorem dX2_succeeds_134 : decode cX2_succeeds 134 = .ok (.aload_n 0, 1) := by decide +kernel
theorem dX2_succeeds_135 : decode cX2_succeeds 135 = .ok (.iload_n 2, 1) := by decide +kernel
theorem dX2_succeeds_136 : decode cX2_succeeds 136 = .ok (.invokevirtual 30, 3) := by decide +kernel
theorem dX2_succeeds_139 : decode cX2_succeeds 139 = .ok (.iload_n 3, 1) := by decide +kernel
theorem dX2_succeeds_140 : decode cX2_succeeds 140 = .ok (.invokestatic 34, 3) := by decide +kernel
theorem dX2_succeeds_143 : decode cX2_succeeds 143 = .ok (.ifCond .eq 7, 3) := by decide +kernel
theorem dX2_succeeds_146 : decode cX2_succeeds 146 = .ok (.iconst 1, 1) := by decide +kernel
theorem dX2_succeeds_147 : decode cX2_succeeds 147 = .ok (.goto 4, 3) := by decide +kernel
theorem dX2_succeeds_150 : decode cX2_succeeds 150 = .ok (.iconst 0, 1) := by decide +kernel
theorem dX2_succeeds_151 : decode cX2_succeeds 151 = .ok (.ireturn, 1) := by decide +kernel
theorem dX2_succeeds_152 : decode cX2_succeeds 152 = .ok (.iload_n 2, 1) := by decide +kernel
theorem dX2_succeeds_153 : decode cX2_succeeds 153 = .ok (.ifCond .ne 14, 3) := by decide +kernel
theorem dX2_succeeds_156 : decode cX2_succeeds 156 = .ok (.iload_n 3, 1) := by decide +kernel
theorem dX2_succeeds_157 : decode cX2_succeeds 157 = .ok (.iconst 1, 1) := by decide +kernel
theorem dX2_succeeds_158 : decode cX2_succeeds 158 = .ok (.if_icmp .lt 9, 3) := by decide +kernel
theorem dX2_succeeds_161 : decode cX2_succeeds 161 = .ok (.iload_n 3, 1) := by decide +kernel
theorem dX2_succeeds_162 : decode cX2_succeeds 162 = .ok (.bipush 99, 2) := by decide +kernel
theorem dX2_succeeds_164 : decode cX2_succeeds 164 = .ok (.if_icmp .le 5, 3) := by decide +kernel
theorem dX2_succeeds_167 : decode cX2_succeeds 167 = .ok (.iconst 0, 1) := by decide +kernel
theorem dX2_succeeds_168 : decode cX2_succeeds 168 = .ok (.ireturn, 1) := by decide +kernel
theorem dX2_succeeds_169 : decode cX2_succeeds 169 = .ok (.aload_n 0, 1) := by decide +kernel
theorem dX2_succeeds_170 : decode cX2_succeeds 170 = .ok (.iload_n 3, 1) := by decide +kernel
theorem dX2_succeeds_171 : decode cX2_succeeds 171 = .ok (.invokevirtual 38, 3) := by decide +kernel
theorem dX2_succeeds_174 : decode cX2_succeeds 174 = .ok (.iconst 1, 1) := by decide +kernel
theorem dX2_succeeds_175 : decode cX2_succeeds 175 = .ok (.ireturn, 1) := by decide +kernel
theorem dX2_succeeds_176 : decode cX2_succeeds 176 = .ok (.iload_n 2, 1) := by decide +kernel
theorem dX2_succeeds_177 : decode cX2_succeeds 177 = .ok (.ifCond .ne 15, 3) := by decide +kernel
theorem dX2_succeeds_180 : decode cX2_succeeds 180 = .ok (.aload_n 0, 1) := by decide +kernel
theorem dX2_succeeds_181 : decode cX2_succeeds 181 = .ok (.iload_n 3, 1) := by decide +kernel
theorem dX2_succeeds_182 : decode cX2_succeeds 182 = .ok (.invokestatic 42, 3) := by decide +kernel
theorem dX2_succeeds_185 : decode cX2_succeeds 185 = .ok (.ifCond .eq 7, 3) := by decide +kernel
theorem dX2_succeeds_188 : decode cX2_succeeds 188 = .ok (.iconst 1, 1) := by decide +kernel
theorem dX2_succeeds_189 : decode cX2_succeeds 189 = .ok (.goto 4, 3) := by decide +kernel
theorem dX2_succeeds_192 : decode cX2_succeeds 192 = .ok (.iconst 0, 1) := by decide +kernel
theorem dX2_succeeds_193 : decode cX2_succeeds 193 = .ok (.ireturn, 1) := by decide +kernel
theorem dX2_succeeds_194 : decode cX2_succeeds 194 = .ok (.iload_n 3, 1) := by decide +kernel
theorem dX2_succeeds_195 : decode cX2_succeeds 195 = .ok (.bipush 100, 2) := by decide +kernel
theorem dX2_succeeds_197 : decode cX2_succeeds 197 = .ok (.if_icmp .ge 23, 3) := by decide +kernel
theorem dX2_succeeds_200 : decode cX2_succeeds 200 = .ok (.aload_n 0, 1) := by decide +kernel
theorem dX2_succeeds_201 : decode cX2_succeeds 201 = .ok (.getfield 46, 3) := by decide +kernel
theorem dX2_succeeds_204 : decode cX2_succeeds 204 = .ok (.iload_n 2, 1) := by decide +kernel
theorem dX2_succeeds_205 : decode cX2_succeeds 205 = .ok (.if_icmp .ne 15, 3) := by decide +kernel
theorem dX2_succeeds_208 : decode cX2_succeeds 208 = .ok (.aload_n 0, 1) := by decide +kernel
theorem dX2_succeeds_209 : decode cX2_succeeds 209 = .ok (.getfield 50, 3) := by decide +kernel
theorem dX2_succeeds_212 : decode cX2_succeeds 212 = .ok (.iload_n 3, 1) := by decide +kernel
theorem dX2_succeeds_213 : decode cX2_succeeds 213 = .ok (.if_icmp .ne 7, 3) := by decide +kernel
theorem dX2_succeeds_216 : decode cX2_succeeds 216 = .ok (.iconst 1, 1) := by decide +kernel
theorem dX2_succeeds_217 : decode cX2_succeeds 217 = .ok (.goto 4, 3) := by decide +kernel
theorem dX2_succeeds_220 : decode cX2_succeeds 220 = .ok (.iconst 0, 1) := by decide +kernel
theorem dX2_succeeds_221 : decode cX2_succeeds 221 = .ok (.ireturn, 1) := by decide +kernel
theorem dX2_succeeds_222 : decode cX2_succeeds 222 = .ok (.iload_n 3, 1) := by decide +kernel
theorem dX2_succeeds_223 : decode cX2_succeeds 223 = .ok (.bipush 10, 2) := by decide +kernel
theorem dX2_succeeds_225 : decode cX2_succeeds 225 = .ok (.if_icmp .ge 19, 3) := by decide +kernel
theorem dX2_succeeds_228 : decode cX2_succeeds 228 = .ok (.aload_n 0, 1) := by decide +kernel
theorem dX2_succeeds_229 : decode cX2_succeeds 229 = .ok (.iload_n 2, 1) := by decide +kernel
theorem dX2_succeeds_230 : decode cX2_succeeds 230 = .ok (.invokevirtual 13, 3) := by decide +kernel
theorem dX2_succeeds_233 : decode cX2_succeeds 233 = .ok (.iload_n 3, 1) := by decide +kernel
theorem dX2_succeeds_234 : decode cX2_succeeds 234 = .ok (.invokestatic 53, 3) := by decide +kernel
theorem dX2_succeeds_237 : decode cX2_succeeds 237 = .ok (.ifCond .eq 7, 3) := by decide +kernel
theorem dX2_succeeds_240 : decode cX2_succeeds 240 = .ok (.iconst 1, 1) := by decide +kernel
theorem dX2_succeeds_241 : decode cX2_succeeds 241 = .ok (.goto 4, 3) := by decide +kernel
theorem dX2_succeeds_244 : decode cX2_succeeds 244 = .ok (.iconst 0, 1) := by decide +kernel
theorem dX2_succeeds_245 : decode cX2_succeeds 245 = .ok (.ireturn, 1) := by decide +kernel
theorem dX2_succeeds_246 : decode cX2_succeeds 246 = .ok (.iload_n 2, 1) := by decide +kernel
theorem dX2_succeeds_247 : decode cX2_succeeds 247 = .ok (.ifCond .ne 21, 3) := by decide +kernel
theorem dX2_succeeds_250 : decode cX2_succeeds 250 = .ok (.iload_n 3, 1) := by decide +kernel
theorem dX2_succeeds_251 : decode cX2_succeeds 251 = .ok (.bipush 10, 2) := by decide +kernel
theorem dX2_succeeds_253 : decode cX2_succeeds 253 = .ok (.if_icmp .ge 15, 3) := by decide +kernel
theorem dX2_succeeds_256 : decode cX2_succeeds 256 = .ok (.aload_n 0, 1) := by decide +kernel
theorem dX2_succeeds_257 : decode cX2_succeeds 257 = .ok (.getfield 57, 3) := by decide +kernel
theorem dX2_succeeds_260 : decode cX2_succeeds 260 = .ok (.iload_n 3, 1) := by decide +kernel
theorem dX2_succeeds_261 : decode cX2_succeeds 261 = .ok (.if_icmp .ne 7, 3) := by decide +kernel
theorem dX2_succeeds_264 : decode cX2_succeeds 264 = .ok (.iconst 1, 1) := by decide +kernel
theorem dX2_succeeds_265 : decode cX2_succeeds 265 = .ok (.goto 4, 3) := by decide +kernel
theorem dX2_succeeds_268 : decode cX2_succeeds 268 = .ok (.iconst 0, 1) := by decide +kernel
theorem dX2_succeeds_269 : decode cX2_succeeds 269 = .ok (.ireturn, 1) := by decide +kernel
theorem dX2_succeeds_270 : decode cX2_succeeds 270 = .ok (.iconst 0, 1) := by decide +kernel
theorem dX2_succeeds_271 : decode cX2_succeeds 271 = .ok (.ireturn, 1) := by decide +kernel
theorem dX2_takes_0 : decode cX2_takes 0 = .ok (.aload_n 1, 1) := by decide +kernel
theorem dX2_takes_1 : decode cX2_takes 1 = .ok (.ifnull 12, 3) := by decide +kernel
theorem dX2_takes_4 : decode cX2_takes 4 = .ok (.aload_n 0, 1) := by decide +kernel
theorem dX2_takes_5 : decode cX2_takes 5 = .ok (.aload_n 1, 1) := by decide +kernel
theorem dX2_takes_6 : decode cX2_takes 6 = .ok (.iload_n 2, 1) := by decide +kernel
theorem dX2_takes_7 : decode cX2_takes 7 = .ok (.invokevirtual 60, 3) := by decide +kernel
theorem dX2_takes_10 : decode cX2_takes 10 = .ok (.ifCond .ne 5, 3) := by decide +kernel
theorem dX2_takes_13 : decode cX2_takes 13 = .ok (.iconst 0, 1) := by decide +kernel
theorem dX2_takes_14 : decode cX2_takes 14 = .ok (.ireturn, 1) := by decide +kernel
theorem dX2_takes_15 : decode cX2_takes 15 = .ok (.aload_n 0, 1) := by decide +kernel
theorem dX2_takes_16 : decode cX2_takes 16 = .ok (.aload_n 1, 1) := by decide +kernel
theorem dX2_takes_17 : decode cX2_takes 17 = .ok (.iload_n 2, 1) := by decide +kernel
theorem dX2_takes_18 : decode cX2_takes 18 = .ok (.invokevirtual 63, 3) := by decide +kernel
theorem dX2_takes_21 : decode cX2_takes 21 = .ok (.iconst 1, 1) := by decide +kernel
theorem dX2_takes_22 : decode cX2_takes 22 = .ok (.ireturn, 1) := by decide +kernel
theorem dX2_sends_0 : decode cX2_sends 0 = .ok (.aload_n 1, 1) := by decide +kernel
theorem dX2_sends_1 : decode cX2_sends 1 = .ok (.ifnull 11, 3) := by decide +kernel
theorem dX2_sends_4 : decode cX2_sends 4 = .ok (.aload_n 0, 1) := by decide +kernel
theorem dX2_sends_5 : decode cX2_sends 5 = .ok (.aload_n 1, 1) := by decide +kernel
theorem dX2_sends_6 : decode cX2_sends 6 = .ok (.invokevirtual 67, 3) := by decide +kernel
theorem dX2_sends_9 : decode cX2_sends 9 = .ok (.ifCond .ne 5, 3) := by decide +kernel
theorem dX2_sends_12 : decode cX2_sends 12 = .ok (.iconst 0, 1) := by decide +kernel
theorem dX2_sends_13 : decode cX2_sends 13 = .ok (.ireturn, 1) := by decide +kernel
theorem dX2_sends_14 : decode cX2_sends 14 = .ok (.aload_n 0, 1) := by decide +kernel
theorem dX2_sends_15 : decode cX2_sends 15 = .ok (.aload_n 1, 1) := by decide +kernel
theorem dX2_sends_16 : decode cX2_sends 16 = .ok (.invokevirtual 71, 3) := by decide +kernel
theorem dX2_sends_19 : decode cX2_sends 19 = .ok (.iconst 1, 1) := by decide +kernel
theorem dX2_sends_20 : decode cX2_sends 20 = .ok (.ireturn, 1) := by decide +kernel
theorem dX2_recalls_0 : decode cX2_recalls 0 = .ok (.aload_n 1, 1) := by decide +kernel
theorem dX2_recalls_1 : decode cX2_recalls 1 = .ok (.ifnull 11, 3) := by decide +kernel
theorem dX2_recalls_4 : decode cX2_recalls 4 = .ok (.aload_n 0, 1) := by decide +kernel
theorem dX2_recalls_5 : decode cX2_recalls 5 = .ok (.aload_n 1, 1) := by decide +kernel
theorem dX2_recalls_6 : decode cX2_recalls 6 = .ok (.invokevirtual 75, 3) := by decide +kernel
theorem dX2_recalls_9 : decode cX2_recalls 9 = .ok (.ifCond .ne 5, 3) := by decide +kernel
theorem dX2_recalls_12 : decode cX2_recalls 12 = .ok (.iconst 0, 1) := by decide +kernel
theorem dX2_recalls_13 : decode cX2_recalls 13 = .ok (.ireturn, 1) := by decide +kernel
theorem dX2_recalls_14 : decode cX2_recalls 14 = .ok (.aload_n 0, 1) := by decide +kernel
theorem dX2_recalls_15 : decode cX2_recalls 15 = .ok (.aload_n 1, 1) := by decide +kernel
theorem dX2_recalls_16 : decode cX2_recalls 16 = .ok (.invokevirtual 78, 3) := by decide +kernel
theorem dX2_recalls_19 : decode cX2_recalls 19 = .ok (.iconst 1, 1) := by decide +kernel
theorem dX2_recalls_20 : decode cX2_recalls 20 = .ok (.ireturn, 1) := by decide +kernel
theorem dX2_extendsPermit_0 : decode cX2_extendsPermit 0 = .ok (.aload_n 1, 1) := by decide +kernel
theorem dX2_extendsPermit_1 : decode cX2_extendsPermit 1 = .ok (.ifnull 12, 3) := by decide +kernel
theorem dX2_extendsPermit_4 : decode cX2_extendsPermit 4 = .ok (.aload_n 0, 1) := by decide +kernel
theorem dX2_extendsPermit_5 : decode cX2_extendsPermit 5 = .ok (.aload_n 1, 1) := by decide +kernel
theorem dX2_extendsPermit_6 : decode cX2_extendsPermit 6 = .ok (.iload_n 2, 1) := by decide +kernel
theorem dX2_extendsPermit_7 : decode cX2_extendsPermit 7 = .ok (.invokevirtual 81, 3) := by decide +kernel
theorem dX2_extendsPermit_10 : decode cX2_extendsPermit 10 = .ok (.ifCond .ne 5, 3) := by decide +kernel
theorem dX2_extendsPermit_13 : decode cX2_extendsPermit 13 = .ok (.iconst 0, 1) := by decide +kernel
theorem dX2_extendsPermit_14 : decode cX2_extendsPermit 14 = .ok (.ireturn, 1) := by decide +kernel
theorem dX2_extendsPermit_15 : decode cX2_extendsPermit 15 = .ok (.aload_n 0, 1) := by decide +kernel
theorem dX2_extendsPermit_16 : decode cX2_extendsPermit 16 = .ok (.aload_n 1, 1) := by decide +kernel
theorem dX2_extendsPermit_17 : decode cX2_extendsPermit 17 = .ok (.iload_n 2, 1) := by decide +kernel
theorem dX2_extendsPermit_18 : decode cX2_extendsPermit 18 = .ok (.invokevirtual 85, 3) := by decide +kernel
theorem dX2_extendsPermit_21 : decode cX2_extendsPermit 21 = .ok (.iconst 1, 1) := by decide +kernel
theorem dX2_extendsPermit_22 : decode cX2_extendsPermit 22 = .ok (.ireturn, 1) := by decide +kernel
theorem dX2_buys_0 : decode cX2_buys 0 = .ok (.aload_n 0, 1) := by decide +kernel
theorem dX2_buys_1 : decode cX2_buys 1 = .ok (.iload_n 1, 1) := by decide +kernel
theorem dX2_buys_2 : decode cX2_buys 2 = .ok (.invokevirtual 89, 3) := by decide +kernel
theorem dX2_buys_5 : decode cX2_buys 5 = .ok (.ifCond .ne 5, 3) := by decide +kernel
theorem dX2_buys_8 : decode cX2_buys 8 = .ok (.iconst 0, 1) := by decide +kernel
theorem dX2_buys_9 : decode cX2_buys 9 = .ok (.ireturn, 1) := by decide +kernel
theorem dX2_buys_10 : decode cX2_buys 10 = .ok (.aload_n 0, 1) := by decide +kernel
theorem dX2_buys_11 : decode cX2_buys 11 = .ok (.iload_n 1, 1) := by decide +kernel
theorem dX2_buys_12 : decode cX2_buys 12 = .ok (.invokevirtual 93, 3) := by decide +kernel
theorem dX2_buys_15 : decode cX2_buys 15 = .ok (.iconst 1, 1) := by decide +kernel
theorem dX2_buys_16 : decode cX2_buys 16 = .ok (.ireturn, 1) := by decide +kernel
theorem dX2_isAt_0 : decode cX2_isAt 0 = .ok (.aload_n 0, 1) := by decide +kernel
theorem dX2_isAt_1 : decode cX2_isAt 1 = .ok (.ifnull 15, 3) := by decide +kernel
theorem dX2_isAt_4 : decode cX2_isAt 4 = .ok (.aload_n 0, 1) := by decide +kernel
theorem dX2_isAt_5 : decode cX2_isAt 5 = .ok (.getfield 96, 3) := by decide +kernel
theorem dX2_isAt_8 : decode cX2_isAt 8 = .ok (.iload_n 1, 1) := by decide +kernel
theorem dX2_isAt_9 : decode cX2_isAt 9 = .ok (.if_icmp .ne 7, 3) := by decide +kernel
theorem dX2_isAt_12 : decode cX2_isAt 12 = .ok (.iconst 1, 1) := by decide +kernel
theorem dX2_isAt_13 : decode cX2_isAt 13 = .ok (.goto 4, 3) := by decide +kernel
theorem dX2_isAt_16 : decode cX2_isAt 16 = .ok (.iconst 0, 1) := by decide +kernel
theorem dX2_isAt_17 : decode cX2_isAt 17 = .ok (.ireturn, 1) := by decide +kernel
theorem dX3_init_0 : decode cX3_init 0 = .ok (.aload_n 0, 1) := by decide +kernel
theorem dX3_init_1 : decode cX3_init 1 = .ok (.invokespecial 1, 3) := by decide +kernel
theorem dX3_init_4 : decode cX3_init 4 = .ok (.return_, 1) := by decide +kernel
theorem dX3_build_0 : decode cX3_build 0 = .ok (.aload_n 0, 1) := by decide +kernel
theorem dX3_build_1 : decode cX3_build 1 = .ok (.iload_n 1, 1) := by decide +kernel
theorem dX3_build_2 : decode cX3_build 2 = .ok (.putfield 7, 3) := by decide +kernel
theorem dX3_build_5 : decode cX3_build 5 = .ok (.aload_n 0, 1) := by decide +kernel
theorem dX3_build_6 : decode cX3_build 6 = .ok (.iload_n 2, 1) := by decide +kernel
theorem dX3_build_7 : decode cX3_build 7 = .ok (.putfield 13, 3) := by decide +kernel
theorem dX3_build_10 : decode cX3_build 10 = .ok (.aload_n 0, 1) := by decide +kernel
theorem dX3_build_11 : decode cX3_build 11 = .ok (.iload_n 3, 1) := by decide +kernel
theorem dX3_build_12 : decode cX3_build 12 = .ok (.putfield 16, 3) := by decide +kernel
theorem dX3_build_15 : decode cX3_build 15 = .ok (.aload_n 0, 1) := by decide +kernel
theorem dX3_build_16 : decode cX3_build 16 = .ok (.iload 4, 2) := by decide +kernel
theorem dX3_build_18 : decode cX3_build 18 = .ok (.putfield 19, 3) := by decide +kernel
theorem dX3_build_21 : decode cX3_build 21 = .ok (.aload_n 0, 1) := by decide +kernel
theorem dX3_build_22 : decode cX3_build 22 = .ok (.iconst 0, 1) := by decide +kernel
theorem dX3_build_23 : decode cX3_build 23 = .ok (.putfield 22, 3) := by decide +kernel
theorem dX3_build_26 : decode cX3_build 26 = .ok (.aload_n 0, 1) := by decide +kernel
theorem dX3_build_27 : decode cX3_build 27 = .ok (.iconst 0, 1) := by decide +kernel
theorem dX3_build_28 : decode cX3_build 28 = .ok (.putfield 25, 3) := by decide +kernel
theorem dX3_build_31 : decode cX3_build 31 = .ok (.aload_n 0, 1) := by decide +kernel
theorem dX3_build_32 : decode cX3_build 32 = .ok (.iconst 0, 1) := by decide +kernel
theorem dX3_build_33 : decode cX3_build 33 = .ok (.putfield 28, 3) := by decide +kernel
theorem dX3_build_36 : decode cX3_build 36 = .ok (.aload_n 0, 1) := by decide +kernel
theorem dX3_build_37 : decode cX3_build 37 = .ok (.iconst 0, 1) := by decide +kernel
theorem dX3_build_38 : decode cX3_build 38 = .ok (.putfield 31, 3) := by decide +kernel
theorem dX3_build_41 : decode cX3_build 41 = .ok (.return_, 1) := by decide +kernel
theorem dX3_copyFrom_0 : decode cX3_copyFrom 0 = .ok (.aload_n 0, 1) := by decide +kernel
theorem dX3_copyFrom_1 : decode cX3_copyFrom 1 = .ok (.aload_n 1, 1) := by decide +kernel
theorem dX3_copyFrom_2 : decode cX3_copyFrom 2 = .ok (.getfield 7, 3) := by decide +kernel
theorem dX3_copyFrom_5 : decode cX3_copyFrom 5 = .ok (.putfield 7, 3) := by decide +kernel
theorem dX3_copyFrom_8 : decode cX3_copyFrom 8 = .ok (.aload_n 0, 1) := by decide +kernel
theorem dX3_copyFrom_9 : decode cX3_copyFrom 9 = .ok (.aload_n 1, 1) := by decide +kernel
theorem dX3_copyFrom_10 : decode cX3_copyFrom 10 = .ok (.getfield 13, 3) := by decide +kernel
theorem dX3_copyFrom_13 : decode cX3_copyFrom 13 = .ok (.putfield 13, 3) := by decide +kernel
theorem dX3_copyFrom_16 : decode cX3_copyFrom 16 = .ok (.aload_n 0, 1) := by decide +kernel
theorem dX3_copyFrom_17 : decode cX3_copyFrom 17 = .ok (.aload_n 1, 1) := by decide +kernel
theorem dX3_copyFrom_18 : decode cX3_copyFrom 18 = .ok (.getfield 16, 3) := by decide +kernel
theorem dX3_copyFrom_21 : decode cX3_copyFrom 21 = .ok (.putfield 16, 3) := by decide +kernel
theorem dX3_copyFrom_24 : decode cX3_copyFrom 24 = .ok (.aload_n 0, 1) := by decide +kernel
theorem dX3_copyFrom_25 : decode cX3_copyFrom 25 = .ok (.aload_n 1, 1) := by decide +kernel
theorem dX3_copyFrom_26 : decode cX3_copyFrom 26 = .ok (.getfield 19, 3) := by decide +kernel
theorem dX3_copyFrom_29 : decode cX3_copyFrom 29 = .ok (.putfield 19, 3) := by decide +kernel
theorem dX3_copyFrom_32 : decode cX3_copyFrom 32 = .ok (.aload_n 0, 1) := by decide +kernel
theorem dX3_copyFrom_33 : decode cX3_copyFrom 33 = .ok (.aload_n 1, 1) := by decide +kernel
theorem dX3_copyFrom_34 : decode cX3_copyFrom 34 = .ok (.getfield 22, 3) := by decide +kernel
theorem dX3_copyFrom_37 : decode cX3_copyFrom 37 = .ok (.putfield 22, 3) := by decide +kernel
theorem dX3_copyFrom_40 : decode cX3_copyFrom 40 = .ok (.aload_n 0, 1) := by decide +kernel
theorem dX3_copyFrom_41 : decode cX3_copyFrom 41 = .ok (.aload_n 1, 1) := by decide +kernel
theorem dX3_copyFrom_42 : decode cX3_copyFrom 42 = .ok (.getfield 25, 3) := by decide +kernel
theorem dX3_copyFrom_45 : decode cX3_copyFrom 45 = .ok (.putfield 25, 3) := by decide +kernel
theorem dX3_copyFrom_48 : decode cX3_copyFrom 48 = .ok (.aload_n 0, 1) := by decide +kernel
theorem dX3_copyFrom_49 : decode cX3_copyFrom 49 = .ok (.aload_n 1, 1) := by decide +kernel
theorem dX3_copyFrom_50 : decode cX3_copyFrom 50 = .ok (.getfield 28, 3) := by decide +kernel
theorem dX3_copyFrom_53 : decode cX3_copyFrom 53 = .ok (.putfield 28, 3) := by decide +kernel
theorem dX3_copyFrom_56 : decode cX3_copyFrom 56 = .ok (.aload_n 0, 1) := by decide +kernel
theorem dX3_copyFrom_57 : decode cX3_copyFrom 57 = .ok (.aload_n 1, 1) := by decide +kernel
theorem dX3_copyFrom_58 : decode cX3_copyFrom 58 = .ok (.getfield 31, 3) := by decide +kernel
theorem dX3_copyFrom_61 : decode cX3_copyFrom 61 = .ok (.putfield 31, 3) := by decide +kernel
theorem dX3_copyFrom_64 : decode cX3_copyFrom 64 = .ok (.return_, 1) := by decide +kernel
theorem dX3_sail_0 : decode cX3_sail 0 = .ok (.aload_n 0, 1) := by decide +kernel
theorem dX3_sail_1 : decode cX3_sail 1 = .ok (.iload_n 1, 1) := by decide +kernel
theorem dX3_sail_2 : decode cX3_sail 2 = .ok (.putfield 25, 3) := by decide +kernel
theorem dX3_sail_5 : decode cX3_sail 5 = .ok (.aload_n 0, 1) := by decide +kernel
theorem dX3_sail_6 : decode cX3_sail 6 = .ok (.iload_n 2, 1) := by decide +kernel
theorem dX3_sail_7 : decode cX3_sail 7 = .ok (.putfield 28, 3) := by decide +kernel
theorem dX3_sail_10 : decode cX3_sail 10 = .ok (.return_, 1) := by decide +kernel
theorem dX3_sailOneDay_0 : decode cX3_sailOneDay 0 = .ok (.aload_n 0, 1) := by decide +kernel
theorem dX3_sailOneDay_1 : decode cX3_sailOneDay 1 = .ok (.getfield 25, 3) := by decide +kernel
theorem dX3_sailOneDay_4 : decode cX3_sailOneDay 4 = .ok (.iconst 1, 1) := by decide +kernel
theorem dX3_sailOneDay_5 : decode cX3_sailOneDay 5 = .ok (.if_icmp .eq 11, 3) := by decide +kernel
theorem dX3_sailOneDay_8 : decode cX3_sailOneDay 8 = .ok (.aload_n 0, 1) := by decide +kernel
theorem dX3_sailOneDay_9 : decode cX3_sailOneDay 9 = .ok (.getfield 25, 3) := by decide +kernel
theorem dX3_sailOneDay_12 : decode cX3_sailOneDay 12 = .ok (.iconst 4, 1) := by decide +kernel
theorem dX3_sailOneDay_13 : decode cX3_sailOneDay 13 = .ok (.if_icmp .ne 37, 3) := by decide +kernel
theorem dX3_sailOneDay_16 : decode cX3_sailOneDay 16 = .ok (.aload_n 0, 1) := by decide +kernel
theorem dX3_sailOneDay_17 : decode cX3_sailOneDay 17 = .ok (.dup, 1) := by decide +kernel
theorem dX3_sailOneDay_18 : decode cX3_sailOneDay 18 = .ok (.getfield 28, 3) := by decide +kernel
theorem dX3_sailOneDay_21 : decode cX3_sailOneDay 21 = .ok (.iconst 1, 1) := by decide +kernel
theorem dX3_sailOneDay_22 : decode cX3_sailOneDay 22 = .ok (.isub, 1) := by decide +kernel
theorem dX3_sailOneDay_23 : decode cX3_sailOneDay 23 = .ok (.putfield 28, 3) := by decide +kernel
theorem dX3_sailOneDay_26 : decode cX3_sailOneDay 26 = .ok (.aload_n 0, 1) := by decide +kernel
theorem dX3_sailOneDay_27 : decode cX3_sailOneDay 27 = .ok (.getfield 28, 3) := by decide +kernel
theorem dX3_sailOneDay_30 : decode cX3_sailOneDay 30 = .ok (.ifCond .ne 20, 3) := by decide +kernel
theorem dX3_sailOneDay_33 : decode cX3_sailOneDay 33 = .ok (.aload_n 0, 1) := by decide +kernel
theorem dX3_sailOneDay_34 : decode cX3_sailOneDay 34 = .ok (.aload_n 0, 1) := by decide +kernel
theorem dX3_sailOneDay_35 : decode cX3_sailOneDay 35 = .ok (.getfield 25, 3) := by decide +kernel
theorem dX3_sailOneDay_38 : decode cX3_sailOneDay 38 = .ok (.iconst 1, 1) := by decide +kernel
theorem dX3_sailOneDay_39 : decode cX3_sailOneDay 39 = .ok (.if_icmp .ne 7, 3) := by decide +kernel
theorem dX3_sailOneDay_42 : decode cX3_sailOneDay 42 = .ok (.iconst 2, 1) := by decide +kernel
theorem dX3_sailOneDay_43 : decode cX3_sailOneDay 43 = .ok (.goto 4, 3) := by decide +kernel
theorem dX3_sailOneDay_46 : decode cX3_sailOneDay 46 = .ok (.iconst 0, 1) := by decide +kernel
theorem dX3_sailOneDay_47 : decode cX3_sailOneDay 47 = .ok (.putfield 25, 3) := by decide +kernel
theorem dX3_sailOneDay_50 : decode cX3_sailOneDay 50 = .ok (.return_, 1) := by decide +kernel
theorem dX4_init_0 : decode cX4_init 0 = .ok (.aload_n 0, 1) := by decide +kernel
theorem dX4_init_1 : decode cX4_init 1 = .ok (.invokespecial 1, 3) := by decide +kernel
theorem dX4_init_4 : decode cX4_init 4 = .ok (.aload_n 0, 1) := by decide +kernel
theorem dX4_init_5 : decode cX4_init 5 = .ok (.new 7, 3) := by decide +kernel
theorem dX4_init_8 : decode cX4_init 8 = .ok (.dup, 1) := by decide +kernel
theorem dX4_init_9 : decode cX4_init 9 = .ok (.invokespecial 9, 3) := by decide +kernel
theorem dX4_init_12 : decode cX4_init 12 = .ok (.putfield 10, 3) := by decide +kernel
theorem dX4_init_15 : decode cX4_init 15 = .ok (.return_, 1) := by decide +kernel
end
section
theorem dX5_init_0 : decode cX5_init 0 = .ok (.aload_n 0, 1) := by decide +kernel
theorem dX5_init_1 : decode cX5_init 1 = .ok (.invokespecial 3, 3) := by decide +kernel
theorem dX5_init_4 : decode cX5_init 4 = .ok (.aload_n 0, 1) := by decide +kernel
theorem dX5_init_5 : decode cX5_init 5 = .ok (.bipush 9, 2) := by decide +kernel
theorem dX5_init_7 : decode cX5_init 7 = .ok (.anewarray 11, 3) := by decide +kernel
theorem dX5_init_10 : decode cX5_init 10 = .ok (.putfield 13, 3) := by decide +kernel
theorem dX5_init_13 : decode cX5_init 13 = .ok (.aload_n 0, 1) := by decide +kernel
theorem dX5_init_14 : decode cX5_init 14 = .ok (.iconst 4, 1) := by decide +kernel
theorem dX5_init_15 : decode cX5_init 15 = .ok (.anewarray 17, 3) := by decide +kernel
theorem dX5_init_18 : decode cX5_init 18 = .ok (.putfield 19, 3) := by decide +kernel
theorem dX5_init_21 : decode cX5_init 21 = .ok (.aload_n 0, 1) := by decide +kernel
theorem dX5_init_22 : decode cX5_init 22 = .ok (.new 23, 3) := by decide +kernel
theorem dX5_init_25 : decode cX5_init 25 = .ok (.dup, 1) := by decide +kernel
theorem dX5_init_26 : decode cX5_init 26 = .ok (.invokespecial 25, 3) := by decide +kernel
theorem dX5_init_29 : decode cX5_init 29 = .ok (.putfield 26, 3) := by decide +kernel
theorem dX5_init_32 : decode cX5_init 32 = .ok (.aload_n 0, 1) := by decide +kernel
theorem dX5_init_33 : decode cX5_init 33 = .ok (.new 30, 3) := by decide +kernel
theorem dX5_init_36 : decode cX5_init 36 = .ok (.dup, 1) := by decide +kernel
theorem dX5_init_37 : decode cX5_init 37 = .ok (.invokespecial 32, 3) := by decide +kernel
theorem dX5_init_40 : decode cX5_init 40 = .ok (.putfield 33, 3) := by decide +kernel
theorem dX5_init_43 : decode cX5_init 43 = .ok (.aload_n 0, 1) := by decide +kernel
theorem dX5_init_44 : decode cX5_init 44 = .ok (.new 37, 3) := by decide +kernel
theorem dX5_init_47 : decode cX5_init 47 = .ok (.dup, 1) := by decide +kernel
theorem dX5_init_48 : decode cX5_init 48 = .ok (.invokespecial 39, 3) := by decide +kernel
theorem dX5_init_51 : decode cX5_init 51 = .ok (.putfield 40, 3) := by decide +kernel
theorem dX5_init_54 : decode cX5_init 54 = .ok (.iconst 0, 1) := by decide +kernel
theorem dX5_init_55 : decode cX5_init 55 = .ok (.istore_n 1, 1) := by decide +kernel
theorem dX5_init_56 : decode cX5_init 56 = .ok (.iload_n 1, 1) := by decide +kernel
theorem dX5_init_57 : decode cX5_init 57 = .ok (.aload_n 0, 1) := by decide +kernel
theorem dX5_init_58 : decode cX5_init 58 = .ok (.getfield 13, 3) := by decide +kernel
theorem dX5_init_61 : decode cX5_init 61 = .ok (.arraylength, 1) := by decide +kernel
theorem dX5_init_62 : decode cX5_init 62 = .ok (.if_icmp .ge 22, 3) := by decide +kernel
theorem dX5_init_65 : decode cX5_init 65 = .ok (.aload_n 0, 1) := by decide +kernel
theorem dX5_init_66 : decode cX5_init 66 = .ok (.getfield 13, 3) := by decide +kernel
theorem dX5_init_69 : decode cX5_init 69 = .ok (.iload_n 1, 1) := by decide +kernel
theorem dX5_init_70 : decode cX5_init 70 = .ok (.new 11, 3) := by decide +kernel
theorem dX5_init_73 : decode cX5_init 73 = .ok (.dup, 1) := by decide +kernel
theorem dX5_init_74 : decode cX5_init 74 = .ok (.invokespecial 44, 3) := by decide +kernel
theorem dX5_init_77 : decode cX5_init 77 = .ok (.aastore, 1) := by decide +kernel
theorem dX5_init_78 : decode cX5_init 78 = .ok (.iinc 1 1, 3) := by decide +kernel
theorem dX5_init_81 : decode cX5_init 81 = .ok (.goto (-25), 3) := by decide +kernel
theorem dX5_init_84 : decode cX5_init 84 = .ok (.iconst 0, 1) := by decide +kernel
theorem dX5_init_85 : decode cX5_init 85 = .ok (.istore_n 1, 1) := by decide +kernel
theorem dX5_init_86 : decode cX5_init 86 = .ok (.iload_n 1, 1) := by decide +kernel
theorem dX5_init_87 : decode cX5_init 87 = .ok (.aload_n 0, 1) := by decide +kernel
theorem dX5_init_88 : decode cX5_init 88 = .ok (.getfield 19, 3) := by decide +kernel
theorem dX5_init_91 : decode cX5_init 91 = .ok (.arraylength, 1) := by decide +kernel
theorem dX5_init_92 : decode cX5_init 92 = .ok (.if_icmp .ge 22, 3) := by decide +kernel
theorem dX5_init_95 : decode cX5_init 95 = .ok (.aload_n 0, 1) := by decide +kernel
theorem dX5_init_96 : decode cX5_init 96 = .ok (.getfield 19, 3) := by decide +kernel
theorem dX5_init_99 : decode cX5_init 99 = .ok (.iload_n 1, 1) := by decide +kernel
theorem dX5_init_100 : decode cX5_init 100 = .ok (.new 17, 3) := by decide +kernel
theorem dX5_init_103 : decode cX5_init 103 = .ok (.dup, 1) := by decide +kernel
theorem dX5_init_104 : decode cX5_init 104 = .ok (.invokespecial 45, 3) := by decide +kernel
theorem dX5_init_107 : decode cX5_init 107 = .ok (.aastore, 1) := by decide +kernel
theorem dX5_init_108 : decode cX5_init 108 = .ok (.iinc 1 1, 3) := by decide +kernel
theorem dX5_init_111 : decode cX5_init 111 = .ok (.goto (-25), 3) := by decide +kernel
theorem dX5_init_114 : decode cX5_init 114 = .ok (.return_, 1) := by decide +kernel
theorem dX5_begin_0 : decode cX5_begin 0 = .ok (.aload_n 0, 1) := by decide +kernel
theorem dX5_begin_1 : decode cX5_begin 1 = .ok (.iconst 0, 1) := by decide +kernel
theorem dX5_begin_2 : decode cX5_begin 2 = .ok (.putfield 46, 3) := by decide +kernel
theorem dX5_begin_5 : decode cX5_begin 5 = .ok (.aload_n 0, 1) := by decide +kernel
theorem dX5_begin_6 : decode cX5_begin 6 = .ok (.iconst 0, 1) := by decide +kernel
theorem dX5_begin_7 : decode cX5_begin 7 = .ok (.putfield 50, 3) := by decide +kernel
theorem dX5_begin_10 : decode cX5_begin 10 = .ok (.aload_n 0, 1) := by decide +kernel
theorem dX5_begin_11 : decode cX5_begin 11 = .ok (.getfield 19, 3) := by decide +kernel
theorem dX5_begin_14 : decode cX5_begin 14 = .ok (.astore 4, 2) := by decide +kernel
theorem dX5_begin_16 : decode cX5_begin 16 = .ok (.aload 4, 2) := by decide +kernel
theorem dX5_begin_18 : decode cX5_begin 18 = .ok (.arraylength, 1) := by decide +kernel
theorem dX5_begin_19 : decode cX5_begin 19 = .ok (.istore 5, 2) := by decide +kernel
theorem dX5_begin_21 : decode cX5_begin 21 = .ok (.iconst 0, 1) := by decide +kernel
theorem dX5_begin_22 : decode cX5_begin 22 = .ok (.istore 6, 2) := by decide +kernel
theorem dX5_begin_24 : decode cX5_begin 24 = .ok (.iload 6, 2) := by decide +kernel
theorem dX5_begin_26 : decode cX5_begin 26 = .ok (.iload 5, 2) := by decide +kernel
theorem dX5_begin_28 : decode cX5_begin 28 = .ok (.if_icmp .ge 25, 3) := by decide +kernel
theorem dX5_begin_31 : decode cX5_begin 31 = .ok (.aload 4, 2) := by decide +kernel
theorem dX5_begin_33 : decode cX5_begin 33 = .ok (.iload 6, 2) := by decide +kernel
theorem dX5_begin_35 : decode cX5_begin 35 = .ok (.aaload, 1) := by decide +kernel
theorem dX5_begin_36 : decode cX5_begin 36 = .ok (.astore 7, 2) := by decide +kernel
theorem dX5_begin_38 : decode cX5_begin 38 = .ok (.aload 7, 2) := by decide +kernel
theorem dX5_begin_40 : decode cX5_begin 40 = .ok (.iconst 0, 1) := by decide +kernel
theorem dX5_begin_41 : decode cX5_begin 41 = .ok (.iconst 0, 1) := by decide +kernel
theorem dX5_begin_42 : decode cX5_begin 42 = .ok (.iconst 0, 1) := by decide +kernel
theorem dX5_begin_43 : decode cX5_begin 43 = .ok (.iconst 0, 1) := by decide +kernel
theorem dX5_begin_44 : decode cX5_begin 44 = .ok (.invokevirtual 53, 3) := by decide +kernel
theorem dX5_begin_47 : decode cX5_begin 47 = .ok (.iinc 6 1, 3) := by decide +kernel
theorem dX5_begin_50 : decode cX5_begin 50 = .ok (.goto (-26), 3) := by decide +kernel
theorem dX5_begin_53 : decode cX5_begin 53 = .ok (.aload_n 0, 1) := by decide +kernel
theorem dX5_begin_54 : decode cX5_begin 54 = .ok (.getfield 26, 3) := by decide +kernel
theorem dX5_begin_57 : decode cX5_begin 57 = .ok (.iconst 0, 1) := by decide +kernel
theorem dX5_begin_58 : decode cX5_begin 58 = .ok (.putfield 57, 3) := by decide +kernel
theorem dX5_begin_61 : decode cX5_begin 61 = .ok (.aload_n 0, 1) := by decide +kernel
theorem dX5_begin_62 : decode cX5_begin 62 = .ok (.getfield 33, 3) := by decide +kernel
theorem dX5_begin_65 : decode cX5_begin 65 = .ok (.iload_n 1, 1) := by decide +kernel
theorem dX5_begin_66 : decode cX5_begin 66 = .ok (.iload_n 2, 1) := by decide +kernel
theorem dX5_begin_67 : decode cX5_begin 67 = .ok (.invokevirtual 60, 3) := by decide +kernel
theorem dX5_begin_70 : decode cX5_begin 70 = .ok (.aload_n 0, 1) := by decide +kernel
theorem dX5_begin_71 : decode cX5_begin 71 = .ok (.getfield 40, 3) := by decide +kernel
theorem dX5_begin_74 : decode cX5_begin 74 = .ok (.iload_n 3, 1) := by decide +kernel
theorem dX5_begin_75 : decode cX5_begin 75 = .ok (.invokevirtual 64, 3) := by decide +kernel
theorem dX5_begin_78 : decode cX5_begin 78 = .ok (.aload_n 0, 1) := by decide +kernel
theorem dX5_begin_79 : decode cX5_begin 79 = .ok (.iload_n 3, 1) := by decide +kernel
theorem dX5_begin_80 : decode cX5_begin 80 = .ok (.putfield 67, 3) := by decide +kernel
theorem dX5_begin_83 : decode cX5_begin 83 = .ok (.aload_n 0, 1) := by decide +kernel
theorem dX5_begin_84 : decode cX5_begin 84 = .ok (.iconst 0, 1) := by decide +kernel
theorem dX5_begin_85 : decode cX5_begin 85 = .ok (.putfield 70, 3) := by decide +kernel
theorem dX5_begin_88 : decode cX5_begin 88 = .ok (.aload_n 0, 1) := by decide +kernel
theorem dX5_begin_89 : decode cX5_begin 89 = .ok (.iconst 0, 1) := by decide +kernel
theorem dX5_begin_90 : decode cX5_begin 90 = .ok (.putfield 73, 3) := by decide +kernel
theorem dX5_begin_93 : decode cX5_begin 93 = .ok (.aload_n 0, 1) := by decide +kernel
theorem dX5_begin_94 : decode cX5_begin 94 = .ok (.iconst 0, 1) := by decide +kernel
theorem dX5_begin_95 : decode cX5_begin 95 = .ok (.putfield 76, 3) := by decide +kernel
theorem dX5_begin_98 : decode cX5_begin 98 = .ok (.aload_n 0, 1) := by decide +kernel
theorem dX5_begin_99 : decode cX5_begin 99 = .ok (.iconst 0, 1) := by decide +kernel
theorem dX5_begin_100 : decode cX5_begin 100 = .ok (.putfield 79, 3) := by decide +kernel
theorem dX5_begin_103 : decode cX5_begin 103 = .ok (.return_, 1) := by decide +kernel
theorem dX5_addZone_0 : decode cX5_addZone 0 = .ok (.aload_n 0, 1) := by decide +kernel
theorem dX5_addZone_1 : decode cX5_addZone 1 = .ok (.getfield 46, 3) := by decide +kernel
theorem dX5_addZone_4 : decode cX5_addZone 4 = .ok (.ifCond .lt 61, 3) := by decide +kernel
theorem dX5_addZone_7 : decode cX5_addZone 7 = .ok (.aload_n 0, 1) := by decide +kernel
theorem dX5_addZone_8 : decode cX5_addZone 8 = .ok (.getfield 46, 3) := by decide +kernel
theorem dX5_addZone_11 : decode cX5_addZone 11 = .ok (.aload_n 0, 1) := by decide +kernel
theorem dX5_addZone_12 : decode cX5_addZone 12 = .ok (.getfield 13, 3) := by decide +kernel
theorem dX5_addZone_15 : decode cX5_addZone 15 = .ok (.arraylength, 1) := by decide +kernel
theorem dX5_addZone_16 : decode cX5_addZone 16 = .ok (.if_icmp .ge 49, 3) := by decide +kernel
theorem dX5_addZone_19 : decode cX5_addZone 19 = .ok (.aload_n 0, 1) := by decide +kernel
theorem dX5_addZone_20 : decode cX5_addZone 20 = .ok (.getfield 13, 3) := by decide +kernel
theorem dX5_addZone_23 : decode cX5_addZone 23 = .ok (.aload_n 0, 1) := by decide +kernel
theorem dX5_addZone_24 : decode cX5_addZone 24 = .ok (.getfield 46, 3) := by decide +kernel
theorem dX5_addZone_27 : decode cX5_addZone 27 = .ok (.aaload, 1) := by decide +kernel
theorem dX5_addZone_28 : decode cX5_addZone 28 = .ok (.astore 5, 2) := by decide +kernel
theorem dX5_addZone_30 : decode cX5_addZone 30 = .ok (.aload 5, 2) := by decide +kernel
theorem dX5_addZone_32 : decode cX5_addZone 32 = .ok (.iload_n 1, 1) := by decide +kernel
theorem dX5_addZone_33 : decode cX5_addZone 33 = .ok (.putfield 82, 3) := by decide +kernel
theorem dX5_addZone_36 : decode cX5_addZone 36 = .ok (.aload 5, 2) := by decide +kernel
theorem dX5_addZone_38 : decode cX5_addZone 38 = .ok (.iload_n 2, 1) := by decide +kernel
theorem dX5_addZone_39 : decode cX5_addZone 39 = .ok (.putfield 85, 3) := by decide +kernel
theorem dX5_addZone_42 : decode cX5_addZone 42 = .ok (.aload 5, 2) := by decide +kernel
theorem dX5_addZone_44 : decode cX5_addZone 44 = .ok (.iload_n 3, 1) := by decide +kernel
theorem dX5_addZone_45 : decode cX5_addZone 45 = .ok (.putfield 88, 3) := by decide +kernel
theorem dX5_addZone_48 : decode cX5_addZone 48 = .ok (.aload 5, 2) := by decide +kernel
theorem dX5_addZone_50 : decode cX5_addZone 50 = .ok (.iload 4, 2) := by decide +kernel
theorem dX5_addZone_52 : decode cX5_addZone 52 = .ok (.putfield 91, 3) := by decide +kernel
theorem dX5_addZone_55 : decode cX5_addZone 55 = .ok (.aload_n 0, 1) := by decide +kernel
theorem dX5_addZone_56 : decode cX5_addZone 56 = .ok (.dup, 1) := by decide +kernel
theorem dX5_addZone_57 : decode cX5_addZone 57 = .ok (.getfield 46, 3) := by decide +kernel
theorem dX5_addZone_60 : decode cX5_addZone 60 = .ok (.iconst 1, 1) := by decide +kernel
theorem dX5_addZone_61 : decode cX5_addZone 61 = .ok (.iadd, 1) := by decide +kernel
theorem dX5_addZone_62 : decode cX5_addZone 62 = .ok (.putfield 46, 3) := by decide +kernel
theorem dX5_addZone_65 : decode cX5_addZone 65 = .ok (.return_, 1) := by decide +kernel
theorem dX5_addShip_0 : decode cX5_addShip 0 = .ok (.aload_n 0, 1) := by decide +kernel
theorem dX5_addShip_1 : decode cX5_addShip 1 = .ok (.getfield 50, 3) := by decide +kernel
theorem dX5_addShip_4 : decode cX5_addShip 4 = .ok (.ifCond .lt 42, 3) := by decide +kernel
theorem dX5_addShip_7 : decode cX5_addShip 7 = .ok (.aload_n 0, 1) := by decide +kernel
theorem dX5_addShip_8 : decode cX5_addShip 8 = .ok (.getfield 50, 3) := by decide +kernel
theorem dX5_addShip_11 : decode cX5_addShip 11 = .ok (.aload_n 0, 1) := by decide +kernel
theorem dX5_addShip_12 : decode cX5_addShip 12 = .ok (.getfield 19, 3) := by decide +kernel
theorem dX5_addShip_15 : decode cX5_addShip 15 = .ok (.arraylength, 1) := by decide +kernel
theorem dX5_addShip_16 : decode cX5_addShip 16 = .ok (.if_icmp .ge 30, 3) := by decide +kernel
theorem dX5_addShip_19 : decode cX5_addShip 19 = .ok (.aload_n 0, 1) := by decide +kernel
theorem dX5_addShip_20 : decode cX5_addShip 20 = .ok (.getfield 19, 3) := by decide +kernel
theorem dX5_addShip_23 : decode cX5_addShip 23 = .ok (.aload_n 0, 1) := by decide +kernel
theorem dX5_addShip_24 : decode cX5_addShip 24 = .ok (.getfield 50, 3) := by decide +kernel
theorem dX5_addShip_27 : decode cX5_addShip 27 = .ok (.aaload, 1) := by decide +kernel
theorem dX5_addShip_28 : decode cX5_addShip 28 = .ok (.iload_n 1, 1) := by decide +kernel
theorem dX5_addShip_29 : decode cX5_addShip 29 = .ok (.iload_n 2, 1) := by decide +kernel
theorem dX5_addShip_30 : decode cX5_addShip 30 = .ok (.iload_n 3, 1) := by decide +kernel
theorem dX5_addShip_31 : decode cX5_addShip 31 = .ok (.iload 4, 2) := by decide +kernel
theorem dX5_addShip_33 : decode cX5_addShip 33 = .ok (.invokevirtual 53, 3) := by decide +kernel
theorem dX5_addShip_36 : decode cX5_addShip 36 = .ok (.aload_n 0, 1) := by decide +kernel
theorem dX5_addShip_37 : decode cX5_addShip 37 = .ok (.dup, 1) := by decide +kernel
theorem dX5_addShip_38 : decode cX5_addShip 38 = .ok (.getfield 50, 3) := by decide +kernel
theorem dX5_addShip_41 : decode cX5_addShip 41 = .ok (.iconst 1, 1) := by decide +kernel
theorem dX5_addShip_42 : decode cX5_addShip 42 = .ok (.iadd, 1) := by decide +kernel
theorem dX5_addShip_43 : decode cX5_addShip 43 = .ok (.putfield 50, 3) := by decide +kernel
theorem dX5_addShip_46 : decode cX5_addShip 46 = .ok (.return_, 1) := by decide +kernel
theorem dX5_copyFrom_0 : decode cX5_copyFrom 0 = .ok (.iconst 0, 1) := by decide +kernel
theorem dX5_copyFrom_1 : decode cX5_copyFrom 1 = .ok (.istore_n 2, 1) := by decide +kernel
theorem dX5_copyFrom_2 : decode cX5_copyFrom 2 = .ok (.iload_n 2, 1) := by decide +kernel
theorem dX5_copyFrom_3 : decode cX5_copyFrom 3 = .ok (.aload_n 0, 1) := by decide +kernel
theorem dX5_copyFrom_4 : decode cX5_copyFrom 4 = .ok (.getfield 13, 3) := by decide +kernel
theorem dX5_copyFrom_7 : decode cX5_copyFrom 7 = .ok (.arraylength, 1) := by decide +kernel
theorem dX5_copyFrom_8 : decode cX5_copyFrom 8 = .ok (.if_icmp .ge 33, 3) := by decide +kernel
theorem dX5_copyFrom_11 : decode cX5_copyFrom 11 = .ok (.iload_n 2, 1) := by decide +kernel
theorem dX5_copyFrom_12 : decode cX5_copyFrom 12 = .ok (.aload_n 1, 1) := by decide +kernel
theorem dX5_copyFrom_13 : decode cX5_copyFrom 13 = .ok (.getfield 13, 3) := by decide +kernel
theorem dX5_copyFrom_16 : decode cX5_copyFrom 16 = .ok (.arraylength, 1) := by decide +kernel
theorem dX5_copyFrom_17 : decode cX5_copyFrom 17 = .ok (.if_icmp .ge 24, 3) := by decide +kernel
theorem dX5_copyFrom_20 : decode cX5_copyFrom 20 = .ok (.aload_n 0, 1) := by decide +kernel
theorem dX5_copyFrom_21 : decode cX5_copyFrom 21 = .ok (.getfield 13, 3) := by decide +kernel
theorem dX5_copyFrom_24 : decode cX5_copyFrom 24 = .ok (.iload_n 2, 1) := by decide +kernel
theorem dX5_copyFrom_25 : decode cX5_copyFrom 25 = .ok (.aaload, 1) := by decide +kernel
theorem dX5_copyFrom_26 : decode cX5_copyFrom 26 = .ok (.aload_n 1, 1) := by decide +kernel
theorem dX5_copyFrom_27 : decode cX5_copyFrom 27 = .ok (.getfield 13, 3) := by decide +kernel
theorem dX5_copyFrom_30 : decode cX5_copyFrom 30 = .ok (.iload_n 2, 1) := by decide +kernel
theorem dX5_copyFrom_31 : decode cX5_copyFrom 31 = .ok (.aaload, 1) := by decide +kernel
theorem dX5_copyFrom_32 : decode cX5_copyFrom 32 = .ok (.invokevirtual 94, 3) := by decide +kernel
theorem dX5_copyFrom_35 : decode cX5_copyFrom 35 = .ok (.iinc 2 1, 3) := by decide +kernel
theorem dX5_copyFrom_38 : decode cX5_copyFrom 38 = .ok (.goto (-36), 3) := by decide +kernel
theorem dX5_copyFrom_41 : decode cX5_copyFrom 41 = .ok (.iconst 0, 1) := by decide +kernel
theorem dX5_copyFrom_42 : decode cX5_copyFrom 42 = .ok (.istore_n 2, 1) := by decide +kernel
theorem dX5_copyFrom_43 : decode cX5_copyFrom 43 = .ok (.iload_n 2, 1) := by decide +kernel
theorem dX5_copyFrom_44 : decode cX5_copyFrom 44 = .ok (.aload_n 0, 1) := by decide +kernel
theorem dX5_copyFrom_45 : decode cX5_copyFrom 45 = .ok (.getfield 19, 3) := by decide +kernel
theorem dX5_copyFrom_48 : decode cX5_copyFrom 48 = .ok (.arraylength, 1) := by decide +kernel
theorem dX5_copyFrom_49 : decode cX5_copyFrom 49 = .ok (.if_icmp .ge 33, 3) := by decide +kernel
theorem dX5_copyFrom_52 : decode cX5_copyFrom 52 = .ok (.iload_n 2, 1) := by decide +kernel
theorem dX5_copyFrom_53 : decode cX5_copyFrom 53 = .ok (.aload_n 1, 1) := by decide +kernel
theorem dX5_copyFrom_54 : decode cX5_copyFrom 54 = .ok (.getfield 19, 3) := by decide +kernel
theorem dX5_copyFrom_57 : decode cX5_copyFrom 57 = .ok (.arraylength, 1) := by decide +kernel
theorem dX5_copyFrom_58 : decode cX5_copyFrom 58 = .ok (.if_icmp .ge 24, 3) := by decide +kernel
theorem dX5_copyFrom_61 : decode cX5_copyFrom 61 = .ok (.aload_n 0, 1) := by decide +kernel
theorem dX5_copyFrom_62 : decode cX5_copyFrom 62 = .ok (.getfield 19, 3) := by decide +kernel
theorem dX5_copyFrom_65 : decode cX5_copyFrom 65 = .ok (.iload_n 2, 1) := by decide +kernel
theorem dX5_copyFrom_66 : decode cX5_copyFrom 66 = .ok (.aaload, 1) := by decide +kernel
theorem dX5_copyFrom_67 : decode cX5_copyFrom 67 = .ok (.aload_n 1, 1) := by decide +kernel
theorem dX5_copyFrom_68 : decode cX5_copyFrom 68 = .ok (.getfield 19, 3) := by decide +kernel
theorem dX5_copyFrom_71 : decode cX5_copyFrom 71 = .ok (.iload_n 2, 1) := by decide +kernel
theorem dX5_copyFrom_72 : decode cX5_copyFrom 72 = .ok (.aaload, 1) := by decide +kernel
theorem dX5_copyFrom_73 : decode cX5_copyFrom 73 = .ok (.invokevirtual 98, 3) := by decide +kernel
theorem dX5_copyFrom_76 : decode cX5_copyFrom 76 = .ok (.iinc 2 1, 3) := by decide +kernel
theorem dX5_copyFrom_79 : decode cX5_copyFrom 79 = .ok (.goto (-36), 3) := by decide +kernel
theorem dX5_copyFrom_82 : decode cX5_copyFrom 82 = .ok (.aload_n 0, 1) := by decide +kernel
theorem dX5_copyFrom_83 : decode cX5_copyFrom 83 = .ok (.getfield 26, 3) := by decide +kernel
theorem dX5_copyFrom_86 : decode cX5_copyFrom 86 = .ok (.aload_n 1, 1) := by decide +kernel
theorem dX5_copyFrom_87 : decode cX5_copyFrom 87 = .ok (.getfield 26, 3) := by decide +kernel
theorem dX5_copyFrom_90 : decode cX5_copyFrom 90 = .ok (.invokevirtual 101, 3) := by decide +kernel
theorem dX5_copyFrom_93 : decode cX5_copyFrom 93 = .ok (.aload_n 0, 1) := by decide +kernel
theorem dX5_copyFrom_94 : decode cX5_copyFrom 94 = .ok (.getfield 33, 3) := by decide +kernel
theorem dX5_copyFrom_97 : decode cX5_copyFrom 97 = .ok (.aload_n 1, 1) := by decide +kernel
theorem dX5_copyFrom_98 : decode cX5_copyFrom 98 = .ok (.getfield 33, 3) := by decide +kernel
theorem dX5_copyFrom_101 : decode cX5_copyFrom 101 = .ok (.invokevirtual 104, 3) := by decide +kernel
theorem dX5_copyFrom_104 : decode cX5_copyFrom 104 = .ok (.aload_n 0, 1) := by decide +kernel
theorem dX5_copyFrom_105 : decode cX5_copyFrom 105 = .ok (.getfield 40, 3) := by decide +kernel
theorem dX5_copyFrom_108 : decode cX5_copyFrom 108 = .ok (.aload_n 1, 1) := by decide +kernel
theorem dX5_copyFrom_109 : decode cX5_copyFrom 109 = .ok (.getfield 40, 3) := by decide +kernel
theorem dX5_copyFrom_112 : decode cX5_copyFrom 112 = .ok (.invokevirtual 107, 3) := by decide +kernel
theorem dX5_copyFrom_115 : decode cX5_copyFrom 115 = .ok (.aload_n 0, 1) := by decide +kernel
theorem dX5_copyFrom_116 : decode cX5_copyFrom 116 = .ok (.aload_n 1, 1) := by decide +kernel
theorem dX5_copyFrom_117 : decode cX5_copyFrom 117 = .ok (.getfield 46, 3) := by decide +kernel
theorem dX5_copyFrom_120 : decode cX5_copyFrom 120 = .ok (.putfield 46, 3) := by decide +kernel
theorem dX5_copyFrom_123 : decode cX5_copyFrom 123 = .ok (.aload_n 0, 1) := by decide +kernel
theorem dX5_copyFrom_124 : decode cX5_copyFrom 124 = .ok (.aload_n 1, 1) := by decide +kernel
theorem dX5_copyFrom_125 : decode cX5_copyFrom 125 = .ok (.getfield 50, 3) := by decide +kernel
theorem dX5_copyFrom_128 : decode cX5_copyFrom 128 = .ok (.putfield 50, 3) := by decide +kernel
theorem dX5_copyFrom_131 : decode cX5_copyFrom 131 = .ok (.aload_n 0, 1) := by decide +kernel
theorem dX5_copyFrom_132 : decode cX5_copyFrom 132 = .ok (.aload_n 1, 1) := by decide +kernel
theorem dX5_copyFrom_133 : decode cX5_copyFrom 133 = .ok (.getfield 67, 3) := by decide +kernel
theorem dX5_copyFrom_136 : decode cX5_copyFrom 136 = .ok (.putfield 67, 3) := by decide +kernel
theorem dX5_copyFrom_139 : decode cX5_copyFrom 139 = .ok (.aload_n 0, 1) := by decide +kernel
theorem dX5_copyFrom_140 : decode cX5_copyFrom 140 = .ok (.aload_n 1, 1) := by decide +kernel
theorem dX5_copyFrom_141 : decode cX5_copyFrom 141 = .ok (.getfield 70, 3) := by decide +kernel
theorem dX5_copyFrom_144 : decode cX5_copyFrom 144 = .ok (.putfield 70, 3) := by decide +kernel
theorem dX5_copyFrom_147 : decode cX5_copyFrom 147 = .ok (.aload_n 0, 1) := by decide +kernel
theorem dX5_copyFrom_148 : decode cX5_copyFrom 148 = .ok (.aload_n 1, 1) := by decide +kernel
theorem dX5_copyFrom_149 : decode cX5_copyFrom 149 = .ok (.getfield 73, 3) := by decide +kernel
theorem dX5_copyFrom_152 : decode cX5_copyFrom 152 = .ok (.putfield 73, 3) := by decide +kernel
theorem dX5_copyFrom_155 : decode cX5_copyFrom 155 = .ok (.aload_n 0, 1) := by decide +kernel
theorem dX5_copyFrom_156 : decode cX5_copyFrom 156 = .ok (.aload_n 1, 1) := by decide +kernel
theorem dX5_copyFrom_157 : decode cX5_copyFrom 157 = .ok (.getfield 76, 3) := by decide +kernel
theorem dX5_copyFrom_160 : decode cX5_copyFrom 160 = .ok (.putfield 76, 3) := by decide +kernel
theorem dX5_copyFrom_163 : decode cX5_copyFrom 163 = .ok (.aload_n 0, 1) := by decide +kernel
theorem dX5_copyFrom_164 : decode cX5_copyFrom 164 = .ok (.aload_n 1, 1) := by decide +kernel
theorem dX5_copyFrom_165 : decode cX5_copyFrom 165 = .ok (.getfield 79, 3) := by decide +kernel
theorem dX5_copyFrom_168 : decode cX5_copyFrom 168 = .ok (.putfield 79, 3) := by decide +kernel
theorem dX5_copyFrom_171 : decode cX5_copyFrom 171 = .ok (.return_, 1) := by decide +kernel
theorem dX5_zoneNumbered_0 : decode cX5_zoneNumbered 0 = .ok (.iload_n 1, 1) := by decide +kernel
theorem dX5_zoneNumbered_1 : decode cX5_zoneNumbered 1 = .ok (.ifCond .lt 29, 3) := by decide +kernel
theorem dX5_zoneNumbered_4 : decode cX5_zoneNumbered 4 = .ok (.iload_n 1, 1) := by decide +kernel
theorem dX5_zoneNumbered_5 : decode cX5_zoneNumbered 5 = .ok (.aload_n 0, 1) := by decide +kernel
theorem dX5_zoneNumbered_6 : decode cX5_zoneNumbered 6 = .ok (.getfield 46, 3) := by decide +kernel
theorem dX5_zoneNumbered_9 : decode cX5_zoneNumbered 9 = .ok (.if_icmp .ge 21, 3) := by decide +kernel
theorem dX5_zoneNumbered_12 : decode cX5_zoneNumbered 12 = .ok (.iload_n 1, 1) := by decide +kernel
theorem dX5_zoneNumbered_13 : decode cX5_zoneNumbered 13 = .ok (.aload_n 0, 1) := by decide +kernel
theorem dX5_zoneNumbered_14 : decode cX5_zoneNumbered 14 = .ok (.getfield 13, 3) := by decide +kernel
theorem dX5_zoneNumbered_17 : decode cX5_zoneNumbered 17 = .ok (.arraylength, 1) := by decide +kernel
theorem dX5_zoneNumbered_18 : decode cX5_zoneNumbered 18 = .ok (.if_icmp .ge 12, 3) := by decide +kernel
theorem dX5_zoneNumbered_21 : decode cX5_zoneNumbered 21 = .ok (.aload_n 0, 1) := by decide +kernel
theorem dX5_zoneNumbered_22 : decode cX5_zoneNumbered 22 = .ok (.getfield 13, 3) := by decide +kernel
theorem dX5_zoneNumbered_25 : decode cX5_zoneNumbered 25 = .ok (.iload_n 1, 1) := by decide +kernel
theorem dX5_zoneNumbered_26 : decode cX5_zoneNumbered 26 = .ok (.aaload, 1) := by decide +kernel
theorem dX5_zoneNumbered_27 : decode cX5_zoneNumbered 27 = .ok (.goto 4, 3) := by decide +kernel
theorem dX5_zoneNumbered_30 : decode cX5_zoneNumbered 30 = .ok (.aconst_null, 1) := by decide +kernel
theorem dX5_zoneNumbered_31 : decode cX5_zoneNumbered 31 = .ok (.areturn, 1) := by decide +kernel
theorem dX5_shipNumbered_0 : decode cX5_shipNumbered 0 = .ok (.iload_n 1, 1) := by decide +kernel
theorem dX5_shipNumbered_1 : decode cX5_shipNumbered 1 = .ok (.ifCond .lt 29, 3) := by decide +kernel
theorem dX5_shipNumbered_4 : decode cX5_shipNumbered 4 = .ok (.iload_n 1, 1) := by decide +kernel
theorem dX5_shipNumbered_5 : decode cX5_shipNumbered 5 = .ok (.aload_n 0, 1) := by decide +kernel
theorem dX5_shipNumbered_6 : decode cX5_shipNumbered 6 = .ok (.getfield 50, 3) := by decide +kernel
theorem dX5_shipNumbered_9 : decode cX5_shipNumbered 9 = .ok (.if_icmp .ge 21, 3) := by decide +kernel
theorem dX5_shipNumbered_12 : decode cX5_shipNumbered 12 = .ok (.iload_n 1, 1) := by decide +kernel
theorem dX5_shipNumbered_13 : decode cX5_shipNumbered 13 = .ok (.aload_n 0, 1) := by decide +kernel
theorem dX5_shipNumbered_14 : decode cX5_shipNumbered 14 = .ok (.getfield 19, 3) := by decide +kernel
theorem dX5_shipNumbered_17 : decode cX5_shipNumbered 17 = .ok (.arraylength, 1) := by decide +kernel
theorem dX5_shipNumbered_18 : decode cX5_shipNumbered 18 = .ok (.if_icmp .ge 12, 3) := by decide +kernel
theorem dX5_shipNumbered_21 : decode cX5_shipNumbered 21 = .ok (.aload_n 0, 1) := by decide +kernel
theorem dX5_shipNumbered_22 : decode cX5_shipNumbered 22 = .ok (.getfield 19, 3) := by decide +kernel
theorem dX5_shipNumbered_25 : decode cX5_shipNumbered 25 = .ok (.iload_n 1, 1) := by decide +kernel
theorem dX5_shipNumbered_26 : decode cX5_shipNumbered 26 = .ok (.aaload, 1) := by decide +kernel
theorem dX5_shipNumbered_27 : decode cX5_shipNumbered 27 = .ok (.goto 4, 3) := by decide +kernel
theorem dX5_shipNumbered_30 : decode cX5_shipNumbered 30 = .ok (.aconst_null, 1) := by decide +kernel
theorem dX5_shipNumbered_31 : decode cX5_shipNumbered 31 = .ok (.areturn, 1) := by decide +kernel
theorem dX5_isFinished_0 : decode cX5_isFinished 0 = .ok (.aload_n 0, 1) := by decide +kernel
theorem dX5_isFinished_1 : decode cX5_isFinished 1 = .ok (.getfield 73, 3) := by decide +kernel
theorem dX5_isFinished_4 : decode cX5_isFinished 4 = .ok (.aload_n 0, 1) := by decide +kernel
theorem dX5_isFinished_5 : decode cX5_isFinished 5 = .ok (.getfield 46, 3) := by decide +kernel
theorem dX5_isFinished_8 : decode cX5_isFinished 8 = .ok (.if_icmp .lt 7, 3) := by decide +kernel
theorem dX5_isFinished_11 : decode cX5_isFinished 11 = .ok (.iconst 1, 1) := by decide +kernel
theorem dX5_isFinished_12 : decode cX5_isFinished 12 = .ok (.goto 4, 3) := by decide +kernel
theorem dX5_isFinished_15 : decode cX5_isFinished 15 = .ok (.iconst 0, 1) := by decide +kernel
theorem dX5_isFinished_16 : decode cX5_isFinished 16 = .ok (.ireturn, 1) := by decide +kernel
theorem dX5_numberAtFront_0 : decode cX5_numberAtFront 0 = .ok (.iconst 0, 1) := by decide +kernel
theorem dX5_numberAtFront_1 : decode cX5_numberAtFront 1 = .ok (.istore_n 1, 1) := by decide +kernel
theorem dX5_numberAtFront_2 : decode cX5_numberAtFront 2 = .ok (.iload_n 1, 1) := by decide +kernel
theorem dX5_numberAtFront_3 : decode cX5_numberAtFront 3 = .ok (.aload_n 0, 1) := by decide +kernel
theorem dX5_numberAtFront_4 : decode cX5_numberAtFront 4 = .ok (.getfield 19, 3) := by decide +kernel
theorem dX5_numberAtFront_7 : decode cX5_numberAtFront 7 = .ok (.arraylength, 1) := by decide +kernel
theorem dX5_numberAtFront_8 : decode cX5_numberAtFront 8 = .ok (.if_icmp .ge 24, 3) := by decide +kernel
theorem dX5_numberAtFront_11 : decode cX5_numberAtFront 11 = .ok (.aload_n 0, 1) := by decide +kernel
theorem dX5_numberAtFront_12 : decode cX5_numberAtFront 12 = .ok (.getfield 19, 3) := by decide +kernel
theorem dX5_numberAtFront_15 : decode cX5_numberAtFront 15 = .ok (.iload_n 1, 1) := by decide +kernel
theorem dX5_numberAtFront_16 : decode cX5_numberAtFront 16 = .ok (.aaload, 1) := by decide +kernel
theorem dX5_numberAtFront_17 : decode cX5_numberAtFront 17 = .ok (.getfield 110, 3) := by decide +kernel
theorem dX5_numberAtFront_20 : decode cX5_numberAtFront 20 = .ok (.iconst 3, 1) := by decide +kernel
theorem dX5_numberAtFront_21 : decode cX5_numberAtFront 21 = .ok (.if_icmp .ne 5, 3) := by decide +kernel
theorem dX5_numberAtFront_24 : decode cX5_numberAtFront 24 = .ok (.iload_n 1, 1) := by decide +kernel
theorem dX5_numberAtFront_25 : decode cX5_numberAtFront 25 = .ok (.ireturn, 1) := by decide +kernel
theorem dX5_numberAtFront_26 : decode cX5_numberAtFront 26 = .ok (.iinc 1 1, 3) := by decide +kernel
theorem dX5_numberAtFront_29 : decode cX5_numberAtFront 29 = .ok (.goto (-27), 3) := by decide +kernel
theorem dX5_numberAtFront_32 : decode cX5_numberAtFront 32 = .ok (.bipush (-9), 2) := by decide +kernel
theorem dX5_numberAtFront_34 : decode cX5_numberAtFront 34 = .ok (.ireturn, 1) := by decide +kernel
theorem dX5_leftIn_0 : decode cX5_leftIn 0 = .ok (.iload_n 2, 1) := by decide +kernel
theorem dX5_leftIn_1 : decode cX5_leftIn 1 = .ok (.aload_n 0, 1) := by decide +kernel
theorem dX5_leftIn_2 : decode cX5_leftIn 2 = .ok (.getfield 73, 3) := by decide +kernel
theorem dX5_leftIn_5 : decode cX5_leftIn 5 = .ok (.if_icmp .ge 5, 3) := by decide +kernel
theorem dX5_leftIn_8 : decode cX5_leftIn 8 = .ok (.iconst 0, 1) := by decide +kernel
theorem dX5_leftIn_9 : decode cX5_leftIn 9 = .ok (.ireturn, 1) := by decide +kernel
theorem dX5_leftIn_10 : decode cX5_leftIn 10 = .ok (.iload_n 2, 1) := by decide +kernel
theorem dX5_leftIn_11 : decode cX5_leftIn 11 = .ok (.aload_n 0, 1) := by decide +kernel
theorem dX5_leftIn_12 : decode cX5_leftIn 12 = .ok (.getfield 73, 3) := by decide +kernel
theorem dX5_leftIn_15 : decode cX5_leftIn 15 = .ok (.if_icmp .ne 15, 3) := by decide +kernel
theorem dX5_leftIn_18 : decode cX5_leftIn 18 = .ok (.aload_n 1, 1) := by decide +kernel
theorem dX5_leftIn_19 : decode cX5_leftIn 19 = .ok (.getfield 82, 3) := by decide +kernel
theorem dX5_leftIn_22 : decode cX5_leftIn 22 = .ok (.aload_n 0, 1) := by decide +kernel
theorem dX5_leftIn_23 : decode cX5_leftIn 23 = .ok (.getfield 76, 3) := by decide +kernel
theorem dX5_leftIn_26 : decode cX5_leftIn 26 = .ok (.isub, 1) := by decide +kernel
theorem dX5_leftIn_27 : decode cX5_leftIn 27 = .ok (.goto 7, 3) := by decide +kernel
theorem dX5_leftIn_30 : decode cX5_leftIn 30 = .ok (.aload_n 1, 1) := by decide +kernel
theorem dX5_leftIn_31 : decode cX5_leftIn 31 = .ok (.getfield 82, 3) := by decide +kernel
theorem dX5_leftIn_34 : decode cX5_leftIn 34 = .ok (.ireturn, 1) := by decide +kernel
theorem dX5_aboardOfAll_0 : decode cX5_aboardOfAll 0 = .ok (.iconst 0, 1) := by decide +kernel
theorem dX5_aboardOfAll_1 : decode cX5_aboardOfAll 1 = .ok (.istore_n 1, 1) := by decide +kernel
theorem dX5_aboardOfAll_2 : decode cX5_aboardOfAll 2 = .ok (.aload_n 0, 1) := by decide +kernel
theorem dX5_aboardOfAll_3 : decode cX5_aboardOfAll 3 = .ok (.getfield 19, 3) := by decide +kernel
theorem dX5_aboardOfAll_6 : decode cX5_aboardOfAll 6 = .ok (.astore_n 2, 1) := by decide +kernel
theorem dX5_aboardOfAll_7 : decode cX5_aboardOfAll 7 = .ok (.aload_n 2, 1) := by decide +kernel
theorem dX5_aboardOfAll_8 : decode cX5_aboardOfAll 8 = .ok (.arraylength, 1) := by decide +kernel
theorem dX5_aboardOfAll_9 : decode cX5_aboardOfAll 9 = .ok (.istore_n 3, 1) := by decide +kernel
theorem dX5_aboardOfAll_10 : decode cX5_aboardOfAll 10 = .ok (.iconst 0, 1) := by decide +kernel
theorem dX5_aboardOfAll_11 : decode cX5_aboardOfAll 11 = .ok (.istore 4, 2) := by decide +kernel
theorem dX5_aboardOfAll_13 : decode cX5_aboardOfAll 13 = .ok (.iload 4, 2) := by decide +kernel
theorem dX5_aboardOfAll_15 : decode cX5_aboardOfAll 15 = .ok (.iload_n 3, 1) := by decide +kernel
theorem dX5_aboardOfAll_16 : decode cX5_aboardOfAll 16 = .ok (.if_icmp .ge 23, 3) := by decide +kernel
theorem dX5_aboardOfAll_19 : decode cX5_aboardOfAll 19 = .ok (.aload_n 2, 1) := by decide +kernel
theorem dX5_aboardOfAll_20 : decode cX5_aboardOfAll 20 = .ok (.iload 4, 2) := by decide +kernel
theorem dX5_aboardOfAll_22 : decode cX5_aboardOfAll 22 = .ok (.aaload, 1) := by decide +kernel
theorem dX5_aboardOfAll_23 : decode cX5_aboardOfAll 23 = .ok (.astore 5, 2) := by decide +kernel
theorem dX5_aboardOfAll_25 : decode cX5_aboardOfAll 25 = .ok (.iload_n 1, 1) := by decide +kernel
theorem dX5_aboardOfAll_26 : decode cX5_aboardOfAll 26 = .ok (.aload 5, 2) := by decide +kernel
theorem dX5_aboardOfAll_28 : decode cX5_aboardOfAll 28 = .ok (.getfield 113, 3) := by decide +kernel
theorem dX5_aboardOfAll_31 : decode cX5_aboardOfAll 31 = .ok (.iadd, 1) := by decide +kernel
theorem dX5_aboardOfAll_32 : decode cX5_aboardOfAll 32 = .ok (.istore_n 1, 1) := by decide +kernel
theorem dX5_aboardOfAll_33 : decode cX5_aboardOfAll 33 = .ok (.iinc 4 1, 3) := by decide +kernel
theorem dX5_aboardOfAll_36 : decode cX5_aboardOfAll 36 = .ok (.goto (-23), 3) := by decide +kernel
theorem dX5_aboardOfAll_39 : decode cX5_aboardOfAll 39 = .ok (.iload_n 1, 1) := by decide +kernel
theorem dX5_aboardOfAll_40 : decode cX5_aboardOfAll 40 = .ok (.ireturn, 1) := by decide +kernel
theorem dX5_canLoadOnto_0 : decode cX5_canLoadOnto 0 = .ok (.iload_n 2, 1) := by decide +kernel
theorem dX5_canLoadOnto_1 : decode cX5_canLoadOnto 1 = .ok (.iconst 1, 1) := by decide +kernel
theorem dX5_canLoadOnto_2 : decode cX5_canLoadOnto 2 = .ok (.if_icmp .lt 35, 3) := by decide +kernel
theorem dX5_canLoadOnto_5 : decode cX5_canLoadOnto 5 = .ok (.aload_n 1, 1) := by decide +kernel
theorem dX5_canLoadOnto_6 : decode cX5_canLoadOnto 6 = .ok (.getfield 110, 3) := by decide +kernel
theorem dX5_canLoadOnto_9 : decode cX5_canLoadOnto 9 = .ok (.ifCond .ne 28, 3) := by decide +kernel
theorem dX5_canLoadOnto_12 : decode cX5_canLoadOnto 12 = .ok (.iload_n 2, 1) := by decide +kernel
theorem dX5_canLoadOnto_13 : decode cX5_canLoadOnto 13 = .ok (.aload_n 0, 1) := by decide +kernel
theorem dX5_canLoadOnto_14 : decode cX5_canLoadOnto 14 = .ok (.getfield 67, 3) := by decide +kernel
theorem dX5_canLoadOnto_17 : decode cX5_canLoadOnto 17 = .ok (.if_icmp .gt 20, 3) := by decide +kernel
theorem dX5_canLoadOnto_20 : decode cX5_canLoadOnto 20 = .ok (.iload_n 2, 1) := by decide +kernel
theorem dX5_canLoadOnto_21 : decode cX5_canLoadOnto 21 = .ok (.aload_n 1, 1) := by decide +kernel
theorem dX5_canLoadOnto_22 : decode cX5_canLoadOnto 22 = .ok (.getfield 116, 3) := by decide +kernel
theorem dX5_canLoadOnto_25 : decode cX5_canLoadOnto 25 = .ok (.aload_n 1, 1) := by decide +kernel
theorem dX5_canLoadOnto_26 : decode cX5_canLoadOnto 26 = .ok (.getfield 113, 3) := by decide +kernel
theorem dX5_canLoadOnto_29 : decode cX5_canLoadOnto 29 = .ok (.isub, 1) := by decide +kernel
theorem dX5_canLoadOnto_30 : decode cX5_canLoadOnto 30 = .ok (.if_icmp .gt 7, 3) := by decide +kernel
theorem dX5_canLoadOnto_33 : decode cX5_canLoadOnto 33 = .ok (.iconst 1, 1) := by decide +kernel
theorem dX5_canLoadOnto_34 : decode cX5_canLoadOnto 34 = .ok (.goto 4, 3) := by decide +kernel
theorem dX5_canLoadOnto_37 : decode cX5_canLoadOnto 37 = .ok (.iconst 0, 1) := by decide +kernel
theorem dX5_canLoadOnto_38 : decode cX5_canLoadOnto 38 = .ok (.ireturn, 1) := by decide +kernel
theorem dX5_loadOnto_0 : decode cX5_loadOnto 0 = .ok (.aload_n 0, 1) := by decide +kernel
theorem dX5_loadOnto_1 : decode cX5_loadOnto 1 = .ok (.dup, 1) := by decide +kernel
theorem dX5_loadOnto_2 : decode cX5_loadOnto 2 = .ok (.getfield 67, 3) := by decide +kernel
theorem dX5_loadOnto_5 : decode cX5_loadOnto 5 = .ok (.iload_n 2, 1) := by decide +kernel
theorem dX5_loadOnto_6 : decode cX5_loadOnto 6 = .ok (.isub, 1) := by decide +kernel
theorem dX5_loadOnto_7 : decode cX5_loadOnto 7 = .ok (.putfield 67, 3) := by decide +kernel
theorem dX5_loadOnto_10 : decode cX5_loadOnto 10 = .ok (.aload_n 1, 1) := by decide +kernel
theorem dX5_loadOnto_11 : decode cX5_loadOnto 11 = .ok (.dup, 1) := by decide +kernel
theorem dX5_loadOnto_12 : decode cX5_loadOnto 12 = .ok (.getfield 113, 3) := by decide +kernel
theorem dX5_loadOnto_15 : decode cX5_loadOnto 15 = .ok (.iload_n 2, 1) := by decide +kernel
theorem dX5_loadOnto_16 : decode cX5_loadOnto 16 = .ok (.iadd, 1) := by decide +kernel
theorem dX5_loadOnto_17 : decode cX5_loadOnto 17 = .ok (.putfield 113, 3) := by decide +kernel
theorem dX5_loadOnto_20 : decode cX5_loadOnto 20 = .ok (.return_, 1) := by decide +kernel
theorem dX5_canSendOut_0 : decode cX5_canSendOut 0 = .ok (.aload_n 1, 1) := by decide +kernel
theorem dX5_canSendOut_1 : decode cX5_canSendOut 1 = .ok (.getfield 110, 3) := by decide +kernel
theorem dX5_canSendOut_4 : decode cX5_canSendOut 4 = .ok (.ifCond .ne 14, 3) := by decide +kernel
theorem dX5_canSendOut_7 : decode cX5_canSendOut 7 = .ok (.aload_n 0, 1) := by decide +kernel
theorem dX5_canSendOut_8 : decode cX5_canSendOut 8 = .ok (.invokevirtual 119, 3) := by decide +kernel
theorem dX5_canSendOut_11 : decode cX5_canSendOut 11 = .ok (.ifCond .ne 7, 3) := by decide +kernel
theorem dX5_canSendOut_14 : decode cX5_canSendOut 14 = .ok (.iconst 1, 1) := by decide +kernel
theorem dX5_canSendOut_15 : decode cX5_canSendOut 15 = .ok (.goto 4, 3) := by decide +kernel
theorem dX5_canSendOut_18 : decode cX5_canSendOut 18 = .ok (.iconst 0, 1) := by decide +kernel
theorem dX5_canSendOut_19 : decode cX5_canSendOut 19 = .ok (.ireturn, 1) := by decide +kernel
theorem dX5_sendOut_0 : decode cX5_sendOut 0 = .ok (.aload_n 1, 1) := by decide +kernel
theorem dX5_sendOut_1 : decode cX5_sendOut 1 = .ok (.iconst 1, 1) := by decide +kernel
theorem dX5_sendOut_2 : decode cX5_sendOut 2 = .ok (.aload_n 0, 1) := by decide +kernel
theorem dX5_sendOut_3 : decode cX5_sendOut 3 = .ok (.getfield 73, 3) := by decide +kernel
theorem dX5_sendOut_6 : decode cX5_sendOut 6 = .ok (.iconst 1, 1) := by decide +kernel
theorem dX5_sendOut_7 : decode cX5_sendOut 7 = .ok (.iadd, 1) := by decide +kernel
theorem dX5_sendOut_8 : decode cX5_sendOut 8 = .ok (.invokevirtual 123, 3) := by decide +kernel
theorem dX5_sendOut_11 : decode cX5_sendOut 11 = .ok (.return_, 1) := by decide +kernel
theorem dX5_canCallHome_0 : decode cX5_canCallHome 0 = .ok (.aload_n 1, 1) := by decide +kernel
theorem dX5_canCallHome_1 : decode cX5_canCallHome 1 = .ok (.getfield 110, 3) := by decide +kernel
theorem dX5_canCallHome_4 : decode cX5_canCallHome 4 = .ok (.iconst 2, 1) := by decide +kernel
theorem dX5_canCallHome_5 : decode cX5_canCallHome 5 = .ok (.if_icmp .eq 11, 3) := by decide +kernel
theorem dX5_canCallHome_8 : decode cX5_canCallHome 8 = .ok (.aload_n 1, 1) := by decide +kernel
theorem dX5_canCallHome_9 : decode cX5_canCallHome 9 = .ok (.getfield 110, 3) := by decide +kernel
theorem dX5_canCallHome_12 : decode cX5_canCallHome 12 = .ok (.iconst 3, 1) := by decide +kernel
theorem dX5_canCallHome_13 : decode cX5_canCallHome 13 = .ok (.if_icmp .ne 7, 3) := by decide +kernel
theorem dX5_canCallHome_16 : decode cX5_canCallHome 16 = .ok (.iconst 1, 1) := by decide +kernel
theorem dX5_canCallHome_17 : decode cX5_canCallHome 17 = .ok (.goto 4, 3) := by decide +kernel
theorem dX5_canCallHome_20 : decode cX5_canCallHome 20 = .ok (.iconst 0, 1) := by decide +kernel
theorem dX5_canCallHome_21 : decode cX5_canCallHome 21 = .ok (.ireturn, 1) := by decide +kernel
theorem dX5_callHome_0 : decode cX5_callHome 0 = .ok (.aload_n 1, 1) := by decide +kernel
theorem dX5_callHome_1 : decode cX5_callHome 1 = .ok (.getfield 110, 3) := by decide +kernel
theorem dX5_callHome_4 : decode cX5_callHome 4 = .ok (.iconst 3, 1) := by decide +kernel
theorem dX5_callHome_5 : decode cX5_callHome 5 = .ok (.if_icmp .ne 10, 3) := by decide +kernel
theorem dX5_callHome_8 : decode cX5_callHome 8 = .ok (.aload_n 0, 1) := by decide +kernel
theorem dX5_callHome_9 : decode cX5_callHome 9 = .ok (.getfield 33, 3) := by decide +kernel
theorem dX5_callHome_12 : decode cX5_callHome 12 = .ok (.invokevirtual 126, 3) := by decide +kernel
theorem dX5_callHome_15 : decode cX5_callHome 15 = .ok (.aload_n 1, 1) := by decide +kernel
theorem dX5_callHome_16 : decode cX5_callHome 16 = .ok (.iconst 4, 1) := by decide +kernel
theorem dX5_callHome_17 : decode cX5_callHome 17 = .ok (.aload_n 0, 1) := by decide +kernel
theorem dX5_callHome_18 : decode cX5_callHome 18 = .ok (.invokevirtual 119, 3) := by decide +kernel
theorem dX5_callHome_21 : decode cX5_callHome 21 = .ok (.ifCond .eq 10, 3) := by decide +kernel
theorem dX5_callHome_24 : decode cX5_callHome 24 = .ok (.aload_n 0, 1) := by decide +kernel
theorem dX5_callHome_25 : decode cX5_callHome 25 = .ok (.getfield 46, 3) := by decide +kernel
theorem dX5_callHome_28 : decode cX5_callHome 28 = .ok (.goto 9, 3) := by decide +kernel
theorem dX5_callHome_31 : decode cX5_callHome 31 = .ok (.aload_n 0, 1) := by decide +kernel
theorem dX5_callHome_32 : decode cX5_callHome 32 = .ok (.getfield 73, 3) := by decide +kernel
theorem dX5_callHome_35 : decode cX5_callHome 35 = .ok (.iconst 1, 1) := by decide +kernel
theorem dX5_callHome_36 : decode cX5_callHome 36 = .ok (.iadd, 1) := by decide +kernel
theorem dX5_callHome_37 : decode cX5_callHome 37 = .ok (.invokevirtual 123, 3) := by decide +kernel
theorem dX5_callHome_40 : decode cX5_callHome 40 = .ok (.return_, 1) := by decide +kernel
theorem dX5_canProlong_0 : decode cX5_canProlong 0 = .ok (.iload_n 2, 1) := by decide +kernel
theorem dX5_canProlong_1 : decode cX5_canProlong 1 = .ok (.iconst 1, 1) := by decide +kernel
theorem dX5_canProlong_2 : decode cX5_canProlong 2 = .ok (.if_icmp .lt 19, 3) := by decide +kernel
theorem dX5_canProlong_5 : decode cX5_canProlong 5 = .ok (.aload_n 1, 1) := by decide +kernel
theorem dX5_canProlong_6 : decode cX5_canProlong 6 = .ok (.getfield 88, 3) := by decide +kernel
theorem dX5_canProlong_9 : decode cX5_canProlong 9 = .ok (.iload_n 2, 1) := by decide +kernel
theorem dX5_canProlong_10 : decode cX5_canProlong 10 = .ok (.iadd, 1) := by decide +kernel
theorem dX5_canProlong_11 : decode cX5_canProlong 11 = .ok (.sipush 999, 3) := by decide +kernel
theorem dX5_canProlong_14 : decode cX5_canProlong 14 = .ok (.if_icmp .gt 7, 3) := by decide +kernel
theorem dX5_canProlong_17 : decode cX5_canProlong 17 = .ok (.iconst 1, 1) := by decide +kernel
theorem dX5_canProlong_18 : decode cX5_canProlong 18 = .ok (.goto 4, 3) := by decide +kernel
theorem dX5_canProlong_21 : decode cX5_canProlong 21 = .ok (.iconst 0, 1) := by decide +kernel
theorem dX5_canProlong_22 : decode cX5_canProlong 22 = .ok (.ireturn, 1) := by decide +kernel
theorem dX5_prolong_0 : decode cX5_prolong 0 = .ok (.aload_n 1, 1) := by decide +kernel
theorem dX5_prolong_1 : decode cX5_prolong 1 = .ok (.dup, 1) := by decide +kernel
theorem dX5_prolong_2 : decode cX5_prolong 2 = .ok (.getfield 88, 3) := by decide +kernel
theorem dX5_prolong_5 : decode cX5_prolong 5 = .ok (.iload_n 2, 1) := by decide +kernel
theorem dX5_prolong_6 : decode cX5_prolong 6 = .ok (.iadd, 1) := by decide +kernel
theorem dX5_prolong_7 : decode cX5_prolong 7 = .ok (.putfield 88, 3) := by decide +kernel
theorem dX5_prolong_10 : decode cX5_prolong 10 = .ok (.aload_n 0, 1) := by decide +kernel
theorem dX5_prolong_11 : decode cX5_prolong 11 = .ok (.getfield 40, 3) := by decide +kernel
theorem dX5_prolong_14 : decode cX5_prolong 14 = .ok (.dup, 1) := by decide +kernel
theorem dX5_prolong_15 : decode cX5_prolong 15 = .ok (.getfield 129, 3) := by decide +kernel
theorem dX5_prolong_18 : decode cX5_prolong 18 = .ok (.bipush 50, 2) := by decide +kernel
theorem dX5_prolong_20 : decode cX5_prolong 20 = .ok (.iload_n 2, 1) := by decide +kernel
theorem dX5_prolong_21 : decode cX5_prolong 21 = .ok (.imul, 1) := by decide +kernel
theorem dX5_prolong_22 : decode cX5_prolong 22 = .ok (.iadd, 1) := by decide +kernel
theorem dX5_prolong_23 : decode cX5_prolong 23 = .ok (.putfield 129, 3) := by decide +kernel
theorem dX5_prolong_26 : decode cX5_prolong 26 = .ok (.return_, 1) := by decide +kernel
theorem dX5_canPurchase_0 : decode cX5_canPurchase 0 = .ok (.iload_n 1, 1) := by decide +kernel
theorem dX5_canPurchase_1 : decode cX5_canPurchase 1 = .ok (.iconst 1, 1) := by decide +kernel
theorem dX5_canPurchase_2 : decode cX5_canPurchase 2 = .ok (.if_icmp .lt 19, 3) := by decide +kernel
theorem dX5_canPurchase_5 : decode cX5_canPurchase 5 = .ok (.aload_n 0, 1) := by decide +kernel
theorem dX5_canPurchase_6 : decode cX5_canPurchase 6 = .ok (.getfield 67, 3) := by decide +kernel
theorem dX5_canPurchase_9 : decode cX5_canPurchase 9 = .ok (.iload_n 1, 1) := by decide +kernel
theorem dX5_canPurchase_10 : decode cX5_canPurchase 10 = .ok (.iadd, 1) := by decide +kernel
theorem dX5_canPurchase_11 : decode cX5_canPurchase 11 = .ok (.sipush 9999, 3) := by decide +kernel
theorem dX5_canPurchase_14 : decode cX5_canPurchase 14 = .ok (.if_icmp .gt 7, 3) := by decide +kernel
theorem dX5_canPurchase_17 : decode cX5_canPurchase 17 = .ok (.iconst 1, 1) := by decide +kernel
theorem dX5_canPurchase_18 : decode cX5_canPurchase 18 = .ok (.goto 4, 3) := by decide +kernel
theorem dX5_canPurchase_21 : decode cX5_canPurchase 21 = .ok (.iconst 0, 1) := by decide +kernel
theorem dX5_canPurchase_22 : decode cX5_canPurchase 22 = .ok (.ireturn, 1) := by decide +kernel
theorem dX5_purchase_0 : decode cX5_purchase 0 = .ok (.aload_n 0, 1) := by decide +kernel
theorem dX5_purchase_1 : decode cX5_purchase 1 = .ok (.dup, 1) := by decide +kernel
theorem dX5_purchase_2 : decode cX5_purchase 2 = .ok (.getfield 67, 3) := by decide +kernel
theorem dX5_purchase_5 : decode cX5_purchase 5 = .ok (.iload_n 1, 1) := by decide +kernel
theorem dX5_purchase_6 : decode cX5_purchase 6 = .ok (.iadd, 1) := by decide +kernel
theorem dX5_purchase_7 : decode cX5_purchase 7 = .ok (.putfield 67, 3) := by decide +kernel
theorem dX5_purchase_10 : decode cX5_purchase 10 = .ok (.aload_n 0, 1) := by decide +kernel
theorem dX5_purchase_11 : decode cX5_purchase 11 = .ok (.getfield 40, 3) := by decide +kernel
theorem dX5_purchase_14 : decode cX5_purchase 14 = .ok (.dup, 1) := by decide +kernel
theorem dX5_purchase_15 : decode cX5_purchase 15 = .ok (.getfield 132, 3) := by decide +kernel
theorem dX5_purchase_18 : decode cX5_purchase 18 = .ok (.iload_n 1, 1) := by decide +kernel
theorem dX5_purchase_19 : decode cX5_purchase 19 = .ok (.iadd, 1) := by decide +kernel
theorem dX5_purchase_20 : decode cX5_purchase 20 = .ok (.putfield 132, 3) := by decide +kernel
theorem dX5_purchase_23 : decode cX5_purchase 23 = .ok (.aload_n 0, 1) := by decide +kernel
theorem dX5_purchase_24 : decode cX5_purchase 24 = .ok (.getfield 40, 3) := by decide +kernel
theorem dX5_purchase_27 : decode cX5_purchase 27 = .ok (.dup, 1) := by decide +kernel
theorem dX5_purchase_28 : decode cX5_purchase 28 = .ok (.getfield 135, 3) := by decide +kernel
theorem dX5_purchase_31 : decode cX5_purchase 31 = .ok (.iconst 3, 1) := by decide +kernel
theorem dX5_purchase_32 : decode cX5_purchase 32 = .ok (.iload_n 1, 1) := by decide +kernel
theorem dX5_purchase_33 : decode cX5_purchase 33 = .ok (.imul, 1) := by decide +kernel
theorem dX5_purchase_34 : decode cX5_purchase 34 = .ok (.iadd, 1) := by decide +kernel
theorem dX5_purchase_35 : decode cX5_purchase 35 = .ok (.putfield 135, 3) := by decide +kernel
theorem dX5_purchase_38 : decode cX5_purchase 38 = .ok (.return_, 1) := by decide +kernel
theorem dX5_fillAndSend_0 : decode cX5_fillAndSend 0 = .ok (.aload_n 0, 1) := by decide +kernel
theorem dX5_fillAndSend_1 : decode cX5_fillAndSend 1 = .ok (.iload_n 1, 1) := by decide +kernel
theorem dX5_fillAndSend_2 : decode cX5_fillAndSend 2 = .ok (.invokevirtual 138, 3) := by decide +kernel
theorem dX5_fillAndSend_5 : decode cX5_fillAndSend 5 = .ok (.astore_n 2, 1) := by decide +kernel
theorem dX5_fillAndSend_6 : decode cX5_fillAndSend 6 = .ok (.aload_n 2, 1) := by decide +kernel
theorem dX5_fillAndSend_7 : decode cX5_fillAndSend 7 = .ok (.ifnull 11, 3) := by decide +kernel
theorem dX5_fillAndSend_10 : decode cX5_fillAndSend 10 = .ok (.aload_n 0, 1) := by decide +kernel
theorem dX5_fillAndSend_11 : decode cX5_fillAndSend 11 = .ok (.aload_n 2, 1) := by decide +kernel
theorem dX5_fillAndSend_12 : decode cX5_fillAndSend 12 = .ok (.invokevirtual 142, 3) := by decide +kernel
theorem dX5_fillAndSend_15 : decode cX5_fillAndSend 15 = .ok (.ifCond .ne 5, 3) := by decide +kernel
theorem dX5_fillAndSend_18 : decode cX5_fillAndSend 18 = .ok (.iconst 0, 1) := by decide +kernel
theorem dX5_fillAndSend_19 : decode cX5_fillAndSend 19 = .ok (.ireturn, 1) := by decide +kernel
theorem dX5_fillAndSend_20 : decode cX5_fillAndSend 20 = .ok (.aload_n 0, 1) := by decide +kernel
theorem dX5_fillAndSend_21 : decode cX5_fillAndSend 21 = .ok (.aload_n 2, 1) := by decide +kernel
theorem dX5_fillAndSend_22 : decode cX5_fillAndSend 22 = .ok (.aload_n 0, 1) := by decide +kernel
theorem dX5_fillAndSend_23 : decode cX5_fillAndSend 23 = .ok (.getfield 67, 3) := by decide +kernel
theorem dX5_fillAndSend_26 : decode cX5_fillAndSend 26 = .ok (.aload_n 2, 1) := by decide +kernel
theorem dX5_fillAndSend_27 : decode cX5_fillAndSend 27 = .ok (.getfield 116, 3) := by decide +kernel
theorem dX5_fillAndSend_30 : decode cX5_fillAndSend 30 = .ok (.aload_n 2, 1) := by decide +kernel
theorem dX5_fillAndSend_31 : decode cX5_fillAndSend 31 = .ok (.getfield 113, 3) := by decide +kernel
theorem dX5_fillAndSend_34 : decode cX5_fillAndSend 34 = .ok (.isub, 1) := by decide +kernel
theorem dX5_fillAndSend_35 : decode cX5_fillAndSend 35 = .ok (.invokestatic 146, 3) := by decide +kernel
theorem dX5_fillAndSend_38 : decode cX5_fillAndSend 38 = .ok (.invokevirtual 152, 3) := by decide +kernel
theorem dX5_fillAndSend_41 : decode cX5_fillAndSend 41 = .ok (.aload_n 0, 1) := by decide +kernel
theorem dX5_fillAndSend_42 : decode cX5_fillAndSend 42 = .ok (.aload_n 2, 1) := by decide +kernel
theorem dX5_fillAndSend_43 : decode cX5_fillAndSend 43 = .ok (.invokevirtual 156, 3) := by decide +kernel
theorem dX5_fillAndSend_46 : decode cX5_fillAndSend 46 = .ok (.iconst 1, 1) := by decide +kernel
theorem dX5_fillAndSend_47 : decode cX5_fillAndSend 47 = .ok (.ireturn, 1) := by decide +kernel
theorem dX5_passDays_0 : decode cX5_passDays 0 = .ok (.iconst 0, 1) := by decide +kernel
theorem dX5_passDays_1 : decode cX5_passDays 1 = .ok (.istore_n 2, 1) := by decide +kernel
theorem dX5_passDays_2 : decode cX5_passDays 2 = .ok (.iload_n 2, 1) := by decide +kernel
theorem dX5_passDays_3 : decode cX5_passDays 3 = .ok (.iload_n 1, 1) := by decide +kernel
theorem dX5_passDays_4 : decode cX5_passDays 4 = .ok (.if_icmp .ge 13, 3) := by decide +kernel
theorem dX5_passDays_7 : decode cX5_passDays 7 = .ok (.aload_n 0, 1) := by decide +kernel
theorem dX5_passDays_8 : decode cX5_passDays 8 = .ok (.invokevirtual 159, 3) := by decide +kernel
theorem dX5_passDays_11 : decode cX5_passDays 11 = .ok (.iinc 2 1, 3) := by decide +kernel
theorem dX5_passDays_14 : decode cX5_passDays 14 = .ok (.goto (-12), 3) := by decide +kernel
theorem dX5_passDays_17 : decode cX5_passDays 17 = .ok (.return_, 1) := by decide +kernel
theorem dX5_daysUntilDone_0 : decode cX5_daysUntilDone 0 = .ok (.iconst 0, 1) := by decide +kernel
theorem dX5_daysUntilDone_1 : decode cX5_daysUntilDone 1 = .ok (.istore_n 2, 1) := by decide +kernel
theorem dX5_daysUntilDone_2 : decode cX5_daysUntilDone 2 = .ok (.iload_n 2, 1) := by decide +kernel
theorem dX5_daysUntilDone_3 : decode cX5_daysUntilDone 3 = .ok (.sipush 400, 3) := by decide +kernel
theorem dX5_daysUntilDone_6 : decode cX5_daysUntilDone 6 = .ok (.if_icmp .ge 23, 3) := by decide +kernel
theorem dX5_daysUntilDone_9 : decode cX5_daysUntilDone 9 = .ok (.aload_n 0, 1) := by decide +kernel
theorem dX5_daysUntilDone_10 : decode cX5_daysUntilDone 10 = .ok (.getfield 73, 3) := by decide +kernel
theorem dX5_daysUntilDone_13 : decode cX5_daysUntilDone 13 = .ok (.iload_n 1, 1) := by decide +kernel
theorem dX5_daysUntilDone_14 : decode cX5_daysUntilDone 14 = .ok (.if_icmp .le 5, 3) := by decide +kernel
theorem dX5_daysUntilDone_17 : decode cX5_daysUntilDone 17 = .ok (.iload_n 2, 1) := by decide +kernel
theorem dX5_daysUntilDone_18 : decode cX5_daysUntilDone 18 = .ok (.ireturn, 1) := by decide +kernel
theorem dX5_daysUntilDone_19 : decode cX5_daysUntilDone 19 = .ok (.aload_n 0, 1) := by decide +kernel
theorem dX5_daysUntilDone_20 : decode cX5_daysUntilDone 20 = .ok (.invokevirtual 159, 3) := by decide +kernel
theorem dX5_daysUntilDone_23 : decode cX5_daysUntilDone 23 = .ok (.iinc 2 1, 3) := by decide +kernel
theorem dX5_daysUntilDone_26 : decode cX5_daysUntilDone 26 = .ok (.goto (-24), 3) := by decide +kernel
theorem dX5_daysUntilDone_29 : decode cX5_daysUntilDone 29 = .ok (.aload_n 0, 1) := by decide +kernel
theorem dX5_daysUntilDone_30 : decode cX5_daysUntilDone 30 = .ok (.getfield 73, 3) := by decide +kernel
theorem dX5_daysUntilDone_33 : decode cX5_daysUntilDone 33 = .ok (.iload_n 1, 1) := by decide +kernel
theorem dX5_daysUntilDone_34 : decode cX5_daysUntilDone 34 = .ok (.if_icmp .le 9, 3) := by decide +kernel
theorem dX5_daysUntilDone_37 : decode cX5_daysUntilDone 37 = .ok (.sipush 400, 3) := by decide +kernel
theorem dX5_daysUntilDone_40 : decode cX5_daysUntilDone 40 = .ok (.goto 5, 3) := by decide +kernel
theorem dX5_daysUntilDone_43 : decode cX5_daysUntilDone 43 = .ok (.bipush (-9), 2) := by decide +kernel
theorem dX5_daysUntilDone_45 : decode cX5_daysUntilDone 45 = .ok (.ireturn, 1) := by decide +kernel
theorem dX5_playRound_0 : decode cX5_playRound 0 = .ok (.iload_n 1, 1) := by decide +kernel
theorem dX5_playRound_1 : decode cX5_playRound 1 = .ok (.ifCond .lt 20, 3) := by decide +kernel
theorem dX5_playRound_4 : decode cX5_playRound 4 = .ok (.aload_n 0, 1) := by decide +kernel
theorem dX5_playRound_5 : decode cX5_playRound 5 = .ok (.getfield 50, 3) := by decide +kernel
theorem dX5_playRound_8 : decode cX5_playRound 8 = .ok (.ifCond .le 13, 3) := by decide +kernel
theorem dX5_playRound_11 : decode cX5_playRound 11 = .ok (.aload_n 0, 1) := by decide +kernel
theorem dX5_playRound_12 : decode cX5_playRound 12 = .ok (.getfield 26, 3) := by decide +kernel
theorem dX5_playRound_15 : decode cX5_playRound 15 = .ok (.getfield 57, 3) := by decide +kernel
theorem dX5_playRound_18 : decode cX5_playRound 18 = .ok (.ifCond .gt 4, 3) := by decide +kernel
theorem dX5_playRound_21 : decode cX5_playRound 21 = .ok (.return_, 1) := by decide +kernel
theorem dX5_playRound_22 : decode cX5_playRound 22 = .ok (.iload_n 1, 1) := by decide +kernel
theorem dX5_playRound_23 : decode cX5_playRound 23 = .ok (.bipush 8, 2) := by decide +kernel
theorem dX5_playRound_25 : decode cX5_playRound 25 = .ok (.irem, 1) := by decide +kernel
theorem dX5_playRound_26 : decode cX5_playRound 26 = .ok (.istore_n 2, 1) := by decide +kernel
theorem dX5_playRound_27 : decode cX5_playRound 27 = .ok (.iload_n 2, 1) := by decide +kernel
theorem dX5_playRound_28 : decode cX5_playRound 28 = .ok (.ifCond .ne 34, 3) := by decide +kernel
theorem dX5_playRound_31 : decode cX5_playRound 31 = .ok (.aload_n 0, 1) := by decide +kernel
theorem dX5_playRound_32 : decode cX5_playRound 32 = .ok (.getfield 26, 3) := by decide +kernel
theorem dX5_playRound_35 : decode cX5_playRound 35 = .ok (.iload_n 1, 1) := by decide +kernel
theorem dX5_playRound_36 : decode cX5_playRound 36 = .ok (.bipush 64, 2) := by decide +kernel
theorem dX5_playRound_38 : decode cX5_playRound 38 = .ok (.idiv, 1) := by decide +kernel
theorem dX5_playRound_39 : decode cX5_playRound 39 = .ok (.aload_n 0, 1) := by decide +kernel
theorem dX5_playRound_40 : decode cX5_playRound 40 = .ok (.getfield 26, 3) := by decide +kernel
theorem dX5_playRound_43 : decode cX5_playRound 43 = .ok (.getfield 57, 3) := by decide +kernel
theorem dX5_playRound_46 : decode cX5_playRound 46 = .ok (.irem, 1) := by decide +kernel
theorem dX5_playRound_47 : decode cX5_playRound 47 = .ok (.iload_n 1, 1) := by decide +kernel
theorem dX5_playRound_48 : decode cX5_playRound 48 = .ok (.sipush 2048, 3) := by decide +kernel
theorem dX5_playRound_51 : decode cX5_playRound 51 = .ok (.idiv, 1) := by decide +kernel
theorem dX5_playRound_52 : decode cX5_playRound 52 = .ok (.bipush 10, 2) := by decide +kernel
theorem dX5_playRound_54 : decode cX5_playRound 54 = .ok (.irem, 1) := by decide +kernel
theorem dX5_playRound_55 : decode cX5_playRound 55 = .ok (.invokevirtual 162, 3) := by decide +kernel
theorem dX5_playRound_58 : decode cX5_playRound 58 = .ok (.pop, 1) := by decide +kernel
theorem dX5_playRound_59 : decode cX5_playRound 59 = .ok (.goto 22, 3) := by decide +kernel
theorem dX5_playRound_62 : decode cX5_playRound 62 = .ok (.iload_n 2, 1) := by decide +kernel
theorem dX5_playRound_63 : decode cX5_playRound 63 = .ok (.iconst 2, 1) := by decide +kernel
theorem dX5_playRound_64 : decode cX5_playRound 64 = .ok (.if_icmp .gt 17, 3) := by decide +kernel
theorem dX5_playRound_67 : decode cX5_playRound 67 = .ok (.aload_n 0, 1) := by decide +kernel
theorem dX5_playRound_68 : decode cX5_playRound 68 = .ok (.iload_n 1, 1) := by decide +kernel
theorem dX5_playRound_69 : decode cX5_playRound 69 = .ok (.bipush 8, 2) := by decide +kernel
theorem dX5_playRound_71 : decode cX5_playRound 71 = .ok (.idiv, 1) := by decide +kernel
theorem dX5_playRound_72 : decode cX5_playRound 72 = .ok (.aload_n 0, 1) := by decide +kernel
theorem dX5_playRound_73 : decode cX5_playRound 73 = .ok (.getfield 50, 3) := by decide +kernel
theorem dX5_playRound_76 : decode cX5_playRound 76 = .ok (.irem, 1) := by decide +kernel
theorem dX5_playRound_77 : decode cX5_playRound 77 = .ok (.invokevirtual 165, 3) := by decide +kernel
theorem dX5_playRound_80 : decode cX5_playRound 80 = .ok (.pop, 1) := by decide +kernel
theorem dX5_playRound_81 : decode cX5_playRound 81 = .ok (.aload_n 0, 1) := by decide +kernel
theorem dX5_playRound_82 : decode cX5_playRound 82 = .ok (.invokevirtual 159, 3) := by decide +kernel
theorem dX5_playRound_85 : decode cX5_playRound 85 = .ok (.return_, 1) := by decide +kernel
theorem dX5_passDay_0 : decode cX5_passDay 0 = .ok (.aload_n 0, 1) := by decide +kernel
theorem dX5_passDay_1 : decode cX5_passDay 1 = .ok (.getfield 19, 3) := by decide +kernel
theorem dX5_passDay_4 : decode cX5_passDay 4 = .ok (.astore_n 1, 1) := by decide +kernel
theorem dX5_passDay_5 : decode cX5_passDay 5 = .ok (.aload_n 1, 1) := by decide +kernel
theorem dX5_passDay_6 : decode cX5_passDay 6 = .ok (.arraylength, 1) := by decide +kernel
theorem dX5_passDay_7 : decode cX5_passDay 7 = .ok (.istore_n 2, 1) := by decide +kernel
theorem dX5_passDay_8 : decode cX5_passDay 8 = .ok (.iconst 0, 1) := by decide +kernel
theorem dX5_passDay_9 : decode cX5_passDay 9 = .ok (.istore_n 3, 1) := by decide +kernel
theorem dX5_passDay_10 : decode cX5_passDay 10 = .ok (.iload_n 3, 1) := by decide +kernel
theorem dX5_passDay_11 : decode cX5_passDay 11 = .ok (.iload_n 2, 1) := by decide +kernel
theorem dX5_passDay_12 : decode cX5_passDay 12 = .ok (.if_icmp .ge 19, 3) := by decide +kernel
theorem dX5_passDay_15 : decode cX5_passDay 15 = .ok (.aload_n 1, 1) := by decide +kernel
theorem dX5_passDay_16 : decode cX5_passDay 16 = .ok (.iload_n 3, 1) := by decide +kernel
theorem dX5_passDay_17 : decode cX5_passDay 17 = .ok (.aaload, 1) := by decide +kernel
theorem dX5_passDay_18 : decode cX5_passDay 18 = .ok (.astore 4, 2) := by decide +kernel
theorem dX5_passDay_20 : decode cX5_passDay 20 = .ok (.aload 4, 2) := by decide +kernel
theorem dX5_passDay_22 : decode cX5_passDay 22 = .ok (.invokevirtual 169, 3) := by decide +kernel
theorem dX5_passDay_25 : decode cX5_passDay 25 = .ok (.iinc 3 1, 3) := by decide +kernel
theorem dX5_passDay_28 : decode cX5_passDay 28 = .ok (.goto (-18), 3) := by decide +kernel
theorem dX5_passDay_31 : decode cX5_passDay 31 = .ok (.aload_n 0, 1) := by decide +kernel
theorem dX5_passDay_32 : decode cX5_passDay 32 = .ok (.invokevirtual 119, 3) := by decide +kernel
theorem dX5_passDay_35 : decode cX5_passDay 35 = .ok (.ifCond .eq 11, 3) := by decide +kernel
theorem dX5_passDay_38 : decode cX5_passDay 38 = .ok (.aload_n 0, 1) := by decide +kernel
theorem dX5_passDay_39 : decode cX5_passDay 39 = .ok (.iconst 0, 1) := by decide +kernel
theorem dX5_passDay_40 : decode cX5_passDay 40 = .ok (.putfield 79, 3) := by decide +kernel
theorem dX5_passDay_43 : decode cX5_passDay 43 = .ok (.goto 15, 3) := by decide +kernel
theorem dX5_passDay_46 : decode cX5_passDay 46 = .ok (.aload_n 0, 1) := by decide +kernel
theorem dX5_passDay_47 : decode cX5_passDay 47 = .ok (.invokevirtual 172, 3) := by decide +kernel
theorem dX5_passDay_50 : decode cX5_passDay 50 = .ok (.aload_n 0, 1) := by decide +kernel
theorem dX5_passDay_51 : decode cX5_passDay 51 = .ok (.aload_n 0, 1) := by decide +kernel
theorem dX5_passDay_52 : decode cX5_passDay 52 = .ok (.invokevirtual 175, 3) := by decide +kernel
theorem dX5_passDay_55 : decode cX5_passDay 55 = .ok (.putfield 79, 3) := by decide +kernel
theorem dX5_passDay_58 : decode cX5_passDay 58 = .ok (.aload_n 0, 1) := by decide +kernel
theorem dX5_passDay_59 : decode cX5_passDay 59 = .ok (.invokevirtual 179, 3) := by decide +kernel
theorem dX5_passDay_62 : decode cX5_passDay 62 = .ok (.aload_n 0, 1) := by decide +kernel
theorem dX5_passDay_63 : decode cX5_passDay 63 = .ok (.getfield 33, 3) := by decide +kernel
theorem dX5_passDay_66 : decode cX5_passDay 66 = .ok (.invokevirtual 182, 3) := by decide +kernel
theorem dX5_passDay_69 : decode cX5_passDay 69 = .ok (.aload_n 0, 1) := by decide +kernel
theorem dX5_passDay_70 : decode cX5_passDay 70 = .ok (.dup, 1) := by decide +kernel
theorem dX5_passDay_71 : decode cX5_passDay 71 = .ok (.getfield 70, 3) := by decide +kernel
theorem dX5_passDay_74 : decode cX5_passDay 74 = .ok (.iconst 1, 1) := by decide +kernel
theorem dX5_passDay_75 : decode cX5_passDay 75 = .ok (.iadd, 1) := by decide +kernel
theorem dX5_passDay_76 : decode cX5_passDay 76 = .ok (.putfield 70, 3) := by decide +kernel
theorem dX5_passDay_79 : decode cX5_passDay 79 = .ok (.return_, 1) := by decide +kernel
theorem dX5_comeToFront_0 : decode cX5_comeToFront 0 = .ok (.aload_n 0, 1) := by decide +kernel
theorem dX5_comeToFront_1 : decode cX5_comeToFront 1 = .ok (.invokevirtual 185, 3) := by decide +kernel
theorem dX5_comeToFront_4 : decode cX5_comeToFront 4 = .ok (.bipush (-9), 2) := by decide +kernel
theorem dX5_comeToFront_6 : decode cX5_comeToFront 6 = .ok (.if_icmp .eq 4, 3) := by decide +kernel
theorem dX5_comeToFront_9 : decode cX5_comeToFront 9 = .ok (.return_, 1) := by decide +kernel
theorem dX5_comeToFront_10 : decode cX5_comeToFront 10 = .ok (.aload_n 0, 1) := by decide +kernel
theorem dX5_comeToFront_11 : decode cX5_comeToFront 11 = .ok (.getfield 19, 3) := by decide +kernel
theorem dX5_comeToFront_14 : decode cX5_comeToFront 14 = .ok (.astore_n 1, 1) := by decide +kernel
theorem dX5_comeToFront_15 : decode cX5_comeToFront 15 = .ok (.aload_n 1, 1) := by decide +kernel
theorem dX5_comeToFront_16 : decode cX5_comeToFront 16 = .ok (.arraylength, 1) := by decide +kernel
theorem dX5_comeToFront_17 : decode cX5_comeToFront 17 = .ok (.istore_n 2, 1) := by decide +kernel
theorem dX5_comeToFront_18 : decode cX5_comeToFront 18 = .ok (.iconst 0, 1) := by decide +kernel
theorem dX5_comeToFront_19 : decode cX5_comeToFront 19 = .ok (.istore_n 3, 1) := by decide +kernel
theorem dX5_comeToFront_20 : decode cX5_comeToFront 20 = .ok (.iload_n 3, 1) := by decide +kernel
theorem dX5_comeToFront_21 : decode cX5_comeToFront 21 = .ok (.iload_n 2, 1) := by decide +kernel
theorem dX5_comeToFront_22 : decode cX5_comeToFront 22 = .ok (.if_icmp .ge 52, 3) := by decide +kernel
theorem dX5_comeToFront_25 : decode cX5_comeToFront 25 = .ok (.aload_n 1, 1) := by decide +kernel
theorem dX5_comeToFront_26 : decode cX5_comeToFront 26 = .ok (.iload_n 3, 1) := by decide +kernel
theorem dX5_comeToFront_27 : decode cX5_comeToFront 27 = .ok (.aaload, 1) := by decide +kernel
theorem dX5_comeToFront_28 : decode cX5_comeToFront 28 = .ok (.astore 4, 2) := by decide +kernel
theorem dX5_comeToFront_30 : decode cX5_comeToFront 30 = .ok (.aload 4, 2) := by decide +kernel
theorem dX5_comeToFront_32 : decode cX5_comeToFront 32 = .ok (.getfield 110, 3) := by decide +kernel
theorem dX5_comeToFront_35 : decode cX5_comeToFront 35 = .ok (.iconst 2, 1) := by decide +kernel
theorem dX5_comeToFront_36 : decode cX5_comeToFront 36 = .ok (.if_icmp .ne 32, 3) := by decide +kernel
theorem dX5_comeToFront_39 : decode cX5_comeToFront 39 = .ok (.aload 4, 2) := by decide +kernel
theorem dX5_comeToFront_41 : decode cX5_comeToFront 41 = .ok (.iconst 3, 1) := by decide +kernel
theorem dX5_comeToFront_42 : decode cX5_comeToFront 42 = .ok (.putfield 110, 3) := by decide +kernel
theorem dX5_comeToFront_45 : decode cX5_comeToFront 45 = .ok (.aload_n 0, 1) := by decide +kernel
theorem dX5_comeToFront_46 : decode cX5_comeToFront 46 = .ok (.getfield 33, 3) := by decide +kernel
theorem dX5_comeToFront_49 : decode cX5_comeToFront 49 = .ok (.aload_n 0, 1) := by decide +kernel
theorem dX5_comeToFront_50 : decode cX5_comeToFront 50 = .ok (.getfield 40, 3) := by decide +kernel
theorem dX5_comeToFront_53 : decode cX5_comeToFront 53 = .ok (.getfield 188, 3) := by decide +kernel
theorem dX5_comeToFront_56 : decode cX5_comeToFront 56 = .ok (.ifCond .le 7, 3) := by decide +kernel
theorem dX5_comeToFront_59 : decode cX5_comeToFront 59 = .ok (.iconst 1, 1) := by decide +kernel
theorem dX5_comeToFront_60 : decode cX5_comeToFront 60 = .ok (.goto 4, 3) := by decide +kernel
theorem dX5_comeToFront_63 : decode cX5_comeToFront 63 = .ok (.iconst 0, 1) := by decide +kernel
theorem dX5_comeToFront_64 : decode cX5_comeToFront 64 = .ok (.putfield 191, 3) := by decide +kernel
theorem dX5_comeToFront_67 : decode cX5_comeToFront 67 = .ok (.return_, 1) := by decide +kernel
theorem dX5_comeToFront_68 : decode cX5_comeToFront 68 = .ok (.iinc 3 1, 3) := by decide +kernel
theorem dX5_comeToFront_71 : decode cX5_comeToFront 71 = .ok (.goto (-51), 3) := by decide +kernel
theorem dX5_comeToFront_74 : decode cX5_comeToFront 74 = .ok (.return_, 1) := by decide +kernel
theorem dX5_workAtFront_0 : decode cX5_workAtFront 0 = .ok (.aload_n 0, 1) := by decide +kernel
theorem dX5_workAtFront_1 : decode cX5_workAtFront 1 = .ok (.aload_n 0, 1) := by decide +kernel
theorem dX5_workAtFront_2 : decode cX5_workAtFront 2 = .ok (.invokevirtual 185, 3) := by decide +kernel
theorem dX5_workAtFront_5 : decode cX5_workAtFront 5 = .ok (.invokevirtual 138, 3) := by decide +kernel
theorem dX5_workAtFront_8 : decode cX5_workAtFront 8 = .ok (.astore_n 1, 1) := by decide +kernel
theorem dX5_workAtFront_9 : decode cX5_workAtFront 9 = .ok (.aload_n 0, 1) := by decide +kernel
theorem dX5_workAtFront_10 : decode cX5_workAtFront 10 = .ok (.aload_n 0, 1) := by decide +kernel
theorem dX5_workAtFront_11 : decode cX5_workAtFront 11 = .ok (.getfield 73, 3) := by decide +kernel
theorem dX5_workAtFront_14 : decode cX5_workAtFront 14 = .ok (.invokevirtual 195, 3) := by decide +kernel
theorem dX5_workAtFront_17 : decode cX5_workAtFront 17 = .ok (.astore_n 2, 1) := by decide +kernel
theorem dX5_workAtFront_18 : decode cX5_workAtFront 18 = .ok (.aload_n 1, 1) := by decide +kernel
theorem dX5_workAtFront_19 : decode cX5_workAtFront 19 = .ok (.ifnull 7, 3) := by decide +kernel
theorem dX5_workAtFront_22 : decode cX5_workAtFront 22 = .ok (.aload_n 2, 1) := by decide +kernel
theorem dX5_workAtFront_23 : decode cX5_workAtFront 23 = .ok (.ifnonnull 6, 3) := by decide +kernel
theorem dX5_workAtFront_26 : decode cX5_workAtFront 26 = .ok (.bipush 6, 2) := by decide +kernel
theorem dX5_workAtFront_28 : decode cX5_workAtFront 28 = .ok (.ireturn, 1) := by decide +kernel
theorem dX5_workAtFront_29 : decode cX5_workAtFront 29 = .ok (.aload_n 0, 1) := by decide +kernel
theorem dX5_workAtFront_30 : decode cX5_workAtFront 30 = .ok (.getfield 33, 3) := by decide +kernel
theorem dX5_workAtFront_33 : decode cX5_workAtFront 33 = .ok (.getfield 191, 3) := by decide +kernel
theorem dX5_workAtFront_36 : decode cX5_workAtFront 36 = .ok (.ifCond .eq 26, 3) := by decide +kernel
theorem dX5_workAtFront_39 : decode cX5_workAtFront 39 = .ok (.aload_n 0, 1) := by decide +kernel
theorem dX5_workAtFront_40 : decode cX5_workAtFront 40 = .ok (.getfield 33, 3) := by decide +kernel
theorem dX5_workAtFront_43 : decode cX5_workAtFront 43 = .ok (.aload_n 0, 1) := by decide +kernel
theorem dX5_workAtFront_44 : decode cX5_workAtFront 44 = .ok (.getfield 26, 3) := by decide +kernel
theorem dX5_workAtFront_47 : decode cX5_workAtFront 47 = .ok (.aload_n 0, 1) := by decide +kernel
theorem dX5_workAtFront_48 : decode cX5_workAtFront 48 = .ok (.getfield 70, 3) := by decide +kernel
theorem dX5_workAtFront_51 : decode cX5_workAtFront 51 = .ok (.invokevirtual 199, 3) := by decide +kernel
theorem dX5_workAtFront_54 : decode cX5_workAtFront 54 = .ok (.invokevirtual 203, 3) := by decide +kernel
theorem dX5_workAtFront_57 : decode cX5_workAtFront 57 = .ok (.ifCond .ne 5, 3) := by decide +kernel
theorem dX5_workAtFront_60 : decode cX5_workAtFront 60 = .ok (.iconst 5, 1) := by decide +kernel
theorem dX5_workAtFront_61 : decode cX5_workAtFront 61 = .ok (.ireturn, 1) := by decide +kernel
theorem dX5_workAtFront_62 : decode cX5_workAtFront 62 = .ok (.aload_n 0, 1) := by decide +kernel
theorem dX5_workAtFront_63 : decode cX5_workAtFront 63 = .ok (.getfield 33, 3) := by decide +kernel
theorem dX5_workAtFront_66 : decode cX5_workAtFront 66 = .ok (.invokevirtual 206, 3) := by decide +kernel
theorem dX5_workAtFront_69 : decode cX5_workAtFront 69 = .ok (.ifCond .eq 12, 3) := by decide +kernel
theorem dX5_workAtFront_72 : decode cX5_workAtFront 72 = .ok (.aload_n 0, 1) := by decide +kernel
theorem dX5_workAtFront_73 : decode cX5_workAtFront 73 = .ok (.getfield 33, 3) := by decide +kernel
theorem dX5_workAtFront_76 : decode cX5_workAtFront 76 = .ok (.invokevirtual 209, 3) := by decide +kernel
theorem dX5_workAtFront_79 : decode cX5_workAtFront 79 = .ok (.iconst 0, 1) := by decide +kernel
theorem dX5_workAtFront_80 : decode cX5_workAtFront 80 = .ok (.ireturn, 1) := by decide +kernel
theorem dX5_workAtFront_81 : decode cX5_workAtFront 81 = .ok (.aload_n 0, 1) := by decide +kernel
theorem dX5_workAtFront_82 : decode cX5_workAtFront 82 = .ok (.getfield 70, 3) := by decide +kernel
theorem dX5_workAtFront_85 : decode cX5_workAtFront 85 = .ok (.aload_n 2, 1) := by decide +kernel
theorem dX5_workAtFront_86 : decode cX5_workAtFront 86 = .ok (.getfield 85, 3) := by decide +kernel
theorem dX5_workAtFront_89 : decode cX5_workAtFront 89 = .ok (.if_icmp .ge 5, 3) := by decide +kernel
theorem dX5_workAtFront_92 : decode cX5_workAtFront 92 = .ok (.iconst 1, 1) := by decide +kernel
theorem dX5_workAtFront_93 : decode cX5_workAtFront 93 = .ok (.ireturn, 1) := by decide +kernel
theorem dX5_workAtFront_94 : decode cX5_workAtFront 94 = .ok (.aload_n 0, 1) := by decide +kernel
theorem dX5_workAtFront_95 : decode cX5_workAtFront 95 = .ok (.getfield 70, 3) := by decide +kernel
theorem dX5_workAtFront_98 : decode cX5_workAtFront 98 = .ok (.aload_n 2, 1) := by decide +kernel
theorem dX5_workAtFront_99 : decode cX5_workAtFront 99 = .ok (.getfield 88, 3) := by decide +kernel
theorem dX5_workAtFront_102 : decode cX5_workAtFront 102 = .ok (.if_icmp .le 5, 3) := by decide +kernel
theorem dX5_workAtFront_105 : decode cX5_workAtFront 105 = .ok (.iconst 2, 1) := by decide +kernel
theorem dX5_workAtFront_106 : decode cX5_workAtFront 106 = .ok (.ireturn, 1) := by decide +kernel
theorem dX5_workAtFront_107 : decode cX5_workAtFront 107 = .ok (.aload_n 0, 1) := by decide +kernel
theorem dX5_workAtFront_108 : decode cX5_workAtFront 108 = .ok (.getfield 26, 3) := by decide +kernel
theorem dX5_workAtFront_111 : decode cX5_workAtFront 111 = .ok (.aload_n 0, 1) := by decide +kernel
theorem dX5_workAtFront_112 : decode cX5_workAtFront 112 = .ok (.getfield 70, 3) := by decide +kernel
theorem dX5_workAtFront_115 : decode cX5_workAtFront 115 = .ok (.invokevirtual 199, 3) := by decide +kernel
theorem dX5_workAtFront_118 : decode cX5_workAtFront 118 = .ok (.aload_n 1, 1) := by decide +kernel
theorem dX5_workAtFront_119 : decode cX5_workAtFront 119 = .ok (.getfield 212, 3) := by decide +kernel
theorem dX5_workAtFront_122 : decode cX5_workAtFront 122 = .ok (.if_icmp .le 5, 3) := by decide +kernel
theorem dX5_workAtFront_125 : decode cX5_workAtFront 125 = .ok (.iconst 3, 1) := by decide +kernel
theorem dX5_workAtFront_126 : decode cX5_workAtFront 126 = .ok (.ireturn, 1) := by decide +kernel
theorem dX5_workAtFront_127 : decode cX5_workAtFront 127 = .ok (.aload_n 0, 1) := by decide +kernel
theorem dX5_workAtFront_128 : decode cX5_workAtFront 128 = .ok (.aload_n 1, 1) := by decide +kernel
theorem dX5_workAtFront_129 : decode cX5_workAtFront 129 = .ok (.aload_n 2, 1) := by decide +kernel
theorem dX5_workAtFront_130 : decode cX5_workAtFront 130 = .ok (.invokevirtual 215, 3) := by decide +kernel
theorem dX5_workAtFront_133 : decode cX5_workAtFront 133 = .ok (.ireturn, 1) := by decide +kernel
theorem dX5_lay_0 : decode cX5_lay 0 = .ok (.aload_n 2, 1) := by decide +kernel
theorem dX5_lay_1 : decode cX5_lay 1 = .ok (.aload_n 1, 1) := by decide +kernel
theorem dX5_lay_2 : decode cX5_lay 2 = .ok (.getfield 219, 3) := by decide +kernel
theorem dX5_lay_5 : decode cX5_lay 5 = .ok (.aload_n 2, 1) := by decide +kernel
theorem dX5_lay_6 : decode cX5_lay 6 = .ok (.getfield 82, 3) := by decide +kernel
theorem dX5_lay_9 : decode cX5_lay 9 = .ok (.aload_n 0, 1) := by decide +kernel
theorem dX5_lay_10 : decode cX5_lay 10 = .ok (.getfield 76, 3) := by decide +kernel
theorem dX5_lay_13 : decode cX5_lay 13 = .ok (.isub, 1) := by decide +kernel
theorem dX5_lay_14 : decode cX5_lay 14 = .ok (.invokestatic 146, 3) := by decide +kernel
theorem dX5_lay_17 : decode cX5_lay 17 = .ok (.aload_n 1, 1) := by decide +kernel
theorem dX5_lay_18 : decode cX5_lay 18 = .ok (.getfield 113, 3) := by decide +kernel
theorem dX5_lay_21 : decode cX5_lay 21 = .ok (.invokevirtual 222, 3) := by decide +kernel
theorem dX5_lay_24 : decode cX5_lay 24 = .ok (.istore_n 3, 1) := by decide +kernel
theorem dX5_lay_25 : decode cX5_lay 25 = .ok (.iload_n 3, 1) := by decide +kernel
theorem dX5_lay_26 : decode cX5_lay 26 = .ok (.ifCond .gt 16, 3) := by decide +kernel
theorem dX5_lay_29 : decode cX5_lay 29 = .ok (.aload_n 1, 1) := by decide +kernel
theorem dX5_lay_30 : decode cX5_lay 30 = .ok (.iconst 4, 1) := by decide +kernel
theorem dX5_lay_31 : decode cX5_lay 31 = .ok (.aload_n 0, 1) := by decide +kernel
theorem dX5_lay_32 : decode cX5_lay 32 = .ok (.getfield 73, 3) := by decide +kernel
theorem dX5_lay_35 : decode cX5_lay 35 = .ok (.iconst 1, 1) := by decide +kernel
theorem dX5_lay_36 : decode cX5_lay 36 = .ok (.iadd, 1) := by decide +kernel
theorem dX5_lay_37 : decode cX5_lay 37 = .ok (.invokevirtual 123, 3) := by decide +kernel
theorem dX5_lay_40 : decode cX5_lay 40 = .ok (.iconst 4, 1) := by decide +kernel
theorem dX5_lay_41 : decode cX5_lay 41 = .ok (.ireturn, 1) := by decide +kernel
theorem dX5_lay_42 : decode cX5_lay 42 = .ok (.aload_n 2, 1) := by decide +kernel
theorem dX5_lay_43 : decode cX5_lay 43 = .ok (.iload_n 3, 1) := by decide +kernel
theorem dX5_lay_44 : decode cX5_lay 44 = .ok (.invokevirtual 225, 3) := by decide +kernel
theorem dX5_lay_47 : decode cX5_lay 47 = .ok (.istore 4, 2) := by decide +kernel
theorem dX5_lay_49 : decode cX5_lay 49 = .ok (.aload_n 1, 1) := by decide +kernel
theorem dX5_lay_50 : decode cX5_lay 50 = .ok (.dup, 1) := by decide +kernel
theorem dX5_lay_51 : decode cX5_lay 51 = .ok (.getfield 113, 3) := by decide +kernel
theorem dX5_lay_54 : decode cX5_lay 54 = .ok (.iload 4, 2) := by decide +kernel
theorem dX5_lay_56 : decode cX5_lay 56 = .ok (.isub, 1) := by decide +kernel
theorem dX5_lay_57 : decode cX5_lay 57 = .ok (.putfield 113, 3) := by decide +kernel
theorem dX5_lay_60 : decode cX5_lay 60 = .ok (.aload_n 1, 1) := by decide +kernel
theorem dX5_lay_61 : decode cX5_lay 61 = .ok (.dup, 1) := by decide +kernel
theorem dX5_lay_62 : decode cX5_lay 62 = .ok (.getfield 228, 3) := by decide +kernel
theorem dX5_lay_65 : decode cX5_lay 65 = .ok (.iload_n 3, 1) := by decide +kernel
theorem dX5_lay_66 : decode cX5_lay 66 = .ok (.iadd, 1) := by decide +kernel
theorem dX5_lay_67 : decode cX5_lay 67 = .ok (.putfield 228, 3) := by decide +kernel
theorem dX5_lay_70 : decode cX5_lay 70 = .ok (.aload_n 0, 1) := by decide +kernel
theorem dX5_lay_71 : decode cX5_lay 71 = .ok (.getfield 40, 3) := by decide +kernel
theorem dX5_lay_74 : decode cX5_lay 74 = .ok (.dup, 1) := by decide +kernel
theorem dX5_lay_75 : decode cX5_lay 75 = .ok (.getfield 188, 3) := by decide +kernel
theorem dX5_lay_78 : decode cX5_lay 78 = .ok (.iload_n 3, 1) := by decide +kernel
theorem dX5_lay_79 : decode cX5_lay 79 = .ok (.iadd, 1) := by decide +kernel
theorem dX5_lay_80 : decode cX5_lay 80 = .ok (.putfield 188, 3) := by decide +kernel
theorem dX5_lay_83 : decode cX5_lay 83 = .ok (.aload_n 0, 1) := by decide +kernel
theorem dX5_lay_84 : decode cX5_lay 84 = .ok (.getfield 40, 3) := by decide +kernel
theorem dX5_lay_87 : decode cX5_lay 87 = .ok (.dup, 1) := by decide +kernel
theorem dX5_lay_88 : decode cX5_lay 88 = .ok (.getfield 229, 3) := by decide +kernel
theorem dX5_lay_91 : decode cX5_lay 91 = .ok (.iload 4, 2) := by decide +kernel
theorem dX5_lay_93 : decode cX5_lay 93 = .ok (.iload_n 3, 1) := by decide +kernel
theorem dX5_lay_94 : decode cX5_lay 94 = .ok (.isub, 1) := by decide +kernel
theorem dX5_lay_95 : decode cX5_lay 95 = .ok (.iadd, 1) := by decide +kernel
theorem dX5_lay_96 : decode cX5_lay 96 = .ok (.putfield 229, 3) := by decide +kernel
theorem dX5_lay_99 : decode cX5_lay 99 = .ok (.aload_n 0, 1) := by decide +kernel
theorem dX5_lay_100 : decode cX5_lay 100 = .ok (.dup, 1) := by decide +kernel
theorem dX5_lay_101 : decode cX5_lay 101 = .ok (.getfield 76, 3) := by decide +kernel
theorem dX5_lay_104 : decode cX5_lay 104 = .ok (.iload_n 3, 1) := by decide +kernel
theorem dX5_lay_105 : decode cX5_lay 105 = .ok (.iadd, 1) := by decide +kernel
theorem dX5_lay_106 : decode cX5_lay 106 = .ok (.putfield 76, 3) := by decide +kernel
theorem dX5_lay_109 : decode cX5_lay 109 = .ok (.aload_n 0, 1) := by decide +kernel
theorem dX5_lay_110 : decode cX5_lay 110 = .ok (.getfield 76, 3) := by decide +kernel
theorem dX5_lay_113 : decode cX5_lay 113 = .ok (.aload_n 2, 1) := by decide +kernel
theorem dX5_lay_114 : decode cX5_lay 114 = .ok (.getfield 82, 3) := by decide +kernel
theorem dX5_lay_117 : decode cX5_lay 117 = .ok (.if_icmp .lt 34, 3) := by decide +kernel
theorem dX5_lay_120 : decode cX5_lay 120 = .ok (.aload_n 0, 1) := by decide +kernel
theorem dX5_lay_121 : decode cX5_lay 121 = .ok (.dup, 1) := by decide +kernel
theorem dX5_lay_122 : decode cX5_lay 122 = .ok (.getfield 73, 3) := by decide +kernel
theorem dX5_lay_125 : decode cX5_lay 125 = .ok (.iconst 1, 1) := by decide +kernel
theorem dX5_lay_126 : decode cX5_lay 126 = .ok (.iadd, 1) := by decide +kernel
theorem dX5_lay_127 : decode cX5_lay 127 = .ok (.putfield 73, 3) := by decide +kernel
theorem dX5_lay_130 : decode cX5_lay 130 = .ok (.aload_n 0, 1) := by decide +kernel
theorem dX5_lay_131 : decode cX5_lay 131 = .ok (.iconst 0, 1) := by decide +kernel
theorem dX5_lay_132 : decode cX5_lay 132 = .ok (.putfield 76, 3) := by decide +kernel
theorem dX5_lay_135 : decode cX5_lay 135 = .ok (.aload_n 0, 1) := by decide +kernel
theorem dX5_lay_136 : decode cX5_lay 136 = .ok (.invokevirtual 119, 3) := by decide +kernel
theorem dX5_lay_139 : decode cX5_lay 139 = .ok (.ifCond .eq 12, 3) := by decide +kernel
theorem dX5_lay_142 : decode cX5_lay 142 = .ok (.aload_n 1, 1) := by decide +kernel
theorem dX5_lay_143 : decode cX5_lay 143 = .ok (.iconst 4, 1) := by decide +kernel
theorem dX5_lay_144 : decode cX5_lay 144 = .ok (.aload_n 0, 1) := by decide +kernel
theorem dX5_lay_145 : decode cX5_lay 145 = .ok (.getfield 46, 3) := by decide +kernel
theorem dX5_lay_148 : decode cX5_lay 148 = .ok (.invokevirtual 123, 3) := by decide +kernel
theorem dX5_lay_151 : decode cX5_lay 151 = .ok (.iconst 0, 1) := by decide +kernel
theorem dX5_lay_152 : decode cX5_lay 152 = .ok (.ireturn, 1) := by decide +kernel
theorem dX5_bookDay_0 : decode cX5_bookDay 0 = .ok (.aload_n 0, 1) := by decide +kernel
theorem dX5_bookDay_1 : decode cX5_bookDay 1 = .ok (.getfield 79, 3) := by decide +kernel
theorem dX5_bookDay_4 : decode cX5_bookDay 4 = .ok (.iconst 1, 1) := by decide +kernel
theorem dX5_bookDay_5 : decode cX5_bookDay 5 = .ok (.if_icmp .eq 27, 3) := by decide +kernel
theorem dX5_bookDay_8 : decode cX5_bookDay 8 = .ok (.aload_n 0, 1) := by decide +kernel
theorem dX5_bookDay_9 : decode cX5_bookDay 9 = .ok (.getfield 79, 3) := by decide +kernel
theorem dX5_bookDay_12 : decode cX5_bookDay 12 = .ok (.iconst 2, 1) := by decide +kernel
theorem dX5_bookDay_13 : decode cX5_bookDay 13 = .ok (.if_icmp .eq 19, 3) := by decide +kernel
theorem dX5_bookDay_16 : decode cX5_bookDay 16 = .ok (.aload_n 0, 1) := by decide +kernel
theorem dX5_bookDay_17 : decode cX5_bookDay 17 = .ok (.getfield 79, 3) := by decide +kernel
theorem dX5_bookDay_20 : decode cX5_bookDay 20 = .ok (.iconst 3, 1) := by decide +kernel
theorem dX5_bookDay_21 : decode cX5_bookDay 21 = .ok (.if_icmp .eq 11, 3) := by decide +kernel
theorem dX5_bookDay_24 : decode cX5_bookDay 24 = .ok (.aload_n 0, 1) := by decide +kernel
theorem dX5_bookDay_25 : decode cX5_bookDay 25 = .ok (.getfield 79, 3) := by decide +kernel
theorem dX5_bookDay_28 : decode cX5_bookDay 28 = .ok (.iconst 5, 1) := by decide +kernel
theorem dX5_bookDay_29 : decode cX5_bookDay 29 = .ok (.if_icmp .ne 7, 3) := by decide +kernel
theorem dX5_bookDay_32 : decode cX5_bookDay 32 = .ok (.iconst 1, 1) := by decide +kernel
theorem dX5_bookDay_33 : decode cX5_bookDay 33 = .ok (.goto 4, 3) := by decide +kernel
theorem dX5_bookDay_36 : decode cX5_bookDay 36 = .ok (.iconst 0, 1) := by decide +kernel
theorem dX5_bookDay_37 : decode cX5_bookDay 37 = .ok (.istore_n 1, 1) := by decide +kernel
theorem dX5_bookDay_38 : decode cX5_bookDay 38 = .ok (.aload_n 0, 1) := by decide +kernel
theorem dX5_bookDay_39 : decode cX5_bookDay 39 = .ok (.getfield 19, 3) := by decide +kernel
theorem dX5_bookDay_42 : decode cX5_bookDay 42 = .ok (.astore_n 2, 1) := by decide +kernel
theorem dX5_bookDay_43 : decode cX5_bookDay 43 = .ok (.aload_n 2, 1) := by decide +kernel
theorem dX5_bookDay_44 : decode cX5_bookDay 44 = .ok (.arraylength, 1) := by decide +kernel
theorem dX5_bookDay_45 : decode cX5_bookDay 45 = .ok (.istore_n 3, 1) := by decide +kernel
theorem dX5_bookDay_46 : decode cX5_bookDay 46 = .ok (.iconst 0, 1) := by decide +kernel
theorem dX5_bookDay_47 : decode cX5_bookDay 47 = .ok (.istore 4, 2) := by decide +kernel
theorem dX5_bookDay_49 : decode cX5_bookDay 49 = .ok (.iload 4, 2) := by decide +kernel
theorem dX5_bookDay_51 : decode cX5_bookDay 51 = .ok (.iload_n 3, 1) := by decide +kernel
theorem dX5_bookDay_52 : decode cX5_bookDay 52 = .ok (.if_icmp .ge 79, 3) := by decide +kernel
theorem dX5_bookDay_55 : decode cX5_bookDay 55 = .ok (.aload_n 2, 1) := by decide +kernel
theorem dX5_bookDay_56 : decode cX5_bookDay 56 = .ok (.iload 4, 2) := by decide +kernel
theorem dX5_bookDay_58 : decode cX5_bookDay 58 = .ok (.aaload, 1) := by decide +kernel
theorem dX5_bookDay_59 : decode cX5_bookDay 59 = .ok (.astore 5, 2) := by decide +kernel
theorem dX5_bookDay_61 : decode cX5_bookDay 61 = .ok (.aload 5, 2) := by decide +kernel
theorem dX5_bookDay_63 : decode cX5_bookDay 63 = .ok (.getfield 110, 3) := by decide +kernel
theorem dX5_bookDay_66 : decode cX5_bookDay 66 = .ok (.ifCond .eq 20, 3) := by decide +kernel
theorem dX5_bookDay_69 : decode cX5_bookDay 69 = .ok (.aload_n 0, 1) := by decide +kernel
theorem dX5_bookDay_70 : decode cX5_bookDay 70 = .ok (.getfield 40, 3) := by decide +kernel
theorem dX5_bookDay_73 : decode cX5_bookDay 73 = .ok (.dup, 1) := by decide +kernel
theorem dX5_bookDay_74 : decode cX5_bookDay 74 = .ok (.getfield 232, 3) := by decide +kernel
theorem dX5_bookDay_77 : decode cX5_bookDay 77 = .ok (.aload 5, 2) := by decide +kernel
theorem dX5_bookDay_79 : decode cX5_bookDay 79 = .ok (.getfield 235, 3) := by decide +kernel
theorem dX5_bookDay_82 : decode cX5_bookDay 82 = .ok (.iadd, 1) := by decide +kernel
theorem dX5_bookDay_83 : decode cX5_bookDay 83 = .ok (.putfield 232, 3) := by decide +kernel
theorem dX5_bookDay_86 : decode cX5_bookDay 86 = .ok (.aload 5, 2) := by decide +kernel
theorem dX5_bookDay_88 : decode cX5_bookDay 88 = .ok (.getfield 110, 3) := by decide +kernel
theorem dX5_bookDay_91 : decode cX5_bookDay 91 = .ok (.iconst 2, 1) := by decide +kernel
theorem dX5_bookDay_92 : decode cX5_bookDay 92 = .ok (.if_icmp .eq 16, 3) := by decide +kernel
theorem dX5_bookDay_95 : decode cX5_bookDay 95 = .ok (.aload 5, 2) := by decide +kernel
theorem dX5_bookDay_97 : decode cX5_bookDay 97 = .ok (.getfield 110, 3) := by decide +kernel
theorem dX5_bookDay_100 : decode cX5_bookDay 100 = .ok (.iconst 3, 1) := by decide +kernel
theorem dX5_bookDay_101 : decode cX5_bookDay 101 = .ok (.if_icmp .ne 24, 3) := by decide +kernel
theorem dX5_bookDay_104 : decode cX5_bookDay 104 = .ok (.iload_n 1, 1) := by decide +kernel
theorem dX5_bookDay_105 : decode cX5_bookDay 105 = .ok (.ifCond .eq 20, 3) := by decide +kernel
theorem dX5_bookDay_108 : decode cX5_bookDay 108 = .ok (.aload_n 0, 1) := by decide +kernel
theorem dX5_bookDay_109 : decode cX5_bookDay 109 = .ok (.getfield 40, 3) := by decide +kernel
theorem dX5_bookDay_112 : decode cX5_bookDay 112 = .ok (.dup, 1) := by decide +kernel
theorem dX5_bookDay_113 : decode cX5_bookDay 113 = .ok (.getfield 238, 3) := by decide +kernel
theorem dX5_bookDay_116 : decode cX5_bookDay 116 = .ok (.aload 5, 2) := by decide +kernel
theorem dX5_bookDay_118 : decode cX5_bookDay 118 = .ok (.getfield 235, 3) := by decide +kernel
theorem dX5_bookDay_121 : decode cX5_bookDay 121 = .ok (.iadd, 1) := by decide +kernel
theorem dX5_bookDay_122 : decode cX5_bookDay 122 = .ok (.putfield 238, 3) := by decide +kernel
theorem dX5_bookDay_125 : decode cX5_bookDay 125 = .ok (.iinc 4 1, 3) := by decide +kernel
theorem dX5_bookDay_128 : decode cX5_bookDay 128 = .ok (.goto (-79), 3) := by decide +kernel
theorem dX5_bookDay_131 : decode cX5_bookDay 131 = .ok (.return_, 1) := by decide +kernel
theorem dX6_init_0 : decode cX6_init 0 = .ok (.aload_n 0, 1) := by decide +kernel
theorem dX6_init_1 : decode cX6_init 1 = .ok (.invokespecial 3, 3) := by decide +kernel
theorem dX6_init_4 : decode cX6_init 4 = .ok (.aload_n 0, 1) := by decide +kernel
theorem dX6_init_5 : decode cX6_init 5 = .ok (.iconst 3, 1) := by decide +kernel
theorem dX6_init_6 : decode cX6_init 6 = .ok (.newarray .int, 2) := by decide +kernel
theorem dX6_init_8 : decode cX6_init 8 = .ok (.putfield 11, 3) := by decide +kernel
theorem dX6_init_11 : decode cX6_init 11 = .ok (.aload_n 0, 1) := by decide +kernel
theorem dX6_init_12 : decode cX6_init 12 = .ok (.bipush (-9), 2) := by decide +kernel
theorem dX6_init_14 : decode cX6_init 14 = .ok (.putfield 15, 3) := by decide +kernel
theorem dX6_init_17 : decode cX6_init 17 = .ok (.return_, 1) := by decide +kernel
theorem dX6_begin_0 : decode cX6_begin 0 = .ok (.aload_n 0, 1) := by decide +kernel
theorem dX6_begin_1 : decode cX6_begin 1 = .ok (.iload_n 1, 1) := by decide +kernel
theorem dX6_begin_2 : decode cX6_begin 2 = .ok (.putfield 19, 3) := by decide +kernel
theorem dX6_begin_5 : decode cX6_begin 5 = .ok (.aload_n 0, 1) := by decide +kernel
theorem dX6_begin_6 : decode cX6_begin 6 = .ok (.iload_n 2, 1) := by decide +kernel
theorem dX6_begin_7 : decode cX6_begin 7 = .ok (.putfield 22, 3) := by decide +kernel
theorem dX6_begin_10 : decode cX6_begin 10 = .ok (.iconst 0, 1) := by decide +kernel
theorem dX6_begin_11 : decode cX6_begin 11 = .ok (.istore_n 3, 1) := by decide +kernel
theorem dX6_begin_12 : decode cX6_begin 12 = .ok (.iload_n 3, 1) := by decide +kernel
theorem dX6_begin_13 : decode cX6_begin 13 = .ok (.aload_n 0, 1) := by decide +kernel
theorem dX6_begin_14 : decode cX6_begin 14 = .ok (.getfield 11, 3) := by decide +kernel
theorem dX6_begin_17 : decode cX6_begin 17 = .ok (.arraylength, 1) := by decide +kernel
theorem dX6_begin_18 : decode cX6_begin 18 = .ok (.if_icmp .ge 16, 3) := by decide +kernel
theorem dX6_begin_21 : decode cX6_begin 21 = .ok (.aload_n 0, 1) := by decide +kernel
theorem dX6_begin_22 : decode cX6_begin 22 = .ok (.getfield 11, 3) := by decide +kernel
theorem dX6_begin_25 : decode cX6_begin 25 = .ok (.iload_n 3, 1) := by decide +kernel
theorem dX6_begin_26 : decode cX6_begin 26 = .ok (.iconst 0, 1) := by decide +kernel
theorem dX6_begin_27 : decode cX6_begin 27 = .ok (.iastore, 1) := by decide +kernel
theorem dX6_begin_28 : decode cX6_begin 28 = .ok (.iinc 3 1, 3) := by decide +kernel
theorem dX6_begin_31 : decode cX6_begin 31 = .ok (.goto (-19), 3) := by decide +kernel
theorem dX6_begin_34 : decode cX6_begin 34 = .ok (.aload_n 0, 1) := by decide +kernel
theorem dX6_begin_35 : decode cX6_begin 35 = .ok (.iconst 0, 1) := by decide +kernel
theorem dX6_begin_36 : decode cX6_begin 36 = .ok (.putfield 25, 3) := by decide +kernel
theorem dX6_begin_39 : decode cX6_begin 39 = .ok (.aload_n 0, 1) := by decide +kernel
theorem dX6_begin_40 : decode cX6_begin 40 = .ok (.bipush (-9), 2) := by decide +kernel
theorem dX6_begin_42 : decode cX6_begin 42 = .ok (.putfield 15, 3) := by decide +kernel
theorem dX6_begin_45 : decode cX6_begin 45 = .ok (.aload_n 0, 1) := by decide +kernel
theorem dX6_begin_46 : decode cX6_begin 46 = .ok (.iconst 0, 1) := by decide +kernel
theorem dX6_begin_47 : decode cX6_begin 47 = .ok (.putfield 29, 3) := by decide +kernel
theorem dX6_begin_50 : decode cX6_begin 50 = .ok (.aload_n 0, 1) := by decide +kernel
theorem dX6_begin_51 : decode cX6_begin 51 = .ok (.iconst 0, 1) := by decide +kernel
theorem dX6_begin_52 : decode cX6_begin 52 = .ok (.putfield 32, 3) := by decide +kernel
theorem dX6_begin_55 : decode cX6_begin 55 = .ok (.return_, 1) := by decide +kernel
theorem dX6_copyFrom_0 : decode cX6_copyFrom 0 = .ok (.aload_n 0, 1) := by decide +kernel
theorem dX6_copyFrom_1 : decode cX6_copyFrom 1 = .ok (.aload_n 1, 1) := by decide +kernel
theorem dX6_copyFrom_2 : decode cX6_copyFrom 2 = .ok (.getfield 19, 3) := by decide +kernel
theorem dX6_copyFrom_5 : decode cX6_copyFrom 5 = .ok (.putfield 19, 3) := by decide +kernel
theorem dX6_copyFrom_8 : decode cX6_copyFrom 8 = .ok (.aload_n 0, 1) := by decide +kernel
theorem dX6_copyFrom_9 : decode cX6_copyFrom 9 = .ok (.aload_n 1, 1) := by decide +kernel
theorem dX6_copyFrom_10 : decode cX6_copyFrom 10 = .ok (.getfield 22, 3) := by decide +kernel
theorem dX6_copyFrom_13 : decode cX6_copyFrom 13 = .ok (.putfield 22, 3) := by decide +kernel
theorem dX6_copyFrom_16 : decode cX6_copyFrom 16 = .ok (.iconst 0, 1) := by decide +kernel
theorem dX6_copyFrom_17 : decode cX6_copyFrom 17 = .ok (.istore_n 2, 1) := by decide +kernel
theorem dX6_copyFrom_18 : decode cX6_copyFrom 18 = .ok (.iload_n 2, 1) := by decide +kernel
theorem dX6_copyFrom_19 : decode cX6_copyFrom 19 = .ok (.aload_n 0, 1) := by decide +kernel
theorem dX6_copyFrom_20 : decode cX6_copyFrom 20 = .ok (.getfield 11, 3) := by decide +kernel
theorem dX6_copyFrom_23 : decode cX6_copyFrom 23 = .ok (.arraylength, 1) := by decide +kernel
theorem dX6_copyFrom_24 : decode cX6_copyFrom 24 = .ok (.if_icmp .ge 30, 3) := by decide +kernel
theorem dX6_copyFrom_27 : decode cX6_copyFrom 27 = .ok (.iload_n 2, 1) := by decide +kernel
theorem dX6_copyFrom_28 : decode cX6_copyFrom 28 = .ok (.aload_n 1, 1) := by decide +kernel
theorem dX6_copyFrom_29 : decode cX6_copyFrom 29 = .ok (.getfield 11, 3) := by decide +kernel
theorem dX6_copyFrom_32 : decode cX6_copyFrom 32 = .ok (.arraylength, 1) := by decide +kernel
theorem dX6_copyFrom_33 : decode cX6_copyFrom 33 = .ok (.if_icmp .ge 21, 3) := by decide +kernel
theorem dX6_copyFrom_36 : decode cX6_copyFrom 36 = .ok (.aload_n 0, 1) := by decide +kernel
theorem dX6_copyFrom_37 : decode cX6_copyFrom 37 = .ok (.getfield 11, 3) := by decide +kernel
theorem dX6_copyFrom_40 : decode cX6_copyFrom 40 = .ok (.iload_n 2, 1) := by decide +kernel
theorem dX6_copyFrom_41 : decode cX6_copyFrom 41 = .ok (.aload_n 1, 1) := by decide +kernel
theorem dX6_copyFrom_42 : decode cX6_copyFrom 42 = .ok (.getfield 11, 3) := by decide +kernel
theorem dX6_copyFrom_45 : decode cX6_copyFrom 45 = .ok (.iload_n 2, 1) := by decide +kernel
theorem dX6_copyFrom_46 : decode cX6_copyFrom 46 = .ok (.iaload, 1) := by decide +kernel
theorem dX6_copyFrom_47 : decode cX6_copyFrom 47 = .ok (.iastore, 1) := by decide +kernel
theorem dX6_copyFrom_48 : decode cX6_copyFrom 48 = .ok (.iinc 2 1, 3) := by decide +kernel
theorem dX6_copyFrom_51 : decode cX6_copyFrom 51 = .ok (.goto (-33), 3) := by decide +kernel
theorem dX6_copyFrom_54 : decode cX6_copyFrom 54 = .ok (.aload_n 0, 1) := by decide +kernel
theorem dX6_copyFrom_55 : decode cX6_copyFrom 55 = .ok (.aload_n 1, 1) := by decide +kernel
theorem dX6_copyFrom_56 : decode cX6_copyFrom 56 = .ok (.getfield 25, 3) := by decide +kernel
theorem dX6_copyFrom_59 : decode cX6_copyFrom 59 = .ok (.putfield 25, 3) := by decide +kernel
theorem dX6_copyFrom_62 : decode cX6_copyFrom 62 = .ok (.aload_n 0, 1) := by decide +kernel
theorem dX6_copyFrom_63 : decode cX6_copyFrom 63 = .ok (.aload_n 1, 1) := by decide +kernel
theorem dX6_copyFrom_64 : decode cX6_copyFrom 64 = .ok (.getfield 15, 3) := by decide +kernel
theorem dX6_copyFrom_67 : decode cX6_copyFrom 67 = .ok (.putfield 15, 3) := by decide +kernel
theorem dX6_copyFrom_70 : decode cX6_copyFrom 70 = .ok (.aload_n 0, 1) := by decide +kernel
theorem dX6_copyFrom_71 : decode cX6_copyFrom 71 = .ok (.aload_n 1, 1) := by decide +kernel
theorem dX6_copyFrom_72 : decode cX6_copyFrom 72 = .ok (.getfield 29, 3) := by decide +kernel
theorem dX6_copyFrom_75 : decode cX6_copyFrom 75 = .ok (.putfield 29, 3) := by decide +kernel
theorem dX6_copyFrom_78 : decode cX6_copyFrom 78 = .ok (.aload_n 0, 1) := by decide +kernel
theorem dX6_copyFrom_79 : decode cX6_copyFrom 79 = .ok (.aload_n 1, 1) := by decide +kernel
theorem dX6_copyFrom_80 : decode cX6_copyFrom 80 = .ok (.getfield 32, 3) := by decide +kernel
theorem dX6_copyFrom_83 : decode cX6_copyFrom 83 = .ok (.putfield 32, 3) := by decide +kernel
theorem dX6_copyFrom_86 : decode cX6_copyFrom 86 = .ok (.return_, 1) := by decide +kernel
theorem dX6_spliceGoesOn_0 : decode cX6_spliceGoesOn 0 = .ok (.aload_n 0, 1) := by decide +kernel
theorem dX6_spliceGoesOn_1 : decode cX6_spliceGoesOn 1 = .ok (.getfield 15, 3) := by decide +kernel
theorem dX6_spliceGoesOn_4 : decode cX6_spliceGoesOn 4 = .ok (.bipush (-9), 2) := by decide +kernel
theorem dX6_spliceGoesOn_6 : decode cX6_spliceGoesOn 6 = .ok (.if_icmp .eq 7, 3) := by decide +kernel
theorem dX6_spliceGoesOn_9 : decode cX6_spliceGoesOn 9 = .ok (.iconst 1, 1) := by decide +kernel
theorem dX6_spliceGoesOn_10 : decode cX6_spliceGoesOn 10 = .ok (.goto 4, 3) := by decide +kernel
theorem dX6_spliceGoesOn_13 : decode cX6_spliceGoesOn 13 = .ok (.iconst 0, 1) := by decide +kernel
theorem dX6_spliceGoesOn_14 : decode cX6_spliceGoesOn 14 = .ok (.ireturn, 1) := by decide +kernel
theorem dX6_stageOfSplice_0 : decode cX6_stageOfSplice 0 = .ok (.aload_n 0, 1) := by decide +kernel
theorem dX6_stageOfSplice_1 : decode cX6_stageOfSplice 1 = .ok (.getfield 25, 3) := by decide +kernel
theorem dX6_stageOfSplice_4 : decode cX6_stageOfSplice 4 = .ok (.ifCond .eq 5, 3) := by decide +kernel
theorem dX6_stageOfSplice_7 : decode cX6_stageOfSplice 7 = .ok (.iconst 1, 1) := by decide +kernel
theorem dX6_stageOfSplice_8 : decode cX6_stageOfSplice 8 = .ok (.ireturn, 1) := by decide +kernel
theorem dX6_stageOfSplice_9 : decode cX6_stageOfSplice 9 = .ok (.aload_n 0, 1) := by decide +kernel
theorem dX6_stageOfSplice_10 : decode cX6_stageOfSplice 10 = .ok (.invokevirtual 35, 3) := by decide +kernel
theorem dX6_stageOfSplice_13 : decode cX6_stageOfSplice 13 = .ok (.ifCond .eq 7, 3) := by decide +kernel
theorem dX6_stageOfSplice_16 : decode cX6_stageOfSplice 16 = .ok (.iconst 2, 1) := by decide +kernel
theorem dX6_stageOfSplice_17 : decode cX6_stageOfSplice 17 = .ok (.goto 4, 3) := by decide +kernel
theorem dX6_stageOfSplice_20 : decode cX6_stageOfSplice 20 = .ok (.iconst 0, 1) := by decide +kernel
theorem dX6_stageOfSplice_21 : decode cX6_stageOfSplice 21 = .ok (.ireturn, 1) := by decide +kernel
theorem dX6_isFree_0 : decode cX6_isFree 0 = .ok (.iload_n 1, 1) := by decide +kernel
theorem dX6_isFree_1 : decode cX6_isFree 1 = .ok (.ifCond .lt 41, 3) := by decide +kernel
theorem dX6_isFree_4 : decode cX6_isFree 4 = .ok (.iload_n 1, 1) := by decide +kernel
theorem dX6_isFree_5 : decode cX6_isFree 5 = .ok (.aload_n 0, 1) := by decide +kernel
theorem dX6_isFree_6 : decode cX6_isFree 6 = .ok (.getfield 19, 3) := by decide +kernel
theorem dX6_isFree_9 : decode cX6_isFree 9 = .ok (.if_icmp .ge 33, 3) := by decide +kernel
theorem dX6_isFree_12 : decode cX6_isFree 12 = .ok (.iload_n 1, 1) := by decide +kernel
theorem dX6_isFree_13 : decode cX6_isFree 13 = .ok (.aload_n 0, 1) := by decide +kernel
theorem dX6_isFree_14 : decode cX6_isFree 14 = .ok (.getfield 11, 3) := by decide +kernel
theorem dX6_isFree_17 : decode cX6_isFree 17 = .ok (.arraylength, 1) := by decide +kernel
theorem dX6_isFree_18 : decode cX6_isFree 18 = .ok (.if_icmp .ge 24, 3) := by decide +kernel
theorem dX6_isFree_21 : decode cX6_isFree 21 = .ok (.iload_n 1, 1) := by decide +kernel
theorem dX6_isFree_22 : decode cX6_isFree 22 = .ok (.aload_n 0, 1) := by decide +kernel
theorem dX6_isFree_23 : decode cX6_isFree 23 = .ok (.getfield 15, 3) := by decide +kernel
theorem dX6_isFree_26 : decode cX6_isFree 26 = .ok (.if_icmp .eq 16, 3) := by decide +kernel
theorem dX6_isFree_29 : decode cX6_isFree 29 = .ok (.aload_n 0, 1) := by decide +kernel
theorem dX6_isFree_30 : decode cX6_isFree 30 = .ok (.getfield 11, 3) := by decide +kernel
theorem dX6_isFree_33 : decode cX6_isFree 33 = .ok (.iload_n 1, 1) := by decide +kernel
theorem dX6_isFree_34 : decode cX6_isFree 34 = .ok (.iaload, 1) := by decide +kernel
theorem dX6_isFree_35 : decode cX6_isFree 35 = .ok (.ifCond .ne 7, 3) := by decide +kernel
theorem dX6_isFree_38 : decode cX6_isFree 38 = .ok (.iconst 1, 1) := by decide +kernel
theorem dX6_isFree_39 : decode cX6_isFree 39 = .ok (.goto 4, 3) := by decide +kernel
theorem dX6_isFree_42 : decode cX6_isFree 42 = .ok (.iconst 0, 1) := by decide +kernel
theorem dX6_isFree_43 : decode cX6_isFree 43 = .ok (.ireturn, 1) := by decide +kernel
theorem dX6_freeTeams_0 : decode cX6_freeTeams 0 = .ok (.iconst 0, 1) := by decide +kernel
theorem dX6_freeTeams_1 : decode cX6_freeTeams 1 = .ok (.istore_n 1, 1) := by decide +kernel
theorem dX6_freeTeams_2 : decode cX6_freeTeams 2 = .ok (.iconst 0, 1) := by decide +kernel
theorem dX6_freeTeams_3 : decode cX6_freeTeams 3 = .ok (.istore_n 2, 1) := by decide +kernel
theorem dX6_freeTeams_4 : decode cX6_freeTeams 4 = .ok (.iload_n 2, 1) := by decide +kernel
theorem dX6_freeTeams_5 : decode cX6_freeTeams 5 = .ok (.aload_n 0, 1) := by decide +kernel
theorem dX6_freeTeams_6 : decode cX6_freeTeams 6 = .ok (.getfield 11, 3) := by decide +kernel
theorem dX6_freeTeams_9 : decode cX6_freeTeams 9 = .ok (.arraylength, 1) := by decide +kernel
theorem dX6_freeTeams_10 : decode cX6_freeTeams 10 = .ok (.if_icmp .ge 20, 3) := by decide +kernel
theorem dX6_freeTeams_13 : decode cX6_freeTeams 13 = .ok (.aload_n 0, 1) := by decide +kernel
theorem dX6_freeTeams_14 : decode cX6_freeTeams 14 = .ok (.iload_n 2, 1) := by decide +kernel
theorem dX6_freeTeams_15 : decode cX6_freeTeams 15 = .ok (.invokevirtual 39, 3) := by decide +kernel
theorem dX6_freeTeams_18 : decode cX6_freeTeams 18 = .ok (.ifCond .eq 6, 3) := by decide +kernel
theorem dX6_freeTeams_21 : decode cX6_freeTeams 21 = .ok (.iinc 1 1, 3) := by decide +kernel
theorem dX6_freeTeams_24 : decode cX6_freeTeams 24 = .ok (.iinc 2 1, 3) := by decide +kernel
theorem dX6_freeTeams_27 : decode cX6_freeTeams 27 = .ok (.goto (-23), 3) := by decide +kernel
theorem dX6_freeTeams_30 : decode cX6_freeTeams 30 = .ok (.iload_n 1, 1) := by decide +kernel
theorem dX6_freeTeams_31 : decode cX6_freeTeams 31 = .ok (.ireturn, 1) := by decide +kernel
theorem dX6_beginSplice_0 : decode cX6_beginSplice 0 = .ok (.iconst 0, 1) := by decide +kernel
theorem dX6_beginSplice_1 : decode cX6_beginSplice 1 = .ok (.istore_n 2, 1) := by decide +kernel
theorem dX6_beginSplice_2 : decode cX6_beginSplice 2 = .ok (.iload_n 2, 1) := by decide +kernel
theorem dX6_beginSplice_3 : decode cX6_beginSplice 3 = .ok (.aload_n 0, 1) := by decide +kernel
theorem dX6_beginSplice_4 : decode cX6_beginSplice 4 = .ok (.getfield 11, 3) := by decide +kernel
theorem dX6_beginSplice_7 : decode cX6_beginSplice 7 = .ok (.arraylength, 1) := by decide +kernel
theorem dX6_beginSplice_8 : decode cX6_beginSplice 8 = .ok (.if_icmp .ge 42, 3) := by decide +kernel
theorem dX6_beginSplice_11 : decode cX6_beginSplice 11 = .ok (.iload_n 1, 1) := by decide +kernel
theorem dX6_beginSplice_12 : decode cX6_beginSplice 12 = .ok (.iconst 3, 1) := by decide +kernel
theorem dX6_beginSplice_13 : decode cX6_beginSplice 13 = .ok (.if_icmp .gt 37, 3) := by decide +kernel
theorem dX6_beginSplice_16 : decode cX6_beginSplice 16 = .ok (.aload_n 0, 1) := by decide +kernel
theorem dX6_beginSplice_17 : decode cX6_beginSplice 17 = .ok (.iload_n 2, 1) := by decide +kernel
theorem dX6_beginSplice_18 : decode cX6_beginSplice 18 = .ok (.invokevirtual 39, 3) := by decide +kernel
theorem dX6_beginSplice_21 : decode cX6_beginSplice 21 = .ok (.ifCond .eq 23, 3) := by decide +kernel
theorem dX6_beginSplice_24 : decode cX6_beginSplice 24 = .ok (.aload_n 0, 1) := by decide +kernel
theorem dX6_beginSplice_25 : decode cX6_beginSplice 25 = .ok (.iconst 0, 1) := by decide +kernel
theorem dX6_beginSplice_26 : decode cX6_beginSplice 26 = .ok (.putfield 25, 3) := by decide +kernel
theorem dX6_beginSplice_29 : decode cX6_beginSplice 29 = .ok (.aload_n 0, 1) := by decide +kernel
theorem dX6_beginSplice_30 : decode cX6_beginSplice 30 = .ok (.iload_n 2, 1) := by decide +kernel
theorem dX6_beginSplice_31 : decode cX6_beginSplice 31 = .ok (.putfield 15, 3) := by decide +kernel
theorem dX6_beginSplice_34 : decode cX6_beginSplice 34 = .ok (.aload_n 0, 1) := by decide +kernel
theorem dX6_beginSplice_35 : decode cX6_beginSplice 35 = .ok (.aload_n 0, 1) := by decide +kernel
theorem dX6_beginSplice_36 : decode cX6_beginSplice 36 = .ok (.getfield 22, 3) := by decide +kernel
theorem dX6_beginSplice_39 : decode cX6_beginSplice 39 = .ok (.putfield 29, 3) := by decide +kernel
theorem dX6_beginSplice_42 : decode cX6_beginSplice 42 = .ok (.iconst 1, 1) := by decide +kernel
theorem dX6_beginSplice_43 : decode cX6_beginSplice 43 = .ok (.ireturn, 1) := by decide +kernel
theorem dX6_beginSplice_44 : decode cX6_beginSplice 44 = .ok (.iinc 2 1, 3) := by decide +kernel
theorem dX6_beginSplice_47 : decode cX6_beginSplice 47 = .ok (.goto (-45), 3) := by decide +kernel
theorem dX6_beginSplice_50 : decode cX6_beginSplice 50 = .ok (.iconst 0, 1) := by decide +kernel
theorem dX6_beginSplice_51 : decode cX6_beginSplice 51 = .ok (.ireturn, 1) := by decide +kernel
theorem dX6_workOnSplice_0 : decode cX6_workOnSplice 0 = .ok (.aload_n 0, 1) := by decide +kernel
theorem dX6_workOnSplice_1 : decode cX6_workOnSplice 1 = .ok (.dup, 1) := by decide +kernel
theorem dX6_workOnSplice_2 : decode cX6_workOnSplice 2 = .ok (.getfield 29, 3) := by decide +kernel
theorem dX6_workOnSplice_5 : decode cX6_workOnSplice 5 = .ok (.iconst 1, 1) := by decide +kernel
theorem dX6_workOnSplice_6 : decode cX6_workOnSplice 6 = .ok (.isub, 1) := by decide +kernel
theorem dX6_workOnSplice_7 : decode cX6_workOnSplice 7 = .ok (.putfield 29, 3) := by decide +kernel
theorem dX6_workOnSplice_10 : decode cX6_workOnSplice 10 = .ok (.aload_n 0, 1) := by decide +kernel
theorem dX6_workOnSplice_11 : decode cX6_workOnSplice 11 = .ok (.getfield 29, 3) := by decide +kernel
theorem dX6_workOnSplice_14 : decode cX6_workOnSplice 14 = .ok (.ifCond .gt 18, 3) := by decide +kernel
theorem dX6_workOnSplice_17 : decode cX6_workOnSplice 17 = .ok (.aload_n 0, 1) := by decide +kernel
theorem dX6_workOnSplice_18 : decode cX6_workOnSplice 18 = .ok (.dup, 1) := by decide +kernel
theorem dX6_workOnSplice_19 : decode cX6_workOnSplice 19 = .ok (.getfield 32, 3) := by decide +kernel
theorem dX6_workOnSplice_22 : decode cX6_workOnSplice 22 = .ok (.iconst 1, 1) := by decide +kernel
theorem dX6_workOnSplice_23 : decode cX6_workOnSplice 23 = .ok (.iadd, 1) := by decide +kernel
theorem dX6_workOnSplice_24 : decode cX6_workOnSplice 24 = .ok (.putfield 32, 3) := by decide +kernel
theorem dX6_workOnSplice_27 : decode cX6_workOnSplice 27 = .ok (.aload_n 0, 1) := by decide +kernel
theorem dX6_workOnSplice_28 : decode cX6_workOnSplice 28 = .ok (.iconst 3, 1) := by decide +kernel
theorem dX6_workOnSplice_29 : decode cX6_workOnSplice 29 = .ok (.invokevirtual 43, 3) := by decide +kernel
theorem dX6_workOnSplice_32 : decode cX6_workOnSplice 32 = .ok (.return_, 1) := by decide +kernel
theorem dX6_leaveFront_0 : decode cX6_leaveFront 0 = .ok (.aload_n 0, 1) := by decide +kernel
theorem dX6_leaveFront_1 : decode cX6_leaveFront 1 = .ok (.iconst 0, 1) := by decide +kernel
theorem dX6_leaveFront_2 : decode cX6_leaveFront 2 = .ok (.putfield 25, 3) := by decide +kernel
theorem dX6_leaveFront_5 : decode cX6_leaveFront 5 = .ok (.aload_n 0, 1) := by decide +kernel
theorem dX6_leaveFront_6 : decode cX6_leaveFront 6 = .ok (.iconst 2, 1) := by decide +kernel
theorem dX6_leaveFront_7 : decode cX6_leaveFront 7 = .ok (.invokevirtual 43, 3) := by decide +kernel
theorem dX6_leaveFront_10 : decode cX6_leaveFront 10 = .ok (.return_, 1) := by decide +kernel
theorem dX6_sendToRest_0 : decode cX6_sendToRest 0 = .ok (.aload_n 0, 1) := by decide +kernel
theorem dX6_sendToRest_1 : decode cX6_sendToRest 1 = .ok (.getfield 15, 3) := by decide +kernel
theorem dX6_sendToRest_4 : decode cX6_sendToRest 4 = .ok (.ifCond .lt 25, 3) := by decide +kernel
theorem dX6_sendToRest_7 : decode cX6_sendToRest 7 = .ok (.aload_n 0, 1) := by decide +kernel
theorem dX6_sendToRest_8 : decode cX6_sendToRest 8 = .ok (.getfield 15, 3) := by decide +kernel
theorem dX6_sendToRest_11 : decode cX6_sendToRest 11 = .ok (.aload_n 0, 1) := by decide +kernel
theorem dX6_sendToRest_12 : decode cX6_sendToRest 12 = .ok (.getfield 11, 3) := by decide +kernel
theorem dX6_sendToRest_15 : decode cX6_sendToRest 15 = .ok (.arraylength, 1) := by decide +kernel
theorem dX6_sendToRest_16 : decode cX6_sendToRest 16 = .ok (.if_icmp .ge 13, 3) := by decide +kernel
theorem dX6_sendToRest_19 : decode cX6_sendToRest 19 = .ok (.aload_n 0, 1) := by decide +kernel
theorem dX6_sendToRest_20 : decode cX6_sendToRest 20 = .ok (.getfield 11, 3) := by decide +kernel
theorem dX6_sendToRest_23 : decode cX6_sendToRest 23 = .ok (.aload_n 0, 1) := by decide +kernel
theorem dX6_sendToRest_24 : decode cX6_sendToRest 24 = .ok (.getfield 15, 3) := by decide +kernel
theorem dX6_sendToRest_27 : decode cX6_sendToRest 27 = .ok (.iload_n 1, 1) := by decide +kernel
theorem dX6_sendToRest_28 : decode cX6_sendToRest 28 = .ok (.iastore, 1) := by decide +kernel
theorem dX6_sendToRest_29 : decode cX6_sendToRest 29 = .ok (.aload_n 0, 1) := by decide +kernel
theorem dX6_sendToRest_30 : decode cX6_sendToRest 30 = .ok (.bipush (-9), 2) := by decide +kernel
theorem dX6_sendToRest_32 : decode cX6_sendToRest 32 = .ok (.putfield 15, 3) := by decide +kernel
theorem dX6_sendToRest_35 : decode cX6_sendToRest 35 = .ok (.aload_n 0, 1) := by decide +kernel
theorem dX6_sendToRest_36 : decode cX6_sendToRest 36 = .ok (.iconst 0, 1) := by decide +kernel
theorem dX6_sendToRest_37 : decode cX6_sendToRest 37 = .ok (.putfield 29, 3) := by decide +kernel
theorem dX6_sendToRest_40 : decode cX6_sendToRest 40 = .ok (.return_, 1) := by decide +kernel
theorem dX6_restOneDay_0 : decode cX6_restOneDay 0 = .ok (.iconst 0, 1) := by decide +kernel
theorem dX6_restOneDay_1 : decode cX6_restOneDay 1 = .ok (.istore_n 1, 1) := by decide +kernel
theorem dX6_restOneDay_2 : decode cX6_restOneDay 2 = .ok (.iload_n 1, 1) := by decide +kernel
theorem dX6_restOneDay_3 : decode cX6_restOneDay 3 = .ok (.aload_n 0, 1) := by decide +kernel
theorem dX6_restOneDay_4 : decode cX6_restOneDay 4 = .ok (.getfield 11, 3) := by decide +kernel
theorem dX6_restOneDay_7 : decode cX6_restOneDay 7 = .ok (.arraylength, 1) := by decide +kernel
theorem dX6_restOneDay_8 : decode cX6_restOneDay 8 = .ok (.if_icmp .ge 28, 3) := by decide +kernel
theorem dX6_restOneDay_11 : decode cX6_restOneDay 11 = .ok (.aload_n 0, 1) := by decide +kernel
theorem dX6_restOneDay_12 : decode cX6_restOneDay 12 = .ok (.getfield 11, 3) := by decide +kernel
theorem dX6_restOneDay_15 : decode cX6_restOneDay 15 = .ok (.iload_n 1, 1) := by decide +kernel
theorem dX6_restOneDay_16 : decode cX6_restOneDay 16 = .ok (.iaload, 1) := by decide +kernel
theorem dX6_restOneDay_17 : decode cX6_restOneDay 17 = .ok (.ifCond .le 13, 3) := by decide +kernel
theorem dX6_restOneDay_20 : decode cX6_restOneDay 20 = .ok (.aload_n 0, 1) := by decide +kernel
theorem dX6_restOneDay_21 : decode cX6_restOneDay 21 = .ok (.getfield 11, 3) := by decide +kernel
theorem dX6_restOneDay_24 : decode cX6_restOneDay 24 = .ok (.iload_n 1, 1) := by decide +kernel
theorem dX6_restOneDay_25 : decode cX6_restOneDay 25 = .ok (.dup2, 1) := by decide +kernel
theorem dX6_restOneDay_26 : decode cX6_restOneDay 26 = .ok (.iaload, 1) := by decide +kernel
theorem dX6_restOneDay_27 : decode cX6_restOneDay 27 = .ok (.iconst 1, 1) := by decide +kernel
theorem dX6_restOneDay_28 : decode cX6_restOneDay 28 = .ok (.isub, 1) := by decide +kernel
theorem dX6_restOneDay_29 : decode cX6_restOneDay 29 = .ok (.iastore, 1) := by decide +kernel
theorem dX6_restOneDay_30 : decode cX6_restOneDay 30 = .ok (.iinc 1 1, 3) := by decide +kernel
theorem dX6_restOneDay_33 : decode cX6_restOneDay 33 = .ok (.goto (-31), 3) := by decide +kernel
theorem dX6_restOneDay_36 : decode cX6_restOneDay 36 = .ok (.return_, 1) := by decide +kernel
end
section
theorem dX7_init_0 : decode cX7_init 0 = .ok (.aload_n 0, 1) := by decide +kernel
theorem dX7_init_1 : decode cX7_init 1 = .ok (.invokespecial 3, 3) := by decide +kernel
theorem dX7_init_4 : decode cX7_init 4 = .ok (.aload_n 0, 1) := by decide +kernel
theorem dX7_init_5 : decode cX7_init 5 = .ok (.sipush 160, 3) := by decide +kernel
theorem dX7_init_8 : decode cX7_init 8 = .ok (.newarray .char, 2) := by decide +kernel
theorem dX7_init_10 : decode cX7_init 10 = .ok (.putfield 11, 3) := by decide +kernel
theorem dX7_init_13 : decode cX7_init 13 = .ok (.return_, 1) := by decide +kernel
theorem dX7_hasRoom_0 : decode cX7_hasRoom 0 = .ok (.aload_n 0, 1) := by decide +kernel
theorem dX7_hasRoom_1 : decode cX7_hasRoom 1 = .ok (.getfield 15, 3) := by decide +kernel
theorem dX7_hasRoom_4 : decode cX7_hasRoom 4 = .ok (.ifCond .lt 19, 3) := by decide +kernel
theorem dX7_hasRoom_7 : decode cX7_hasRoom 7 = .ok (.aload_n 0, 1) := by decide +kernel
theorem dX7_hasRoom_8 : decode cX7_hasRoom 8 = .ok (.getfield 15, 3) := by decide +kernel
theorem dX7_hasRoom_11 : decode cX7_hasRoom 11 = .ok (.aload_n 0, 1) := by decide +kernel
theorem dX7_hasRoom_12 : decode cX7_hasRoom 12 = .ok (.getfield 11, 3) := by decide +kernel
theorem dX7_hasRoom_15 : decode cX7_hasRoom 15 = .ok (.arraylength, 1) := by decide +kernel
theorem dX7_hasRoom_16 : decode cX7_hasRoom 16 = .ok (.if_icmp .ge 7, 3) := by decide +kernel
theorem dX7_hasRoom_19 : decode cX7_hasRoom 19 = .ok (.iconst 1, 1) := by decide +kernel
theorem dX7_hasRoom_20 : decode cX7_hasRoom 20 = .ok (.goto 4, 3) := by decide +kernel
theorem dX7_hasRoom_23 : decode cX7_hasRoom 23 = .ok (.iconst 0, 1) := by decide +kernel
theorem dX7_hasRoom_24 : decode cX7_hasRoom 24 = .ok (.ireturn, 1) := by decide +kernel
theorem dX7_add_0 : decode cX7_add 0 = .ok (.aload_n 0, 1) := by decide +kernel
theorem dX7_add_1 : decode cX7_add 1 = .ok (.invokevirtual 19, 3) := by decide +kernel
theorem dX7_add_4 : decode cX7_add 4 = .ok (.ifCond .eq 23, 3) := by decide +kernel
theorem dX7_add_7 : decode cX7_add 7 = .ok (.aload_n 0, 1) := by decide +kernel
theorem dX7_add_8 : decode cX7_add 8 = .ok (.getfield 11, 3) := by decide +kernel
theorem dX7_add_11 : decode cX7_add 11 = .ok (.aload_n 0, 1) := by decide +kernel
theorem dX7_add_12 : decode cX7_add 12 = .ok (.getfield 15, 3) := by decide +kernel
theorem dX7_add_15 : decode cX7_add 15 = .ok (.iload_n 1, 1) := by decide +kernel
theorem dX7_add_16 : decode cX7_add 16 = .ok (.castore, 1) := by decide +kernel
theorem dX7_add_17 : decode cX7_add 17 = .ok (.aload_n 0, 1) := by decide +kernel
theorem dX7_add_18 : decode cX7_add 18 = .ok (.dup, 1) := by decide +kernel
theorem dX7_add_19 : decode cX7_add 19 = .ok (.getfield 15, 3) := by decide +kernel
theorem dX7_add_22 : decode cX7_add 22 = .ok (.iconst 1, 1) := by decide +kernel
theorem dX7_add_23 : decode cX7_add 23 = .ok (.iadd, 1) := by decide +kernel
theorem dX7_add_24 : decode cX7_add 24 = .ok (.putfield 15, 3) := by decide +kernel
theorem dX7_add_27 : decode cX7_add 27 = .ok (.aload_n 0, 1) := by decide +kernel
theorem dX7_add_28 : decode cX7_add 28 = .ok (.getfield 15, 3) := by decide +kernel
theorem dX7_add_31 : decode cX7_add 31 = .ok (.ireturn, 1) := by decide +kernel
theorem dX7_clear_0 : decode cX7_clear 0 = .ok (.aload_n 0, 1) := by decide +kernel
theorem dX7_clear_1 : decode cX7_clear 1 = .ok (.getfield 15, 3) := by decide +kernel
theorem dX7_clear_4 : decode cX7_clear 4 = .ok (.istore_n 1, 1) := by decide +kernel
theorem dX7_clear_5 : decode cX7_clear 5 = .ok (.aload_n 0, 1) := by decide +kernel
theorem dX7_clear_6 : decode cX7_clear 6 = .ok (.iconst 0, 1) := by decide +kernel
theorem dX7_clear_7 : decode cX7_clear 7 = .ok (.putfield 15, 3) := by decide +kernel
theorem dX7_clear_10 : decode cX7_clear 10 = .ok (.iload_n 1, 1) := by decide +kernel
theorem dX7_clear_11 : decode cX7_clear 11 = .ok (.ireturn, 1) := by decide +kernel
theorem dX7_readInto_0 : decode cX7_readInto 0 = .ok (.aload_n 0, 1) := by decide +kernel
theorem dX7_readInto_1 : decode cX7_readInto 1 = .ok (.iconst 0, 1) := by decide +kernel
theorem dX7_readInto_2 : decode cX7_readInto 2 = .ok (.putfield 23, 3) := by decide +kernel
theorem dX7_readInto_5 : decode cX7_readInto 5 = .ok (.aload_n 0, 1) := by decide +kernel
theorem dX7_readInto_6 : decode cX7_readInto 6 = .ok (.iconst 1, 1) := by decide +kernel
theorem dX7_readInto_7 : decode cX7_readInto 7 = .ok (.putfield 26, 3) := by decide +kernel
theorem dX7_readInto_10 : decode cX7_readInto 10 = .ok (.aload_n 0, 1) := by decide +kernel
theorem dX7_readInto_11 : decode cX7_readInto 11 = .ok (.aload_n 1, 1) := by decide +kernel
theorem dX7_readInto_12 : decode cX7_readInto 12 = .ok (.invokevirtual 30, 3) := by decide +kernel
theorem dX7_readInto_15 : decode cX7_readInto 15 = .ok (.iconst 0, 1) := by decide +kernel
theorem dX7_readInto_16 : decode cX7_readInto 16 = .ok (.istore_n 2, 1) := by decide +kernel
theorem dX7_readInto_17 : decode cX7_readInto 17 = .ok (.aload_n 0, 1) := by decide +kernel
theorem dX7_readInto_18 : decode cX7_readInto 18 = .ok (.getfield 26, 3) := by decide +kernel
theorem dX7_readInto_21 : decode cX7_readInto 21 = .ok (.ifCond .eq 33, 3) := by decide +kernel
theorem dX7_readInto_24 : decode cX7_readInto 24 = .ok (.iload_n 2, 1) := by decide +kernel
theorem dX7_readInto_25 : decode cX7_readInto 25 = .ok (.bipush 9, 2) := by decide +kernel
theorem dX7_readInto_27 : decode cX7_readInto 27 = .ok (.if_icmp .ge 27, 3) := by decide +kernel
theorem dX7_readInto_30 : decode cX7_readInto 30 = .ok (.iload_n 2, 1) := by decide +kernel
theorem dX7_readInto_31 : decode cX7_readInto 31 = .ok (.ifCond .eq 12, 3) := by decide +kernel
theorem dX7_readInto_34 : decode cX7_readInto 34 = .ok (.aload_n 0, 1) := by decide +kernel
theorem dX7_readInto_35 : decode cX7_readInto 35 = .ok (.bipush 122, 2) := by decide +kernel
theorem dX7_readInto_37 : decode cX7_readInto 37 = .ok (.invokevirtual 36, 3) := by decide +kernel
theorem dX7_readInto_40 : decode cX7_readInto 40 = .ok (.ifCond .eq 14, 3) := by decide +kernel
theorem dX7_readInto_43 : decode cX7_readInto 43 = .ok (.aload_n 0, 1) := by decide +kernel
theorem dX7_readInto_44 : decode cX7_readInto 44 = .ok (.aload_n 1, 1) := by decide +kernel
theorem dX7_readInto_45 : decode cX7_readInto 45 = .ok (.invokevirtual 40, 3) := by decide +kernel
theorem dX7_readInto_48 : decode cX7_readInto 48 = .ok (.iinc 2 1, 3) := by decide +kernel
theorem dX7_readInto_51 : decode cX7_readInto 51 = .ok (.goto (-34), 3) := by decide +kernel
theorem dX7_readInto_54 : decode cX7_readInto 54 = .ok (.iconst 0, 1) := by decide +kernel
theorem dX7_readInto_55 : decode cX7_readInto 55 = .ok (.istore_n 2, 1) := by decide +kernel
theorem dX7_readInto_56 : decode cX7_readInto 56 = .ok (.aload_n 0, 1) := by decide +kernel
theorem dX7_readInto_57 : decode cX7_readInto 57 = .ok (.getfield 26, 3) := by decide +kernel
theorem dX7_readInto_60 : decode cX7_readInto 60 = .ok (.ifCond .eq 32, 3) := by decide +kernel
theorem dX7_readInto_63 : decode cX7_readInto 63 = .ok (.iload_n 2, 1) := by decide +kernel
theorem dX7_readInto_64 : decode cX7_readInto 64 = .ok (.iconst 4, 1) := by decide +kernel
theorem dX7_readInto_65 : decode cX7_readInto 65 = .ok (.if_icmp .ge 27, 3) := by decide +kernel
theorem dX7_readInto_68 : decode cX7_readInto 68 = .ok (.iload_n 2, 1) := by decide +kernel
theorem dX7_readInto_69 : decode cX7_readInto 69 = .ok (.ifCond .eq 12, 3) := by decide +kernel
theorem dX7_readInto_72 : decode cX7_readInto 72 = .ok (.aload_n 0, 1) := by decide +kernel
theorem dX7_readInto_73 : decode cX7_readInto 73 = .ok (.bipush 115, 2) := by decide +kernel
theorem dX7_readInto_75 : decode cX7_readInto 75 = .ok (.invokevirtual 36, 3) := by decide +kernel
theorem dX7_readInto_78 : decode cX7_readInto 78 = .ok (.ifCond .eq 14, 3) := by decide +kernel
theorem dX7_readInto_81 : decode cX7_readInto 81 = .ok (.aload_n 0, 1) := by decide +kernel
theorem dX7_readInto_82 : decode cX7_readInto 82 = .ok (.aload_n 1, 1) := by decide +kernel
theorem dX7_readInto_83 : decode cX7_readInto 83 = .ok (.invokevirtual 43, 3) := by decide +kernel
theorem dX7_readInto_86 : decode cX7_readInto 86 = .ok (.iinc 2 1, 3) := by decide +kernel
theorem dX7_readInto_89 : decode cX7_readInto 89 = .ok (.goto (-33), 3) := by decide +kernel
theorem dX7_readInto_92 : decode cX7_readInto 92 = .ok (.aload_n 0, 1) := by decide +kernel
theorem dX7_readInto_93 : decode cX7_readInto 93 = .ok (.aload_n 1, 1) := by decide +kernel
theorem dX7_readInto_94 : decode cX7_readInto 94 = .ok (.invokevirtual 46, 3) := by decide +kernel
theorem dX7_readInto_97 : decode cX7_readInto 97 = .ok (.aload_n 0, 1) := by decide +kernel
theorem dX7_readInto_98 : decode cX7_readInto 98 = .ok (.getfield 26, 3) := by decide +kernel
theorem dX7_readInto_101 : decode cX7_readInto 101 = .ok (.ifCond .eq 8, 3) := by decide +kernel
theorem dX7_readInto_104 : decode cX7_readInto 104 = .ok (.bipush (-9), 2) := by decide +kernel
theorem dX7_readInto_106 : decode cX7_readInto 106 = .ok (.goto 7, 3) := by decide +kernel
theorem dX7_readInto_109 : decode cX7_readInto 109 = .ok (.aload_n 0, 1) := by decide +kernel
theorem dX7_readInto_110 : decode cX7_readInto 110 = .ok (.getfield 23, 3) := by decide +kernel
theorem dX7_readInto_113 : decode cX7_readInto 113 = .ok (.ireturn, 1) := by decide +kernel
theorem dX7_readHead_0 : decode cX7_readHead 0 = .ok (.aload_n 0, 1) := by decide +kernel
theorem dX7_readHead_1 : decode cX7_readHead 1 = .ok (.bipush 67, 2) := by decide +kernel
theorem dX7_readHead_3 : decode cX7_readHead 3 = .ok (.invokevirtual 49, 3) := by decide +kernel
theorem dX7_readHead_6 : decode cX7_readHead 6 = .ok (.aload_n 0, 1) := by decide +kernel
theorem dX7_readHead_7 : decode cX7_readHead 7 = .ok (.iconst 1, 1) := by decide +kernel
theorem dX7_readHead_8 : decode cX7_readHead 8 = .ok (.iconst 1, 1) := by decide +kernel
theorem dX7_readHead_9 : decode cX7_readHead 9 = .ok (.iconst 3, 1) := by decide +kernel
theorem dX7_readHead_10 : decode cX7_readHead 10 = .ok (.invokevirtual 55, 3) := by decide +kernel
theorem dX7_readHead_13 : decode cX7_readHead 13 = .ok (.istore_n 2, 1) := by decide +kernel
theorem dX7_readHead_14 : decode cX7_readHead 14 = .ok (.aload_n 0, 1) := by decide +kernel
theorem dX7_readHead_15 : decode cX7_readHead 15 = .ok (.iconst 1, 1) := by decide +kernel
theorem dX7_readHead_16 : decode cX7_readHead 16 = .ok (.iconst 1, 1) := by decide +kernel
theorem dX7_readHead_17 : decode cX7_readHead 17 = .ok (.iconst 3, 1) := by decide +kernel
theorem dX7_readHead_18 : decode cX7_readHead 18 = .ok (.invokevirtual 55, 3) := by decide +kernel
theorem dX7_readHead_21 : decode cX7_readHead 21 = .ok (.istore_n 3, 1) := by decide +kernel
theorem dX7_readHead_22 : decode cX7_readHead 22 = .ok (.aload_n 1, 1) := by decide +kernel
theorem dX7_readHead_23 : decode cX7_readHead 23 = .ok (.iload_n 2, 1) := by decide +kernel
theorem dX7_readHead_24 : decode cX7_readHead 24 = .ok (.iload_n 3, 1) := by decide +kernel
theorem dX7_readHead_25 : decode cX7_readHead 25 = .ok (.aload_n 0, 1) := by decide +kernel
theorem dX7_readHead_26 : decode cX7_readHead 26 = .ok (.iconst 4, 1) := by decide +kernel
theorem dX7_readHead_27 : decode cX7_readHead 27 = .ok (.iconst 0, 1) := by decide +kernel
theorem dX7_readHead_28 : decode cX7_readHead 28 = .ok (.sipush 9999, 3) := by decide +kernel
theorem dX7_readHead_31 : decode cX7_readHead 31 = .ok (.invokevirtual 55, 3) := by decide +kernel
theorem dX7_readHead_34 : decode cX7_readHead 34 = .ok (.invokevirtual 59, 3) := by decide +kernel
theorem dX7_readHead_37 : decode cX7_readHead 37 = .ok (.return_, 1) := by decide +kernel
theorem dX7_readZone_0 : decode cX7_readZone 0 = .ok (.aload_n 0, 1) := by decide +kernel
theorem dX7_readZone_1 : decode cX7_readZone 1 = .ok (.bipush 122, 2) := by decide +kernel
theorem dX7_readZone_3 : decode cX7_readZone 3 = .ok (.invokevirtual 49, 3) := by decide +kernel
theorem dX7_readZone_6 : decode cX7_readZone 6 = .ok (.aload_n 0, 1) := by decide +kernel
theorem dX7_readZone_7 : decode cX7_readZone 7 = .ok (.iconst 2, 1) := by decide +kernel
theorem dX7_readZone_8 : decode cX7_readZone 8 = .ok (.iconst 1, 1) := by decide +kernel
theorem dX7_readZone_9 : decode cX7_readZone 9 = .ok (.bipush 99, 2) := by decide +kernel
theorem dX7_readZone_11 : decode cX7_readZone 11 = .ok (.invokevirtual 55, 3) := by decide +kernel
theorem dX7_readZone_14 : decode cX7_readZone 14 = .ok (.istore_n 2, 1) := by decide +kernel
theorem dX7_readZone_15 : decode cX7_readZone 15 = .ok (.aload_n 0, 1) := by decide +kernel
theorem dX7_readZone_16 : decode cX7_readZone 16 = .ok (.iconst 2, 1) := by decide +kernel
theorem dX7_readZone_17 : decode cX7_readZone 17 = .ok (.iconst 0, 1) := by decide +kernel
theorem dX7_readZone_18 : decode cX7_readZone 18 = .ok (.bipush 99, 2) := by decide +kernel
theorem dX7_readZone_20 : decode cX7_readZone 20 = .ok (.invokevirtual 55, 3) := by decide +kernel
theorem dX7_readZone_23 : decode cX7_readZone 23 = .ok (.istore_n 3, 1) := by decide +kernel
theorem dX7_readZone_24 : decode cX7_readZone 24 = .ok (.aload_n 0, 1) := by decide +kernel
theorem dX7_readZone_25 : decode cX7_readZone 25 = .ok (.iconst 2, 1) := by decide +kernel
theorem dX7_readZone_26 : decode cX7_readZone 26 = .ok (.iload_n 3, 1) := by decide +kernel
theorem dX7_readZone_27 : decode cX7_readZone 27 = .ok (.bipush 99, 2) := by decide +kernel
theorem dX7_readZone_29 : decode cX7_readZone 29 = .ok (.invokevirtual 55, 3) := by decide +kernel
theorem dX7_readZone_32 : decode cX7_readZone 32 = .ok (.istore 4, 2) := by decide +kernel
theorem dX7_readZone_34 : decode cX7_readZone 34 = .ok (.aload_n 1, 1) := by decide +kernel
theorem dX7_readZone_35 : decode cX7_readZone 35 = .ok (.iload_n 2, 1) := by decide +kernel
theorem dX7_readZone_36 : decode cX7_readZone 36 = .ok (.iload_n 3, 1) := by decide +kernel
theorem dX7_readZone_37 : decode cX7_readZone 37 = .ok (.iload 4, 2) := by decide +kernel
theorem dX7_readZone_39 : decode cX7_readZone 39 = .ok (.aload_n 0, 1) := by decide +kernel
theorem dX7_readZone_40 : decode cX7_readZone 40 = .ok (.iconst 1, 1) := by decide +kernel
theorem dX7_readZone_41 : decode cX7_readZone 41 = .ok (.iconst 0, 1) := by decide +kernel
theorem dX7_readZone_42 : decode cX7_readZone 42 = .ok (.bipush 9, 2) := by decide +kernel
theorem dX7_readZone_44 : decode cX7_readZone 44 = .ok (.invokevirtual 55, 3) := by decide +kernel
theorem dX7_readZone_47 : decode cX7_readZone 47 = .ok (.invokevirtual 63, 3) := by decide +kernel
theorem dX7_readZone_50 : decode cX7_readZone 50 = .ok (.return_, 1) := by decide +kernel
theorem dX7_readShip_0 : decode cX7_readShip 0 = .ok (.aload_n 0, 1) := by decide +kernel
theorem dX7_readShip_1 : decode cX7_readShip 1 = .ok (.bipush 115, 2) := by decide +kernel
theorem dX7_readShip_3 : decode cX7_readShip 3 = .ok (.invokevirtual 49, 3) := by decide +kernel
theorem dX7_readShip_6 : decode cX7_readShip 6 = .ok (.aload_n 0, 1) := by decide +kernel
theorem dX7_readShip_7 : decode cX7_readShip 7 = .ok (.iconst 3, 1) := by decide +kernel
theorem dX7_readShip_8 : decode cX7_readShip 8 = .ok (.bipush 10, 2) := by decide +kernel
theorem dX7_readShip_10 : decode cX7_readShip 10 = .ok (.sipush 999, 3) := by decide +kernel
theorem dX7_readShip_13 : decode cX7_readShip 13 = .ok (.invokevirtual 55, 3) := by decide +kernel
theorem dX7_readShip_16 : decode cX7_readShip 16 = .ok (.istore_n 2, 1) := by decide +kernel
theorem dX7_readShip_17 : decode cX7_readShip 17 = .ok (.aload_n 0, 1) := by decide +kernel
theorem dX7_readShip_18 : decode cX7_readShip 18 = .ok (.iconst 2, 1) := by decide +kernel
theorem dX7_readShip_19 : decode cX7_readShip 19 = .ok (.iconst 1, 1) := by decide +kernel
theorem dX7_readShip_20 : decode cX7_readShip 20 = .ok (.bipush 20, 2) := by decide +kernel
theorem dX7_readShip_22 : decode cX7_readShip 22 = .ok (.invokevirtual 55, 3) := by decide +kernel
theorem dX7_readShip_25 : decode cX7_readShip 25 = .ok (.istore_n 3, 1) := by decide +kernel
theorem dX7_readShip_26 : decode cX7_readShip 26 = .ok (.aload_n 0, 1) := by decide +kernel
theorem dX7_readShip_27 : decode cX7_readShip 27 = .ok (.iconst 1, 1) := by decide +kernel
theorem dX7_readShip_28 : decode cX7_readShip 28 = .ok (.iconst 1, 1) := by decide +kernel
theorem dX7_readShip_29 : decode cX7_readShip 29 = .ok (.bipush 9, 2) := by decide +kernel
theorem dX7_readShip_31 : decode cX7_readShip 31 = .ok (.invokevirtual 55, 3) := by decide +kernel
theorem dX7_readShip_34 : decode cX7_readShip 34 = .ok (.istore 4, 2) := by decide +kernel
theorem dX7_readShip_36 : decode cX7_readShip 36 = .ok (.aload_n 1, 1) := by decide +kernel
theorem dX7_readShip_37 : decode cX7_readShip 37 = .ok (.iload_n 2, 1) := by decide +kernel
theorem dX7_readShip_38 : decode cX7_readShip 38 = .ok (.iload_n 3, 1) := by decide +kernel
theorem dX7_readShip_39 : decode cX7_readShip 39 = .ok (.iload 4, 2) := by decide +kernel
theorem dX7_readShip_41 : decode cX7_readShip 41 = .ok (.aload_n 0, 1) := by decide +kernel
theorem dX7_readShip_42 : decode cX7_readShip 42 = .ok (.iconst 2, 1) := by decide +kernel
theorem dX7_readShip_43 : decode cX7_readShip 43 = .ok (.iconst 1, 1) := by decide +kernel
theorem dX7_readShip_44 : decode cX7_readShip 44 = .ok (.bipush 99, 2) := by decide +kernel
theorem dX7_readShip_46 : decode cX7_readShip 46 = .ok (.invokevirtual 55, 3) := by decide +kernel
theorem dX7_readShip_49 : decode cX7_readShip 49 = .ok (.invokevirtual 67, 3) := by decide +kernel
theorem dX7_readShip_52 : decode cX7_readShip 52 = .ok (.return_, 1) := by decide +kernel
theorem dX7_readWeather_0 : decode cX7_readWeather 0 = .ok (.aload_n 0, 1) := by decide +kernel
theorem dX7_readWeather_1 : decode cX7_readWeather 1 = .ok (.bipush 119, 2) := by decide +kernel
theorem dX7_readWeather_3 : decode cX7_readWeather 3 = .ok (.invokevirtual 49, 3) := by decide +kernel
theorem dX7_readWeather_6 : decode cX7_readWeather 6 = .ok (.iconst 0, 1) := by decide +kernel
theorem dX7_readWeather_7 : decode cX7_readWeather 7 = .ok (.istore_n 2, 1) := by decide +kernel
theorem dX7_readWeather_8 : decode cX7_readWeather 8 = .ok (.aload_n 0, 1) := by decide +kernel
theorem dX7_readWeather_9 : decode cX7_readWeather 9 = .ok (.getfield 26, 3) := by decide +kernel
theorem dX7_readWeather_12 : decode cX7_readWeather 12 = .ok (.ifCond .eq 45, 3) := by decide +kernel
theorem dX7_readWeather_15 : decode cX7_readWeather 15 = .ok (.iload_n 2, 1) := by decide +kernel
theorem dX7_readWeather_16 : decode cX7_readWeather 16 = .ok (.bipush 30, 2) := by decide +kernel
theorem dX7_readWeather_18 : decode cX7_readWeather 18 = .ok (.if_icmp .ge 39, 3) := by decide +kernel
theorem dX7_readWeather_21 : decode cX7_readWeather 21 = .ok (.iload_n 2, 1) := by decide +kernel
theorem dX7_readWeather_22 : decode cX7_readWeather 22 = .ok (.ifCond .eq 14, 3) := by decide +kernel
theorem dX7_readWeather_25 : decode cX7_readWeather 25 = .ok (.aload_n 0, 1) := by decide +kernel
theorem dX7_readWeather_26 : decode cX7_readWeather 26 = .ok (.getfield 23, 3) := by decide +kernel
theorem dX7_readWeather_29 : decode cX7_readWeather 29 = .ok (.aload_n 0, 1) := by decide +kernel
theorem dX7_readWeather_30 : decode cX7_readWeather 30 = .ok (.getfield 15, 3) := by decide +kernel
theorem dX7_readWeather_33 : decode cX7_readWeather 33 = .ok (.if_icmp .ge 24, 3) := by decide +kernel
theorem dX7_readWeather_36 : decode cX7_readWeather 36 = .ok (.aload_n 1, 1) := by decide +kernel
theorem dX7_readWeather_37 : decode cX7_readWeather 37 = .ok (.getfield 72, 3) := by decide +kernel
theorem dX7_readWeather_40 : decode cX7_readWeather 40 = .ok (.aload_n 0, 1) := by decide +kernel
theorem dX7_readWeather_41 : decode cX7_readWeather 41 = .ok (.iconst 1, 1) := by decide +kernel
theorem dX7_readWeather_42 : decode cX7_readWeather 42 = .ok (.iconst 0, 1) := by decide +kernel
theorem dX7_readWeather_43 : decode cX7_readWeather 43 = .ok (.bipush 9, 2) := by decide +kernel
theorem dX7_readWeather_45 : decode cX7_readWeather 45 = .ok (.invokevirtual 55, 3) := by decide +kernel
theorem dX7_readWeather_48 : decode cX7_readWeather 48 = .ok (.invokevirtual 76, 3) := by decide +kernel
theorem dX7_readWeather_51 : decode cX7_readWeather 51 = .ok (.iinc 2 1, 3) := by decide +kernel
theorem dX7_readWeather_54 : decode cX7_readWeather 54 = .ok (.goto (-46), 3) := by decide +kernel
theorem dX7_readWeather_57 : decode cX7_readWeather 57 = .ok (.aload_n 0, 1) := by decide +kernel
theorem dX7_readWeather_58 : decode cX7_readWeather 58 = .ok (.aload_n 0, 1) := by decide +kernel
theorem dX7_readWeather_59 : decode cX7_readWeather 59 = .ok (.getfield 26, 3) := by decide +kernel
theorem dX7_readWeather_62 : decode cX7_readWeather 62 = .ok (.ifCond .eq 18, 3) := by decide +kernel
theorem dX7_readWeather_65 : decode cX7_readWeather 65 = .ok (.aload_n 0, 1) := by decide +kernel
theorem dX7_readWeather_66 : decode cX7_readWeather 66 = .ok (.getfield 23, 3) := by decide +kernel
theorem dX7_readWeather_69 : decode cX7_readWeather 69 = .ok (.aload_n 0, 1) := by decide +kernel
theorem dX7_readWeather_70 : decode cX7_readWeather 70 = .ok (.getfield 15, 3) := by decide +kernel
theorem dX7_readWeather_73 : decode cX7_readWeather 73 = .ok (.if_icmp .ne 7, 3) := by decide +kernel
theorem dX7_readWeather_76 : decode cX7_readWeather 76 = .ok (.iconst 1, 1) := by decide +kernel
theorem dX7_readWeather_77 : decode cX7_readWeather 77 = .ok (.goto 4, 3) := by decide +kernel
theorem dX7_readWeather_80 : decode cX7_readWeather 80 = .ok (.iconst 0, 1) := by decide +kernel
theorem dX7_readWeather_81 : decode cX7_readWeather 81 = .ok (.putfield 26, 3) := by decide +kernel
theorem dX7_readWeather_84 : decode cX7_readWeather 84 = .ok (.return_, 1) := by decide +kernel
theorem dX7_nextIs_0 : decode cX7_nextIs 0 = .ok (.aload_n 0, 1) := by decide +kernel
theorem dX7_nextIs_1 : decode cX7_nextIs 1 = .ok (.getfield 23, 3) := by decide +kernel
theorem dX7_nextIs_4 : decode cX7_nextIs 4 = .ok (.ifCond .lt 43, 3) := by decide +kernel
theorem dX7_nextIs_7 : decode cX7_nextIs 7 = .ok (.aload_n 0, 1) := by decide +kernel
theorem dX7_nextIs_8 : decode cX7_nextIs 8 = .ok (.getfield 23, 3) := by decide +kernel
theorem dX7_nextIs_11 : decode cX7_nextIs 11 = .ok (.aload_n 0, 1) := by decide +kernel
theorem dX7_nextIs_12 : decode cX7_nextIs 12 = .ok (.getfield 15, 3) := by decide +kernel
theorem dX7_nextIs_15 : decode cX7_nextIs 15 = .ok (.if_icmp .ge 32, 3) := by decide +kernel
theorem dX7_nextIs_18 : decode cX7_nextIs 18 = .ok (.aload_n 0, 1) := by decide +kernel
theorem dX7_nextIs_19 : decode cX7_nextIs 19 = .ok (.getfield 23, 3) := by decide +kernel
theorem dX7_nextIs_22 : decode cX7_nextIs 22 = .ok (.aload_n 0, 1) := by decide +kernel
theorem dX7_nextIs_23 : decode cX7_nextIs 23 = .ok (.getfield 11, 3) := by decide +kernel
theorem dX7_nextIs_26 : decode cX7_nextIs 26 = .ok (.arraylength, 1) := by decide +kernel
theorem dX7_nextIs_27 : decode cX7_nextIs 27 = .ok (.if_icmp .ge 20, 3) := by decide +kernel
theorem dX7_nextIs_30 : decode cX7_nextIs 30 = .ok (.aload_n 0, 1) := by decide +kernel
theorem dX7_nextIs_31 : decode cX7_nextIs 31 = .ok (.getfield 11, 3) := by decide +kernel
theorem dX7_nextIs_34 : decode cX7_nextIs 34 = .ok (.aload_n 0, 1) := by decide +kernel
theorem dX7_nextIs_35 : decode cX7_nextIs 35 = .ok (.getfield 23, 3) := by decide +kernel
theorem dX7_nextIs_38 : decode cX7_nextIs 38 = .ok (.caload, 1) := by decide +kernel
theorem dX7_nextIs_39 : decode cX7_nextIs 39 = .ok (.iload_n 1, 1) := by decide +kernel
theorem dX7_nextIs_40 : decode cX7_nextIs 40 = .ok (.if_icmp .ne 7, 3) := by decide +kernel
theorem dX7_nextIs_43 : decode cX7_nextIs 43 = .ok (.iconst 1, 1) := by decide +kernel
theorem dX7_nextIs_44 : decode cX7_nextIs 44 = .ok (.goto 4, 3) := by decide +kernel
theorem dX7_nextIs_47 : decode cX7_nextIs 47 = .ok (.iconst 0, 1) := by decide +kernel
theorem dX7_nextIs_48 : decode cX7_nextIs 48 = .ok (.ireturn, 1) := by decide +kernel
theorem dX7_readLetter_0 : decode cX7_readLetter 0 = .ok (.aload_n 0, 1) := by decide +kernel
theorem dX7_readLetter_1 : decode cX7_readLetter 1 = .ok (.aload_n 0, 1) := by decide +kernel
theorem dX7_readLetter_2 : decode cX7_readLetter 2 = .ok (.getfield 26, 3) := by decide +kernel
theorem dX7_readLetter_5 : decode cX7_readLetter 5 = .ok (.ifCond .eq 15, 3) := by decide +kernel
theorem dX7_readLetter_8 : decode cX7_readLetter 8 = .ok (.aload_n 0, 1) := by decide +kernel
theorem dX7_readLetter_9 : decode cX7_readLetter 9 = .ok (.iload_n 1, 1) := by decide +kernel
theorem dX7_readLetter_10 : decode cX7_readLetter 10 = .ok (.invokevirtual 36, 3) := by decide +kernel
theorem dX7_readLetter_13 : decode cX7_readLetter 13 = .ok (.ifCond .eq 7, 3) := by decide +kernel
theorem dX7_readLetter_16 : decode cX7_readLetter 16 = .ok (.iconst 1, 1) := by decide +kernel
theorem dX7_readLetter_17 : decode cX7_readLetter 17 = .ok (.goto 4, 3) := by decide +kernel
theorem dX7_readLetter_20 : decode cX7_readLetter 20 = .ok (.iconst 0, 1) := by decide +kernel
theorem dX7_readLetter_21 : decode cX7_readLetter 21 = .ok (.putfield 26, 3) := by decide +kernel
theorem dX7_readLetter_24 : decode cX7_readLetter 24 = .ok (.aload_n 0, 1) := by decide +kernel
theorem dX7_readLetter_25 : decode cX7_readLetter 25 = .ok (.getfield 26, 3) := by decide +kernel
theorem dX7_readLetter_28 : decode cX7_readLetter 28 = .ok (.ifCond .eq 13, 3) := by decide +kernel
theorem dX7_readLetter_31 : decode cX7_readLetter 31 = .ok (.aload_n 0, 1) := by decide +kernel
theorem dX7_readLetter_32 : decode cX7_readLetter 32 = .ok (.dup, 1) := by decide +kernel
theorem dX7_readLetter_33 : decode cX7_readLetter 33 = .ok (.getfield 23, 3) := by decide +kernel
theorem dX7_readLetter_36 : decode cX7_readLetter 36 = .ok (.iconst 1, 1) := by decide +kernel
theorem dX7_readLetter_37 : decode cX7_readLetter 37 = .ok (.iadd, 1) := by decide +kernel
theorem dX7_readLetter_38 : decode cX7_readLetter 38 = .ok (.putfield 23, 3) := by decide +kernel
theorem dX7_readLetter_41 : decode cX7_readLetter 41 = .ok (.return_, 1) := by decide +kernel
theorem dX7_readNumber_0 : decode cX7_readNumber 0 = .ok (.iconst 1, 1) := by decide +kernel
theorem dX7_readNumber_1 : decode cX7_readNumber 1 = .ok (.istore 4, 2) := by decide +kernel
theorem dX7_readNumber_3 : decode cX7_readNumber 3 = .ok (.iconst 0, 1) := by decide +kernel
theorem dX7_readNumber_4 : decode cX7_readNumber 4 = .ok (.istore 5, 2) := by decide +kernel
theorem dX7_readNumber_6 : decode cX7_readNumber 6 = .ok (.iload 5, 2) := by decide +kernel
theorem dX7_readNumber_8 : decode cX7_readNumber 8 = .ok (.iload_n 1, 1) := by decide +kernel
theorem dX7_readNumber_9 : decode cX7_readNumber 9 = .ok (.if_icmp .ge 16, 3) := by decide +kernel
theorem dX7_readNumber_12 : decode cX7_readNumber 12 = .ok (.iload 4, 2) := by decide +kernel
theorem dX7_readNumber_14 : decode cX7_readNumber 14 = .ok (.bipush 10, 2) := by decide +kernel
theorem dX7_readNumber_16 : decode cX7_readNumber 16 = .ok (.imul, 1) := by decide +kernel
theorem dX7_readNumber_17 : decode cX7_readNumber 17 = .ok (.istore 4, 2) := by decide +kernel
theorem dX7_readNumber_19 : decode cX7_readNumber 19 = .ok (.iinc 5 1, 3) := by decide +kernel
theorem dX7_readNumber_22 : decode cX7_readNumber 22 = .ok (.goto (-16), 3) := by decide +kernel
theorem dX7_readNumber_25 : decode cX7_readNumber 25 = .ok (.iconst 0, 1) := by decide +kernel
theorem dX7_readNumber_26 : decode cX7_readNumber 26 = .ok (.istore 5, 2) := by decide +kernel
theorem dX7_readNumber_28 : decode cX7_readNumber 28 = .ok (.iconst 0, 1) := by decide +kernel
theorem dX7_readNumber_29 : decode cX7_readNumber 29 = .ok (.istore 6, 2) := by decide +kernel
theorem dX7_readNumber_31 : decode cX7_readNumber 31 = .ok (.iload 6, 2) := by decide +kernel
theorem dX7_readNumber_33 : decode cX7_readNumber 33 = .ok (.iload_n 1, 1) := by decide +kernel
theorem dX7_readNumber_34 : decode cX7_readNumber 34 = .ok (.if_icmp .ge 100, 3) := by decide +kernel
theorem dX7_readNumber_37 : decode cX7_readNumber 37 = .ok (.aload_n 0, 1) := by decide +kernel
theorem dX7_readNumber_38 : decode cX7_readNumber 38 = .ok (.getfield 26, 3) := by decide +kernel
theorem dX7_readNumber_41 : decode cX7_readNumber 41 = .ok (.ifCond .eq 93, 3) := by decide +kernel
theorem dX7_readNumber_44 : decode cX7_readNumber 44 = .ok (.aload_n 0, 1) := by decide +kernel
theorem dX7_readNumber_45 : decode cX7_readNumber 45 = .ok (.invokevirtual 80, 3) := by decide +kernel
theorem dX7_readNumber_48 : decode cX7_readNumber 48 = .ok (.istore 7, 2) := by decide +kernel
theorem dX7_readNumber_50 : decode cX7_readNumber 50 = .ok (.iload 4, 2) := by decide +kernel
theorem dX7_readNumber_52 : decode cX7_readNumber 52 = .ok (.bipush 10, 2) := by decide +kernel
theorem dX7_readNumber_54 : decode cX7_readNumber 54 = .ok (.idiv, 1) := by decide +kernel
theorem dX7_readNumber_55 : decode cX7_readNumber 55 = .ok (.istore 4, 2) := by decide +kernel
theorem dX7_readNumber_57 : decode cX7_readNumber 57 = .ok (.iload 5, 2) := by decide +kernel
theorem dX7_readNumber_59 : decode cX7_readNumber 59 = .ok (.bipush 10, 2) := by decide +kernel
theorem dX7_readNumber_61 : decode cX7_readNumber 61 = .ok (.imul, 1) := by decide +kernel
theorem dX7_readNumber_62 : decode cX7_readNumber 62 = .ok (.iload 7, 2) := by decide +kernel
theorem dX7_readNumber_64 : decode cX7_readNumber 64 = .ok (.iadd, 1) := by decide +kernel
theorem dX7_readNumber_65 : decode cX7_readNumber 65 = .ok (.iload 4, 2) := by decide +kernel
theorem dX7_readNumber_67 : decode cX7_readNumber 67 = .ok (.imul, 1) := by decide +kernel
theorem dX7_readNumber_68 : decode cX7_readNumber 68 = .ok (.istore 8, 2) := by decide +kernel
theorem dX7_readNumber_70 : decode cX7_readNumber 70 = .ok (.aload_n 0, 1) := by decide +kernel
theorem dX7_readNumber_71 : decode cX7_readNumber 71 = .ok (.iload 7, 2) := by decide +kernel
theorem dX7_readNumber_73 : decode cX7_readNumber 73 = .ok (.ifCond .lt 24, 3) := by decide +kernel
theorem dX7_readNumber_76 : decode cX7_readNumber 76 = .ok (.iload 8, 2) := by decide +kernel
theorem dX7_readNumber_78 : decode cX7_readNumber 78 = .ok (.iload_n 3, 1) := by decide +kernel
theorem dX7_readNumber_79 : decode cX7_readNumber 79 = .ok (.if_icmp .gt 18, 3) := by decide +kernel
theorem dX7_readNumber_82 : decode cX7_readNumber 82 = .ok (.iload 8, 2) := by decide +kernel
theorem dX7_readNumber_84 : decode cX7_readNumber 84 = .ok (.iload 4, 2) := by decide +kernel
theorem dX7_readNumber_86 : decode cX7_readNumber 86 = .ok (.iadd, 1) := by decide +kernel
theorem dX7_readNumber_87 : decode cX7_readNumber 87 = .ok (.iconst 1, 1) := by decide +kernel
theorem dX7_readNumber_88 : decode cX7_readNumber 88 = .ok (.isub, 1) := by decide +kernel
theorem dX7_readNumber_89 : decode cX7_readNumber 89 = .ok (.iload_n 2, 1) := by decide +kernel
theorem dX7_readNumber_90 : decode cX7_readNumber 90 = .ok (.if_icmp .lt 7, 3) := by decide +kernel
theorem dX7_readNumber_93 : decode cX7_readNumber 93 = .ok (.iconst 1, 1) := by decide +kernel
theorem dX7_readNumber_94 : decode cX7_readNumber 94 = .ok (.goto 4, 3) := by decide +kernel
theorem dX7_readNumber_97 : decode cX7_readNumber 97 = .ok (.iconst 0, 1) := by decide +kernel
theorem dX7_readNumber_98 : decode cX7_readNumber 98 = .ok (.putfield 26, 3) := by decide +kernel
theorem dX7_readNumber_101 : decode cX7_readNumber 101 = .ok (.aload_n 0, 1) := by decide +kernel
theorem dX7_readNumber_102 : decode cX7_readNumber 102 = .ok (.getfield 26, 3) := by decide +kernel
theorem dX7_readNumber_105 : decode cX7_readNumber 105 = .ok (.ifCond .eq 23, 3) := by decide +kernel
theorem dX7_readNumber_108 : decode cX7_readNumber 108 = .ok (.iload 5, 2) := by decide +kernel
theorem dX7_readNumber_110 : decode cX7_readNumber 110 = .ok (.bipush 10, 2) := by decide +kernel
theorem dX7_readNumber_112 : decode cX7_readNumber 112 = .ok (.imul, 1) := by decide +kernel
theorem dX7_readNumber_113 : decode cX7_readNumber 113 = .ok (.iload 7, 2) := by decide +kernel
theorem dX7_readNumber_115 : decode cX7_readNumber 115 = .ok (.iadd, 1) := by decide +kernel
theorem dX7_readNumber_116 : decode cX7_readNumber 116 = .ok (.istore 5, 2) := by decide +kernel
theorem dX7_readNumber_118 : decode cX7_readNumber 118 = .ok (.aload_n 0, 1) := by decide +kernel
theorem dX7_readNumber_119 : decode cX7_readNumber 119 = .ok (.dup, 1) := by decide +kernel
theorem dX7_readNumber_120 : decode cX7_readNumber 120 = .ok (.getfield 23, 3) := by decide +kernel
theorem dX7_readNumber_123 : decode cX7_readNumber 123 = .ok (.iconst 1, 1) := by decide +kernel
theorem dX7_readNumber_124 : decode cX7_readNumber 124 = .ok (.iadd, 1) := by decide +kernel
theorem dX7_readNumber_125 : decode cX7_readNumber 125 = .ok (.putfield 23, 3) := by decide +kernel
theorem dX7_readNumber_128 : decode cX7_readNumber 128 = .ok (.iinc 6 1, 3) := by decide +kernel
theorem dX7_readNumber_131 : decode cX7_readNumber 131 = .ok (.goto (-100), 3) := by decide +kernel
theorem dX7_readNumber_134 : decode cX7_readNumber 134 = .ok (.iload 5, 2) := by decide +kernel
theorem dX7_readNumber_136 : decode cX7_readNumber 136 = .ok (.ireturn, 1) := by decide +kernel
theorem dX7_nextDigit_0 : decode cX7_nextDigit 0 = .ok (.aload_n 0, 1) := by decide +kernel
theorem dX7_nextDigit_1 : decode cX7_nextDigit 1 = .ok (.getfield 23, 3) := by decide +kernel
theorem dX7_nextDigit_4 : decode cX7_nextDigit 4 = .ok (.ifCond .lt 26, 3) := by decide +kernel
theorem dX7_nextDigit_7 : decode cX7_nextDigit 7 = .ok (.aload_n 0, 1) := by decide +kernel
theorem dX7_nextDigit_8 : decode cX7_nextDigit 8 = .ok (.getfield 23, 3) := by decide +kernel
theorem dX7_nextDigit_11 : decode cX7_nextDigit 11 = .ok (.aload_n 0, 1) := by decide +kernel
theorem dX7_nextDigit_12 : decode cX7_nextDigit 12 = .ok (.getfield 15, 3) := by decide +kernel
theorem dX7_nextDigit_15 : decode cX7_nextDigit 15 = .ok (.if_icmp .ge 15, 3) := by decide +kernel
theorem dX7_nextDigit_18 : decode cX7_nextDigit 18 = .ok (.aload_n 0, 1) := by decide +kernel
theorem dX7_nextDigit_19 : decode cX7_nextDigit 19 = .ok (.getfield 23, 3) := by decide +kernel
theorem dX7_nextDigit_22 : decode cX7_nextDigit 22 = .ok (.aload_n 0, 1) := by decide +kernel
theorem dX7_nextDigit_23 : decode cX7_nextDigit 23 = .ok (.getfield 11, 3) := by decide +kernel
theorem dX7_nextDigit_26 : decode cX7_nextDigit 26 = .ok (.arraylength, 1) := by decide +kernel
theorem dX7_nextDigit_27 : decode cX7_nextDigit 27 = .ok (.if_icmp .lt 6, 3) := by decide +kernel
theorem dX7_nextDigit_30 : decode cX7_nextDigit 30 = .ok (.bipush (-9), 2) := by decide +kernel
theorem dX7_nextDigit_32 : decode cX7_nextDigit 32 = .ok (.ireturn, 1) := by decide +kernel
theorem dX7_nextDigit_33 : decode cX7_nextDigit 33 = .ok (.aload_n 0, 1) := by decide +kernel
theorem dX7_nextDigit_34 : decode cX7_nextDigit 34 = .ok (.getfield 11, 3) := by decide +kernel
theorem dX7_nextDigit_37 : decode cX7_nextDigit 37 = .ok (.aload_n 0, 1) := by decide +kernel
theorem dX7_nextDigit_38 : decode cX7_nextDigit 38 = .ok (.getfield 23, 3) := by decide +kernel
theorem dX7_nextDigit_41 : decode cX7_nextDigit 41 = .ok (.caload, 1) := by decide +kernel
theorem dX7_nextDigit_42 : decode cX7_nextDigit 42 = .ok (.istore_n 1, 1) := by decide +kernel
theorem dX7_nextDigit_43 : decode cX7_nextDigit 43 = .ok (.iload_n 1, 1) := by decide +kernel
theorem dX7_nextDigit_44 : decode cX7_nextDigit 44 = .ok (.bipush 48, 2) := by decide +kernel
theorem dX7_nextDigit_46 : decode cX7_nextDigit 46 = .ok (.if_icmp .lt 16, 3) := by decide +kernel
theorem dX7_nextDigit_49 : decode cX7_nextDigit 49 = .ok (.iload_n 1, 1) := by decide +kernel
theorem dX7_nextDigit_50 : decode cX7_nextDigit 50 = .ok (.bipush 57, 2) := by decide +kernel
theorem dX7_nextDigit_52 : decode cX7_nextDigit 52 = .ok (.if_icmp .gt 10, 3) := by decide +kernel
theorem dX7_nextDigit_55 : decode cX7_nextDigit 55 = .ok (.iload_n 1, 1) := by decide +kernel
theorem dX7_nextDigit_56 : decode cX7_nextDigit 56 = .ok (.bipush 48, 2) := by decide +kernel
theorem dX7_nextDigit_58 : decode cX7_nextDigit 58 = .ok (.isub, 1) := by decide +kernel
theorem dX7_nextDigit_59 : decode cX7_nextDigit 59 = .ok (.goto 5, 3) := by decide +kernel
theorem dX7_nextDigit_62 : decode cX7_nextDigit 62 = .ok (.bipush (-9), 2) := by decide +kernel
theorem dX7_nextDigit_64 : decode cX7_nextDigit 64 = .ok (.ireturn, 1) := by decide +kernel
theorem dX8_init_0 : decode cX8_init 0 = .ok (.aload_n 0, 1) := by decide +kernel
theorem dX8_init_1 : decode cX8_init 1 = .ok (.invokespecial 3, 3) := by decide +kernel
theorem dX8_init_4 : decode cX8_init 4 = .ok (.aload_n 0, 1) := by decide +kernel
theorem dX8_init_5 : decode cX8_init 5 = .ok (.bipush 30, 2) := by decide +kernel
theorem dX8_init_7 : decode cX8_init 7 = .ok (.newarray .int, 2) := by decide +kernel
theorem dX8_init_9 : decode cX8_init 9 = .ok (.putfield 11, 3) := by decide +kernel
theorem dX8_init_12 : decode cX8_init 12 = .ok (.return_, 1) := by decide +kernel
theorem dX8_copyFrom_0 : decode cX8_copyFrom 0 = .ok (.aload_n 0, 1) := by decide +kernel
theorem dX8_copyFrom_1 : decode cX8_copyFrom 1 = .ok (.aload_n 1, 1) := by decide +kernel
theorem dX8_copyFrom_2 : decode cX8_copyFrom 2 = .ok (.getfield 15, 3) := by decide +kernel
theorem dX8_copyFrom_5 : decode cX8_copyFrom 5 = .ok (.putfield 15, 3) := by decide +kernel
theorem dX8_copyFrom_8 : decode cX8_copyFrom 8 = .ok (.iconst 0, 1) := by decide +kernel
theorem dX8_copyFrom_9 : decode cX8_copyFrom 9 = .ok (.istore_n 2, 1) := by decide +kernel
theorem dX8_copyFrom_10 : decode cX8_copyFrom 10 = .ok (.iload_n 2, 1) := by decide +kernel
theorem dX8_copyFrom_11 : decode cX8_copyFrom 11 = .ok (.aload_n 0, 1) := by decide +kernel
theorem dX8_copyFrom_12 : decode cX8_copyFrom 12 = .ok (.getfield 11, 3) := by decide +kernel
theorem dX8_copyFrom_15 : decode cX8_copyFrom 15 = .ok (.arraylength, 1) := by decide +kernel
theorem dX8_copyFrom_16 : decode cX8_copyFrom 16 = .ok (.if_icmp .ge 30, 3) := by decide +kernel
theorem dX8_copyFrom_19 : decode cX8_copyFrom 19 = .ok (.iload_n 2, 1) := by decide +kernel
theorem dX8_copyFrom_20 : decode cX8_copyFrom 20 = .ok (.aload_n 1, 1) := by decide +kernel
theorem dX8_copyFrom_21 : decode cX8_copyFrom 21 = .ok (.getfield 11, 3) := by decide +kernel
theorem dX8_copyFrom_24 : decode cX8_copyFrom 24 = .ok (.arraylength, 1) := by decide +kernel
theorem dX8_copyFrom_25 : decode cX8_copyFrom 25 = .ok (.if_icmp .ge 21, 3) := by decide +kernel
theorem dX8_copyFrom_28 : decode cX8_copyFrom 28 = .ok (.aload_n 0, 1) := by decide +kernel
theorem dX8_copyFrom_29 : decode cX8_copyFrom 29 = .ok (.getfield 11, 3) := by decide +kernel
theorem dX8_copyFrom_32 : decode cX8_copyFrom 32 = .ok (.iload_n 2, 1) := by decide +kernel
theorem dX8_copyFrom_33 : decode cX8_copyFrom 33 = .ok (.aload_n 1, 1) := by decide +kernel
theorem dX8_copyFrom_34 : decode cX8_copyFrom 34 = .ok (.getfield 11, 3) := by decide +kernel
theorem dX8_copyFrom_37 : decode cX8_copyFrom 37 = .ok (.iload_n 2, 1) := by decide +kernel
theorem dX8_copyFrom_38 : decode cX8_copyFrom 38 = .ok (.iaload, 1) := by decide +kernel
theorem dX8_copyFrom_39 : decode cX8_copyFrom 39 = .ok (.iastore, 1) := by decide +kernel
theorem dX8_copyFrom_40 : decode cX8_copyFrom 40 = .ok (.iinc 2 1, 3) := by decide +kernel
theorem dX8_copyFrom_43 : decode cX8_copyFrom 43 = .ok (.goto (-33), 3) := by decide +kernel
theorem dX8_copyFrom_46 : decode cX8_copyFrom 46 = .ok (.return_, 1) := by decide +kernel
theorem dX8_add_0 : decode cX8_add 0 = .ok (.aload_n 0, 1) := by decide +kernel
theorem dX8_add_1 : decode cX8_add 1 = .ok (.getfield 15, 3) := by decide +kernel
theorem dX8_add_4 : decode cX8_add 4 = .ok (.ifCond .lt 35, 3) := by decide +kernel
theorem dX8_add_7 : decode cX8_add 7 = .ok (.aload_n 0, 1) := by decide +kernel
theorem dX8_add_8 : decode cX8_add 8 = .ok (.getfield 15, 3) := by decide +kernel
theorem dX8_add_11 : decode cX8_add 11 = .ok (.aload_n 0, 1) := by decide +kernel
theorem dX8_add_12 : decode cX8_add 12 = .ok (.getfield 11, 3) := by decide +kernel
theorem dX8_add_15 : decode cX8_add 15 = .ok (.arraylength, 1) := by decide +kernel
theorem dX8_add_16 : decode cX8_add 16 = .ok (.if_icmp .ge 23, 3) := by decide +kernel
theorem dX8_add_19 : decode cX8_add 19 = .ok (.aload_n 0, 1) := by decide +kernel
theorem dX8_add_20 : decode cX8_add 20 = .ok (.getfield 11, 3) := by decide +kernel
theorem dX8_add_23 : decode cX8_add 23 = .ok (.aload_n 0, 1) := by decide +kernel
theorem dX8_add_24 : decode cX8_add 24 = .ok (.getfield 15, 3) := by decide +kernel
theorem dX8_add_27 : decode cX8_add 27 = .ok (.iload_n 1, 1) := by decide +kernel
theorem dX8_add_28 : decode cX8_add 28 = .ok (.iastore, 1) := by decide +kernel
theorem dX8_add_29 : decode cX8_add 29 = .ok (.aload_n 0, 1) := by decide +kernel
theorem dX8_add_30 : decode cX8_add 30 = .ok (.dup, 1) := by decide +kernel
theorem dX8_add_31 : decode cX8_add 31 = .ok (.getfield 15, 3) := by decide +kernel
theorem dX8_add_34 : decode cX8_add 34 = .ok (.iconst 1, 1) := by decide +kernel
theorem dX8_add_35 : decode cX8_add 35 = .ok (.iadd, 1) := by decide +kernel
theorem dX8_add_36 : decode cX8_add 36 = .ok (.putfield 15, 3) := by decide +kernel
theorem dX8_add_39 : decode cX8_add 39 = .ok (.return_, 1) := by decide +kernel
theorem dX8_on_0 : decode cX8_on 0 = .ok (.iload_n 1, 1) := by decide +kernel
theorem dX8_on_1 : decode cX8_on 1 = .ok (.ifCond .lt 10, 3) := by decide +kernel
theorem dX8_on_4 : decode cX8_on 4 = .ok (.aload_n 0, 1) := by decide +kernel
theorem dX8_on_5 : decode cX8_on 5 = .ok (.getfield 15, 3) := by decide +kernel
theorem dX8_on_8 : decode cX8_on 8 = .ok (.ifCond .gt 5, 3) := by decide +kernel
theorem dX8_on_11 : decode cX8_on 11 = .ok (.iconst 0, 1) := by decide +kernel
theorem dX8_on_12 : decode cX8_on 12 = .ok (.ireturn, 1) := by decide +kernel
theorem dX8_on_13 : decode cX8_on 13 = .ok (.iload_n 1, 1) := by decide +kernel
theorem dX8_on_14 : decode cX8_on 14 = .ok (.aload_n 0, 1) := by decide +kernel
theorem dX8_on_15 : decode cX8_on 15 = .ok (.getfield 15, 3) := by decide +kernel
theorem dX8_on_18 : decode cX8_on 18 = .ok (.irem, 1) := by decide +kernel
theorem dX8_on_19 : decode cX8_on 19 = .ok (.istore_n 2, 1) := by decide +kernel
theorem dX8_on_20 : decode cX8_on 20 = .ok (.iload_n 2, 1) := by decide +kernel
theorem dX8_on_21 : decode cX8_on 21 = .ok (.aload_n 0, 1) := by decide +kernel
theorem dX8_on_22 : decode cX8_on 22 = .ok (.getfield 11, 3) := by decide +kernel
theorem dX8_on_25 : decode cX8_on 25 = .ok (.arraylength, 1) := by decide +kernel
theorem dX8_on_26 : decode cX8_on 26 = .ok (.if_icmp .ge 12, 3) := by decide +kernel
theorem dX8_on_29 : decode cX8_on 29 = .ok (.aload_n 0, 1) := by decide +kernel
theorem dX8_on_30 : decode cX8_on 30 = .ok (.getfield 11, 3) := by decide +kernel
theorem dX8_on_33 : decode cX8_on 33 = .ok (.iload_n 2, 1) := by decide +kernel
theorem dX8_on_34 : decode cX8_on 34 = .ok (.iaload, 1) := by decide +kernel
theorem dX8_on_35 : decode cX8_on 35 = .ok (.goto 4, 3) := by decide +kernel
theorem dX8_on_38 : decode cX8_on 38 = .ok (.iconst 0, 1) := by decide +kernel
theorem dX8_on_39 : decode cX8_on 39 = .ok (.ireturn, 1) := by decide +kernel
theorem dX8_change_0 : decode cX8_change 0 = .ok (.iload_n 1, 1) := by decide +kernel
theorem dX8_change_1 : decode cX8_change 1 = .ok (.ifCond .lt 20, 3) := by decide +kernel
theorem dX8_change_4 : decode cX8_change 4 = .ok (.iload_n 1, 1) := by decide +kernel
theorem dX8_change_5 : decode cX8_change 5 = .ok (.aload_n 0, 1) := by decide +kernel
theorem dX8_change_6 : decode cX8_change 6 = .ok (.getfield 15, 3) := by decide +kernel
theorem dX8_change_9 : decode cX8_change 9 = .ok (.if_icmp .ge 12, 3) := by decide +kernel
theorem dX8_change_12 : decode cX8_change 12 = .ok (.iload_n 1, 1) := by decide +kernel
theorem dX8_change_13 : decode cX8_change 13 = .ok (.aload_n 0, 1) := by decide +kernel
theorem dX8_change_14 : decode cX8_change 14 = .ok (.getfield 11, 3) := by decide +kernel
theorem dX8_change_17 : decode cX8_change 17 = .ok (.arraylength, 1) := by decide +kernel
theorem dX8_change_18 : decode cX8_change 18 = .ok (.if_icmp .lt 6, 3) := by decide +kernel
theorem dX8_change_21 : decode cX8_change 21 = .ok (.bipush (-9), 2) := by decide +kernel
theorem dX8_change_23 : decode cX8_change 23 = .ok (.ireturn, 1) := by decide +kernel
theorem dX8_change_24 : decode cX8_change 24 = .ok (.aload_n 0, 1) := by decide +kernel
theorem dX8_change_25 : decode cX8_change 25 = .ok (.getfield 11, 3) := by decide +kernel
theorem dX8_change_28 : decode cX8_change 28 = .ok (.iload_n 1, 1) := by decide +kernel
theorem dX8_change_29 : decode cX8_change 29 = .ok (.iaload, 1) := by decide +kernel
theorem dX8_change_30 : decode cX8_change 30 = .ok (.istore_n 3, 1) := by decide +kernel
theorem dX8_change_31 : decode cX8_change 31 = .ok (.aload_n 0, 1) := by decide +kernel
theorem dX8_change_32 : decode cX8_change 32 = .ok (.getfield 11, 3) := by decide +kernel
theorem dX8_change_35 : decode cX8_change 35 = .ok (.iload_n 1, 1) := by decide +kernel
theorem dX8_change_36 : decode cX8_change 36 = .ok (.iload_n 2, 1) := by decide +kernel
theorem dX8_change_37 : decode cX8_change 37 = .ok (.iastore, 1) := by decide +kernel
theorem dX8_change_38 : decode cX8_change 38 = .ok (.iload_n 3, 1) := by decide +kernel
theorem dX8_change_39 : decode cX8_change 39 = .ok (.ireturn, 1) := by decide +kernel
theorem dX9_init_0 : decode cX9_init 0 = .ok (.aload_n 0, 1) := by decide +kernel
theorem dX9_init_1 : decode cX9_init 1 = .ok (.invokespecial 1, 3) := by decide +kernel
theorem dX9_init_4 : decode cX9_init 4 = .ok (.return_, 1) := by decide +kernel
theorem dX9_copyFrom_0 : decode cX9_copyFrom 0 = .ok (.aload_n 0, 1) := by decide +kernel
theorem dX9_copyFrom_1 : decode cX9_copyFrom 1 = .ok (.aload_n 1, 1) := by decide +kernel
theorem dX9_copyFrom_2 : decode cX9_copyFrom 2 = .ok (.getfield 7, 3) := by decide +kernel
theorem dX9_copyFrom_5 : decode cX9_copyFrom 5 = .ok (.putfield 7, 3) := by decide +kernel
theorem dX9_copyFrom_8 : decode cX9_copyFrom 8 = .ok (.aload_n 0, 1) := by decide +kernel
theorem dX9_copyFrom_9 : decode cX9_copyFrom 9 = .ok (.aload_n 1, 1) := by decide +kernel
theorem dX9_copyFrom_10 : decode cX9_copyFrom 10 = .ok (.getfield 13, 3) := by decide +kernel
theorem dX9_copyFrom_13 : decode cX9_copyFrom 13 = .ok (.putfield 13, 3) := by decide +kernel
theorem dX9_copyFrom_16 : decode cX9_copyFrom 16 = .ok (.aload_n 0, 1) := by decide +kernel
theorem dX9_copyFrom_17 : decode cX9_copyFrom 17 = .ok (.aload_n 1, 1) := by decide +kernel
theorem dX9_copyFrom_18 : decode cX9_copyFrom 18 = .ok (.getfield 16, 3) := by decide +kernel
theorem dX9_copyFrom_21 : decode cX9_copyFrom 21 = .ok (.putfield 16, 3) := by decide +kernel
theorem dX9_copyFrom_24 : decode cX9_copyFrom 24 = .ok (.aload_n 0, 1) := by decide +kernel
theorem dX9_copyFrom_25 : decode cX9_copyFrom 25 = .ok (.aload_n 1, 1) := by decide +kernel
theorem dX9_copyFrom_26 : decode cX9_copyFrom 26 = .ok (.getfield 19, 3) := by decide +kernel
theorem dX9_copyFrom_29 : decode cX9_copyFrom 29 = .ok (.putfield 19, 3) := by decide +kernel
theorem dX9_copyFrom_32 : decode cX9_copyFrom 32 = .ok (.return_, 1) := by decide +kernel
theorem dX9_cableFor_0 : decode cX9_cableFor 0 = .ok (.iload_n 1, 1) := by decide +kernel
theorem dX9_cableFor_1 : decode cX9_cableFor 1 = .ok (.iload_n 1, 1) := by decide +kernel
theorem dX9_cableFor_2 : decode cX9_cableFor 2 = .ok (.aload_n 0, 1) := by decide +kernel
theorem dX9_cableFor_3 : decode cX9_cableFor 3 = .ok (.getfield 19, 3) := by decide +kernel
theorem dX9_cableFor_6 : decode cX9_cableFor 6 = .ok (.imul, 1) := by decide +kernel
theorem dX9_cableFor_7 : decode cX9_cableFor 7 = .ok (.bipush 99, 2) := by decide +kernel
theorem dX9_cableFor_9 : decode cX9_cableFor 9 = .ok (.iadd, 1) := by decide +kernel
theorem dX9_cableFor_10 : decode cX9_cableFor 10 = .ok (.bipush 100, 2) := by decide +kernel
theorem dX9_cableFor_12 : decode cX9_cableFor 12 = .ok (.idiv, 1) := by decide +kernel
theorem dX9_cableFor_13 : decode cX9_cableFor 13 = .ok (.iadd, 1) := by decide +kernel
theorem dX9_cableFor_14 : decode cX9_cableFor 14 = .ok (.ireturn, 1) := by decide +kernel
theorem dX9_mostUnits_0 : decode cX9_mostUnits 0 = .ok (.bipush 100, 2) := by decide +kernel
theorem dX9_mostUnits_2 : decode cX9_mostUnits 2 = .ok (.aload_n 0, 1) := by decide +kernel
theorem dX9_mostUnits_3 : decode cX9_mostUnits 3 = .ok (.getfield 19, 3) := by decide +kernel
theorem dX9_mostUnits_6 : decode cX9_mostUnits 6 = .ok (.iadd, 1) := by decide +kernel
theorem dX9_mostUnits_7 : decode cX9_mostUnits 7 = .ok (.istore_n 3, 1) := by decide +kernel
theorem dX9_mostUnits_8 : decode cX9_mostUnits 8 = .ok (.iload_n 3, 1) := by decide +kernel
theorem dX9_mostUnits_9 : decode cX9_mostUnits 9 = .ok (.ifCond .le 16, 3) := by decide +kernel
theorem dX9_mostUnits_12 : decode cX9_mostUnits 12 = .ok (.iload_n 1, 1) := by decide +kernel
theorem dX9_mostUnits_13 : decode cX9_mostUnits 13 = .ok (.bipush 100, 2) := by decide +kernel
theorem dX9_mostUnits_15 : decode cX9_mostUnits 15 = .ok (.iload_n 2, 1) := by decide +kernel
theorem dX9_mostUnits_16 : decode cX9_mostUnits 16 = .ok (.imul, 1) := by decide +kernel
theorem dX9_mostUnits_17 : decode cX9_mostUnits 17 = .ok (.iload_n 3, 1) := by decide +kernel
theorem dX9_mostUnits_18 : decode cX9_mostUnits 18 = .ok (.idiv, 1) := by decide +kernel
theorem dX9_mostUnits_19 : decode cX9_mostUnits 19 = .ok (.invokestatic 22, 3) := by decide +kernel
theorem dX9_mostUnits_22 : decode cX9_mostUnits 22 = .ok (.goto 4, 3) := by decide +kernel
theorem dX9_mostUnits_25 : decode cX9_mostUnits 25 = .ok (.iconst 0, 1) := by decide +kernel
theorem dX9_mostUnits_26 : decode cX9_mostUnits 26 = .ok (.ireturn, 1) := by decide +kernel
end
section
theorem dX10_init_0 : decode cX10_init 0 = .ok (.aload_n 0, 1) := by decide +kernel
theorem dX10_init_1 : decode cX10_init 1 = .ok (.invokespecial 1, 3) := by decide +kernel
theorem dX10_init_4 : decode cX10_init 4 = .ok (.aload_n 0, 1) := by decide +kernel
theorem dX10_init_5 : decode cX10_init 5 = .ok (.new 7, 3) := by decide +kernel
theorem dX10_init_8 : decode cX10_init 8 = .ok (.dup, 1) := by decide +kernel
theorem dX10_init_9 : decode cX10_init 9 = .ok (.invokespecial 9, 3) := by decide +kernel
theorem dX10_init_12 : decode cX10_init 12 = .ok (.putfield 10, 3) := by decide +kernel
theorem dX10_init_15 : decode cX10_init 15 = .ok (.aload_n 0, 1) := by decide +kernel
theorem dX10_init_16 : decode cX10_init 16 = .ok (.new 16, 3) := by decide +kernel
theorem dX10_init_19 : decode cX10_init 19 = .ok (.dup, 1) := by decide +kernel
theorem dX10_init_20 : decode cX10_init 20 = .ok (.invokespecial 18, 3) := by decide +kernel
theorem dX10_init_23 : decode cX10_init 23 = .ok (.putfield 19, 3) := by decide +kernel
theorem dX10_init_26 : decode cX10_init 26 = .ok (.aload_n 0, 1) := by decide +kernel
theorem dX10_init_27 : decode cX10_init 27 = .ok (.new 16, 3) := by decide +kernel
theorem dX10_init_30 : decode cX10_init 30 = .ok (.dup, 1) := by decide +kernel
theorem dX10_init_31 : decode cX10_init 31 = .ok (.invokespecial 18, 3) := by decide +kernel
theorem dX10_init_34 : decode cX10_init 34 = .ok (.putfield 23, 3) := by decide +kernel
theorem dX10_init_37 : decode cX10_init 37 = .ok (.aload_n 0, 1) := by decide +kernel
theorem dX10_init_38 : decode cX10_init 38 = .ok (.new 26, 3) := by decide +kernel
theorem dX10_init_41 : decode cX10_init 41 = .ok (.dup, 1) := by decide +kernel
theorem dX10_init_42 : decode cX10_init 42 = .ok (.invokespecial 28, 3) := by decide +kernel
theorem dX10_init_45 : decode cX10_init 45 = .ok (.putfield 29, 3) := by decide +kernel
theorem dX10_init_48 : decode cX10_init 48 = .ok (.aload_n 0, 1) := by decide +kernel
theorem dX10_init_49 : decode cX10_init 49 = .ok (.iconst 2, 1) := by decide +kernel
theorem dX10_init_50 : decode cX10_init 50 = .ok (.anewarray 33, 3) := by decide +kernel
theorem dX10_init_53 : decode cX10_init 53 = .ok (.putfield 35, 3) := by decide +kernel
theorem dX10_init_56 : decode cX10_init 56 = .ok (.iconst 0, 1) := by decide +kernel
theorem dX10_init_57 : decode cX10_init 57 = .ok (.istore_n 1, 1) := by decide +kernel
theorem dX10_init_58 : decode cX10_init 58 = .ok (.iload_n 1, 1) := by decide +kernel
theorem dX10_init_59 : decode cX10_init 59 = .ok (.aload_n 0, 1) := by decide +kernel
theorem dX10_init_60 : decode cX10_init 60 = .ok (.getfield 35, 3) := by decide +kernel
theorem dX10_init_63 : decode cX10_init 63 = .ok (.arraylength, 1) := by decide +kernel
theorem dX10_init_64 : decode cX10_init 64 = .ok (.if_icmp .ge 22, 3) := by decide +kernel
theorem dX10_init_67 : decode cX10_init 67 = .ok (.aload_n 0, 1) := by decide +kernel
theorem dX10_init_68 : decode cX10_init 68 = .ok (.getfield 35, 3) := by decide +kernel
theorem dX10_init_71 : decode cX10_init 71 = .ok (.iload_n 1, 1) := by decide +kernel
theorem dX10_init_72 : decode cX10_init 72 = .ok (.new 33, 3) := by decide +kernel
theorem dX10_init_75 : decode cX10_init 75 = .ok (.dup, 1) := by decide +kernel
theorem dX10_init_76 : decode cX10_init 76 = .ok (.invokespecial 39, 3) := by decide +kernel
theorem dX10_init_79 : decode cX10_init 79 = .ok (.aastore, 1) := by decide +kernel
theorem dX10_init_80 : decode cX10_init 80 = .ok (.iinc 1 1, 3) := by decide +kernel
theorem dX10_init_83 : decode cX10_init 83 = .ok (.goto (-25), 3) := by decide +kernel
theorem dX10_init_86 : decode cX10_init 86 = .ok (.aload_n 0, 1) := by decide +kernel
theorem dX10_init_87 : decode cX10_init 87 = .ok (.getfield 19, 3) := by decide +kernel
theorem dX10_init_90 : decode cX10_init 90 = .ok (.iconst 1, 1) := by decide +kernel
theorem dX10_init_91 : decode cX10_init 91 = .ok (.iconst 2, 1) := by decide +kernel
theorem dX10_init_92 : decode cX10_init 92 = .ok (.sipush 200, 3) := by decide +kernel
theorem dX10_init_95 : decode cX10_init 95 = .ok (.invokevirtual 40, 3) := by decide +kernel
theorem dX10_init_98 : decode cX10_init 98 = .ok (.aload_n 0, 1) := by decide +kernel
theorem dX10_init_99 : decode cX10_init 99 = .ok (.getfield 19, 3) := by decide +kernel
theorem dX10_init_102 : decode cX10_init 102 = .ok (.bipush 50, 2) := by decide +kernel
theorem dX10_init_104 : decode cX10_init 104 = .ok (.iconst 0, 1) := by decide +kernel
theorem dX10_init_105 : decode cX10_init 105 = .ok (.bipush 99, 2) := by decide +kernel
theorem dX10_init_107 : decode cX10_init 107 = .ok (.iconst 5, 1) := by decide +kernel
theorem dX10_init_108 : decode cX10_init 108 = .ok (.invokevirtual 44, 3) := by decide +kernel
theorem dX10_init_111 : decode cX10_init 111 = .ok (.aload_n 0, 1) := by decide +kernel
theorem dX10_init_112 : decode cX10_init 112 = .ok (.getfield 19, 3) := by decide +kernel
theorem dX10_init_115 : decode cX10_init 115 = .ok (.bipush 100, 2) := by decide +kernel
theorem dX10_init_117 : decode cX10_init 117 = .ok (.bipush 10, 2) := by decide +kernel
theorem dX10_init_119 : decode cX10_init 119 = .ok (.iconst 5, 1) := by decide +kernel
theorem dX10_init_120 : decode cX10_init 120 = .ok (.bipush 20, 2) := by decide +kernel
theorem dX10_init_122 : decode cX10_init 122 = .ok (.invokevirtual 48, 3) := by decide +kernel
theorem dX10_init_125 : decode cX10_init 125 = .ok (.aload_n 0, 1) := by decide +kernel
theorem dX10_init_126 : decode cX10_init 126 = .ok (.getfield 19, 3) := by decide +kernel
theorem dX10_init_129 : decode cX10_init 129 = .ok (.getfield 51, 3) := by decide +kernel
theorem dX10_init_132 : decode cX10_init 132 = .ok (.iconst 3, 1) := by decide +kernel
theorem dX10_init_133 : decode cX10_init 133 = .ok (.invokevirtual 55, 3) := by decide +kernel
theorem dX10_init_136 : decode cX10_init 136 = .ok (.return_, 1) := by decide +kernel
theorem dX10_append_0 : decode cX10_append 0 = .ok (.iload_n 1, 1) := by decide +kernel
theorem dX10_append_1 : decode cX10_append 1 = .ok (.iconst 0, 1) := by decide +kernel
theorem dX10_append_2 : decode cX10_append 2 = .ok (.sipush 255, 3) := by decide +kernel
theorem dX10_append_5 : decode cX10_append 5 = .ok (.invokestatic 61, 3) := by decide +kernel
theorem dX10_append_8 : decode cX10_append 8 = .ok (.aload_n 0, 1) := by decide +kernel
theorem dX10_append_9 : decode cX10_append 9 = .ok (.getfield 10, 3) := by decide +kernel
theorem dX10_append_12 : decode cX10_append 12 = .ok (.invokevirtual 64, 3) := by decide +kernel
theorem dX10_append_15 : decode cX10_append 15 = .ok (.invokestatic 68, 3) := by decide +kernel
theorem dX10_append_18 : decode cX10_append 18 = .ok (.aload_n 0, 1) := by decide +kernel
theorem dX10_append_19 : decode cX10_append 19 = .ok (.getfield 10, 3) := by decide +kernel
theorem dX10_append_22 : decode cX10_append 22 = .ok (.iload_n 1, 1) := by decide +kernel
theorem dX10_append_23 : decode cX10_append 23 = .ok (.i2c, 1) := by decide +kernel
theorem dX10_append_24 : decode cX10_append 24 = .ok (.invokevirtual 72, 3) := by decide +kernel
theorem dX10_append_27 : decode cX10_append 27 = .ok (.ireturn, 1) := by decide +kernel
theorem dX10_clearText_0 : decode cX10_clearText 0 = .ok (.aload_n 0, 1) := by decide +kernel
theorem dX10_clearText_1 : decode cX10_clearText 1 = .ok (.getfield 10, 3) := by decide +kernel
theorem dX10_clearText_4 : decode cX10_clearText 4 = .ok (.invokevirtual 75, 3) := by decide +kernel
theorem dX10_clearText_7 : decode cX10_clearText 7 = .ok (.ireturn, 1) := by decide +kernel
theorem dX10_errorPosition_0 : decode cX10_errorPosition 0 = .ok (.aload_n 0, 1) := by decide +kernel
theorem dX10_errorPosition_1 : decode cX10_errorPosition 1 = .ok (.getfield 10, 3) := by decide +kernel
theorem dX10_errorPosition_4 : decode cX10_errorPosition 4 = .ok (.aload_n 0, 1) := by decide +kernel
theorem dX10_errorPosition_5 : decode cX10_errorPosition 5 = .ok (.getfield 23, 3) := by decide +kernel
theorem dX10_errorPosition_8 : decode cX10_errorPosition 8 = .ok (.invokevirtual 79, 3) := by decide +kernel
theorem dX10_errorPosition_11 : decode cX10_errorPosition 11 = .ok (.ireturn, 1) := by decide +kernel
theorem dX10_load_0 : decode cX10_load 0 = .ok (.aload_n 0, 1) := by decide +kernel
theorem dX10_load_1 : decode cX10_load 1 = .ok (.getfield 10, 3) := by decide +kernel
theorem dX10_load_4 : decode cX10_load 4 = .ok (.aload_n 0, 1) := by decide +kernel
theorem dX10_load_5 : decode cX10_load 5 = .ok (.getfield 23, 3) := by decide +kernel
theorem dX10_load_8 : decode cX10_load 8 = .ok (.invokevirtual 79, 3) := by decide +kernel
theorem dX10_load_11 : decode cX10_load 11 = .ok (.bipush (-9), 2) := by decide +kernel
theorem dX10_load_13 : decode cX10_load 13 = .ok (.if_icmp .ne 7, 3) := by decide +kernel
theorem dX10_load_16 : decode cX10_load 16 = .ok (.iconst 1, 1) := by decide +kernel
theorem dX10_load_17 : decode cX10_load 17 = .ok (.goto 4, 3) := by decide +kernel
theorem dX10_load_20 : decode cX10_load 20 = .ok (.iconst 0, 1) := by decide +kernel
theorem dX10_load_21 : decode cX10_load 21 = .ok (.invokestatic 68, 3) := by decide +kernel
theorem dX10_load_24 : decode cX10_load 24 = .ok (.aload_n 0, 1) := by decide +kernel
theorem dX10_load_25 : decode cX10_load 25 = .ok (.getfield 19, 3) := by decide +kernel
theorem dX10_load_28 : decode cX10_load 28 = .ok (.aload_n 0, 1) := by decide +kernel
theorem dX10_load_29 : decode cX10_load 29 = .ok (.getfield 23, 3) := by decide +kernel
theorem dX10_load_32 : decode cX10_load 32 = .ok (.invokevirtual 83, 3) := by decide +kernel
theorem dX10_load_35 : decode cX10_load 35 = .ok (.aload_n 0, 1) := by decide +kernel
theorem dX10_load_36 : decode cX10_load 36 = .ok (.getfield 29, 3) := by decide +kernel
theorem dX10_load_39 : decode cX10_load 39 = .ok (.invokevirtual 87, 3) := by decide +kernel
theorem dX10_load_42 : decode cX10_load 42 = .ok (.aload_n 0, 1) := by decide +kernel
theorem dX10_load_43 : decode cX10_load 43 = .ok (.getfield 35, 3) := by decide +kernel
theorem dX10_load_46 : decode cX10_load 46 = .ok (.astore_n 1, 1) := by decide +kernel
theorem dX10_load_47 : decode cX10_load 47 = .ok (.aload_n 1, 1) := by decide +kernel
theorem dX10_load_48 : decode cX10_load 48 = .ok (.arraylength, 1) := by decide +kernel
theorem dX10_load_49 : decode cX10_load 49 = .ok (.istore_n 2, 1) := by decide +kernel
theorem dX10_load_50 : decode cX10_load 50 = .ok (.iconst 0, 1) := by decide +kernel
theorem dX10_load_51 : decode cX10_load 51 = .ok (.istore_n 3, 1) := by decide +kernel
theorem dX10_load_52 : decode cX10_load 52 = .ok (.iload_n 3, 1) := by decide +kernel
theorem dX10_load_53 : decode cX10_load 53 = .ok (.iload_n 2, 1) := by decide +kernel
theorem dX10_load_54 : decode cX10_load 54 = .ok (.if_icmp .ge 20, 3) := by decide +kernel
theorem dX10_load_57 : decode cX10_load 57 = .ok (.aload_n 1, 1) := by decide +kernel
theorem dX10_load_58 : decode cX10_load 58 = .ok (.iload_n 3, 1) := by decide +kernel
theorem dX10_load_59 : decode cX10_load 59 = .ok (.aaload, 1) := by decide +kernel
theorem dX10_load_60 : decode cX10_load 60 = .ok (.astore 4, 2) := by decide +kernel
theorem dX10_load_62 : decode cX10_load 62 = .ok (.aload 4, 2) := by decide +kernel
theorem dX10_load_64 : decode cX10_load 64 = .ok (.iconst 0, 1) := by decide +kernel
theorem dX10_load_65 : decode cX10_load 65 = .ok (.putfield 89, 3) := by decide +kernel
theorem dX10_load_68 : decode cX10_load 68 = .ok (.iinc 3 1, 3) := by decide +kernel
theorem dX10_load_71 : decode cX10_load 71 = .ok (.goto (-19), 3) := by decide +kernel
theorem dX10_load_74 : decode cX10_load 74 = .ok (.aload_n 0, 1) := by decide +kernel
theorem dX10_load_75 : decode cX10_load 75 = .ok (.getfield 19, 3) := by decide +kernel
theorem dX10_load_78 : decode cX10_load 78 = .ok (.getfield 93, 3) := by decide +kernel
theorem dX10_load_81 : decode cX10_load 81 = .ok (.ireturn, 1) := by decide +kernel
theorem dX10_about_0 : decode cX10_about 0 = .ok (.aload_n 0, 1) := by decide +kernel
theorem dX10_about_1 : decode cX10_about 1 = .ok (.getfield 19, 3) := by decide +kernel
theorem dX10_about_4 : decode cX10_about 4 = .ok (.getfield 97, 3) := by decide +kernel
theorem dX10_about_7 : decode cX10_about 7 = .ok (.astore_n 2, 1) := by decide +kernel
theorem dX10_about_8 : decode cX10_about 8 = .ok (.iload_n 1, 1) := by decide +kernel
theorem dX10_about_9 : decode cX10_about 9 = .ok (.tableswitch 165 0 13 #[71, 79, 87, 92, 97, 105, 113, 121, 129, 137, 145, 150, 155, 160], 71) := by decide +kernel
theorem dX10_about_80 : decode cX10_about 80 = .ok (.aload_n 0, 1) := by decide +kernel
theorem dX10_about_81 : decode cX10_about 81 = .ok (.getfield 19, 3) := by decide +kernel
theorem dX10_about_84 : decode cX10_about 84 = .ok (.getfield 93, 3) := by decide +kernel
theorem dX10_about_87 : decode cX10_about 87 = .ok (.ireturn, 1) := by decide +kernel
theorem dX10_about_88 : decode cX10_about 88 = .ok (.aload_n 0, 1) := by decide +kernel
theorem dX10_about_89 : decode cX10_about 89 = .ok (.getfield 19, 3) := by decide +kernel
theorem dX10_about_92 : decode cX10_about 92 = .ok (.getfield 101, 3) := by decide +kernel
theorem dX10_about_95 : decode cX10_about 95 = .ok (.ireturn, 1) := by decide +kernel
theorem dX10_about_96 : decode cX10_about 96 = .ok (.aload_n 2, 1) := by decide +kernel
theorem dX10_about_97 : decode cX10_about 97 = .ok (.getfield 104, 3) := by decide +kernel
theorem dX10_about_100 : decode cX10_about 100 = .ok (.ireturn, 1) := by decide +kernel
theorem dX10_about_101 : decode cX10_about 101 = .ok (.aload_n 2, 1) := by decide +kernel
theorem dX10_about_102 : decode cX10_about 102 = .ok (.getfield 109, 3) := by decide +kernel
theorem dX10_about_105 : decode cX10_about 105 = .ok (.ireturn, 1) := by decide +kernel
theorem dX10_about_106 : decode cX10_about 106 = .ok (.aload_n 0, 1) := by decide +kernel
theorem dX10_about_107 : decode cX10_about 107 = .ok (.getfield 19, 3) := by decide +kernel
theorem dX10_about_110 : decode cX10_about 110 = .ok (.getfield 112, 3) := by decide +kernel
theorem dX10_about_113 : decode cX10_about 113 = .ok (.ireturn, 1) := by decide +kernel
theorem dX10_about_114 : decode cX10_about 114 = .ok (.aload_n 0, 1) := by decide +kernel
theorem dX10_about_115 : decode cX10_about 115 = .ok (.getfield 19, 3) := by decide +kernel
theorem dX10_about_118 : decode cX10_about 118 = .ok (.getfield 115, 3) := by decide +kernel
theorem dX10_about_121 : decode cX10_about 121 = .ok (.ireturn, 1) := by decide +kernel
theorem dX10_about_122 : decode cX10_about 122 = .ok (.aload_n 0, 1) := by decide +kernel
theorem dX10_about_123 : decode cX10_about 123 = .ok (.getfield 19, 3) := by decide +kernel
theorem dX10_about_126 : decode cX10_about 126 = .ok (.getfield 118, 3) := by decide +kernel
theorem dX10_about_129 : decode cX10_about 129 = .ok (.ireturn, 1) := by decide +kernel
theorem dX10_about_130 : decode cX10_about 130 = .ok (.aload_n 0, 1) := by decide +kernel
theorem dX10_about_131 : decode cX10_about 131 = .ok (.getfield 19, 3) := by decide +kernel
theorem dX10_about_134 : decode cX10_about 134 = .ok (.getfield 121, 3) := by decide +kernel
theorem dX10_about_137 : decode cX10_about 137 = .ok (.ireturn, 1) := by decide +kernel
theorem dX10_about_138 : decode cX10_about 138 = .ok (.aload_n 0, 1) := by decide +kernel
theorem dX10_about_139 : decode cX10_about 139 = .ok (.getfield 19, 3) := by decide +kernel
theorem dX10_about_142 : decode cX10_about 142 = .ok (.invokevirtual 124, 3) := by decide +kernel
theorem dX10_about_145 : decode cX10_about 145 = .ok (.ireturn, 1) := by decide +kernel
theorem dX10_about_146 : decode cX10_about 146 = .ok (.aload_n 0, 1) := by decide +kernel
theorem dX10_about_147 : decode cX10_about 147 = .ok (.getfield 19, 3) := by decide +kernel
theorem dX10_about_150 : decode cX10_about 150 = .ok (.getfield 127, 3) := by decide +kernel
theorem dX10_about_153 : decode cX10_about 153 = .ok (.ireturn, 1) := by decide +kernel
theorem dX10_about_154 : decode cX10_about 154 = .ok (.aload_n 2, 1) := by decide +kernel
theorem dX10_about_155 : decode cX10_about 155 = .ok (.invokevirtual 130, 3) := by decide +kernel
theorem dX10_about_158 : decode cX10_about 158 = .ok (.ireturn, 1) := by decide +kernel
theorem dX10_about_159 : decode cX10_about 159 = .ok (.aload_n 2, 1) := by decide +kernel
theorem dX10_about_160 : decode cX10_about 160 = .ok (.getfield 133, 3) := by decide +kernel
theorem dX10_about_163 : decode cX10_about 163 = .ok (.ireturn, 1) := by decide +kernel
theorem dX10_about_164 : decode cX10_about 164 = .ok (.aload_n 2, 1) := by decide +kernel
theorem dX10_about_165 : decode cX10_about 165 = .ok (.getfield 136, 3) := by decide +kernel
theorem dX10_about_168 : decode cX10_about 168 = .ok (.ireturn, 1) := by decide +kernel
theorem dX10_about_169 : decode cX10_about 169 = .ok (.aload_n 2, 1) := by decide +kernel
theorem dX10_about_170 : decode cX10_about 170 = .ok (.invokevirtual 139, 3) := by decide +kernel
theorem dX10_about_173 : decode cX10_about 173 = .ok (.ireturn, 1) := by decide +kernel
theorem dX10_about_174 : decode cX10_about 174 = .ok (.new 142, 3) := by decide +kernel
theorem dX10_about_177 : decode cX10_about 177 = .ok (.dup, 1) := by decide +kernel
theorem dX10_about_178 : decode cX10_about 178 = .ok (.ldc 144, 2) := by decide +kernel
theorem dX10_about_180 : decode cX10_about 180 = .ok (.invokespecial 146, 3) := by decide +kernel
theorem dX10_about_183 : decode cX10_about 183 = .ok (.athrow, 1) := by decide +kernel
theorem dX10_zone_0 : decode cX10_zone 0 = .ok (.aload_n 0, 1) := by decide +kernel
theorem dX10_zone_1 : decode cX10_zone 1 = .ok (.getfield 19, 3) := by decide +kernel
theorem dX10_zone_4 : decode cX10_zone 4 = .ok (.iload_n 1, 1) := by decide +kernel
theorem dX10_zone_5 : decode cX10_zone 5 = .ok (.invokestatic 149, 3) := by decide +kernel
theorem dX10_zone_8 : decode cX10_zone 8 = .ok (.astore_n 3, 1) := by decide +kernel
theorem dX10_zone_9 : decode cX10_zone 9 = .ok (.iload_n 2, 1) := by decide +kernel
theorem dX10_zone_10 : decode cX10_zone 10 = .ok (.tableswitch 64 0 4 #[34, 39, 44, 49, 54], 34) := by decide +kernel
theorem dX10_zone_44 : decode cX10_zone 44 = .ok (.aload_n 3, 1) := by decide +kernel
theorem dX10_zone_45 : decode cX10_zone 45 = .ok (.getfield 153, 3) := by decide +kernel
theorem dX10_zone_48 : decode cX10_zone 48 = .ok (.ireturn, 1) := by decide +kernel
theorem dX10_zone_49 : decode cX10_zone 49 = .ok (.aload_n 3, 1) := by decide +kernel
theorem dX10_zone_50 : decode cX10_zone 50 = .ok (.getfield 158, 3) := by decide +kernel
theorem dX10_zone_53 : decode cX10_zone 53 = .ok (.ireturn, 1) := by decide +kernel
theorem dX10_zone_54 : decode cX10_zone 54 = .ok (.aload_n 3, 1) := by decide +kernel
theorem dX10_zone_55 : decode cX10_zone 55 = .ok (.getfield 161, 3) := by decide +kernel
theorem dX10_zone_58 : decode cX10_zone 58 = .ok (.ireturn, 1) := by decide +kernel
theorem dX10_zone_59 : decode cX10_zone 59 = .ok (.aload_n 3, 1) := by decide +kernel
theorem dX10_zone_60 : decode cX10_zone 60 = .ok (.getfield 164, 3) := by decide +kernel
theorem dX10_zone_63 : decode cX10_zone 63 = .ok (.ireturn, 1) := by decide +kernel
theorem dX10_zone_64 : decode cX10_zone 64 = .ok (.aload_n 0, 1) := by decide +kernel
theorem dX10_zone_65 : decode cX10_zone 65 = .ok (.getfield 19, 3) := by decide +kernel
theorem dX10_zone_68 : decode cX10_zone 68 = .ok (.aload_n 3, 1) := by decide +kernel
theorem dX10_zone_69 : decode cX10_zone 69 = .ok (.iload_n 1, 1) := by decide +kernel
theorem dX10_zone_70 : decode cX10_zone 70 = .ok (.invokevirtual 167, 3) := by decide +kernel
theorem dX10_zone_73 : decode cX10_zone 73 = .ok (.ireturn, 1) := by decide +kernel
theorem dX10_zone_74 : decode cX10_zone 74 = .ok (.new 142, 3) := by decide +kernel
theorem dX10_zone_77 : decode cX10_zone 77 = .ok (.dup, 1) := by decide +kernel
theorem dX10_zone_78 : decode cX10_zone 78 = .ok (.ldc 171, 2) := by decide +kernel
theorem dX10_zone_80 : decode cX10_zone 80 = .ok (.invokespecial 146, 3) := by decide +kernel
theorem dX10_zone_83 : decode cX10_zone 83 = .ok (.athrow, 1) := by decide +kernel
theorem dX10_ship_0 : decode cX10_ship 0 = .ok (.aload_n 0, 1) := by decide +kernel
theorem dX10_ship_1 : decode cX10_ship 1 = .ok (.iload_n 1, 1) := by decide +kernel
theorem dX10_ship_2 : decode cX10_ship 2 = .ok (.invokevirtual 173, 3) := by decide +kernel
theorem dX10_ship_5 : decode cX10_ship 5 = .ok (.astore_n 3, 1) := by decide +kernel
theorem dX10_ship_6 : decode cX10_ship 6 = .ok (.iload_n 2, 1) := by decide +kernel
theorem dX10_ship_7 : decode cX10_ship 7 = .ok (.tableswitch 85 0 7 #[45, 50, 55, 60, 65, 70, 75, 80], 45) := by decide +kernel
theorem dX10_ship_52 : decode cX10_ship 52 = .ok (.aload_n 3, 1) := by decide +kernel
theorem dX10_ship_53 : decode cX10_ship 53 = .ok (.getfield 177, 3) := by decide +kernel
theorem dX10_ship_56 : decode cX10_ship 56 = .ok (.ireturn, 1) := by decide +kernel
theorem dX10_ship_57 : decode cX10_ship 57 = .ok (.aload_n 3, 1) := by decide +kernel
theorem dX10_ship_58 : decode cX10_ship 58 = .ok (.getfield 182, 3) := by decide +kernel
theorem dX10_ship_61 : decode cX10_ship 61 = .ok (.ireturn, 1) := by decide +kernel
theorem dX10_ship_62 : decode cX10_ship 62 = .ok (.aload_n 3, 1) := by decide +kernel
theorem dX10_ship_63 : decode cX10_ship 63 = .ok (.getfield 185, 3) := by decide +kernel
theorem dX10_ship_66 : decode cX10_ship 66 = .ok (.ireturn, 1) := by decide +kernel
theorem dX10_ship_67 : decode cX10_ship 67 = .ok (.aload_n 3, 1) := by decide +kernel
theorem dX10_ship_68 : decode cX10_ship 68 = .ok (.getfield 188, 3) := by decide +kernel
theorem dX10_ship_71 : decode cX10_ship 71 = .ok (.ireturn, 1) := by decide +kernel
theorem dX10_ship_72 : decode cX10_ship 72 = .ok (.aload_n 3, 1) := by decide +kernel
theorem dX10_ship_73 : decode cX10_ship 73 = .ok (.getfield 191, 3) := by decide +kernel
theorem dX10_ship_76 : decode cX10_ship 76 = .ok (.ireturn, 1) := by decide +kernel
theorem dX10_ship_77 : decode cX10_ship 77 = .ok (.aload_n 3, 1) := by decide +kernel
theorem dX10_ship_78 : decode cX10_ship 78 = .ok (.getfield 194, 3) := by decide +kernel
theorem dX10_ship_81 : decode cX10_ship 81 = .ok (.ireturn, 1) := by decide +kernel
theorem dX10_ship_82 : decode cX10_ship 82 = .ok (.aload_n 3, 1) := by decide +kernel
theorem dX10_ship_83 : decode cX10_ship 83 = .ok (.getfield 197, 3) := by decide +kernel
theorem dX10_ship_86 : decode cX10_ship 86 = .ok (.ireturn, 1) := by decide +kernel
theorem dX10_ship_87 : decode cX10_ship 87 = .ok (.aload_n 3, 1) := by decide +kernel
theorem dX10_ship_88 : decode cX10_ship 88 = .ok (.getfield 198, 3) := by decide +kernel
theorem dX10_ship_91 : decode cX10_ship 91 = .ok (.ireturn, 1) := by decide +kernel
theorem dX10_ship_92 : decode cX10_ship 92 = .ok (.new 142, 3) := by decide +kernel
theorem dX10_ship_95 : decode cX10_ship 95 = .ok (.dup, 1) := by decide +kernel
theorem dX10_ship_96 : decode cX10_ship 96 = .ok (.ldc 201, 2) := by decide +kernel
theorem dX10_ship_98 : decode cX10_ship 98 = .ok (.invokespecial 146, 3) := by decide +kernel
theorem dX10_ship_101 : decode cX10_ship 101 = .ok (.athrow, 1) := by decide +kernel
theorem dX10_waves_0 : decode cX10_waves 0 = .ok (.iload_n 1, 1) := by decide +kernel
theorem dX10_waves_1 : decode cX10_waves 1 = .ok (.iconst 0, 1) := by decide +kernel
theorem dX10_waves_2 : decode cX10_waves 2 = .ok (.sipush 9999, 3) := by decide +kernel
theorem dX10_waves_5 : decode cX10_waves 5 = .ok (.invokestatic 61, 3) := by decide +kernel
theorem dX10_waves_8 : decode cX10_waves 8 = .ok (.aload_n 0, 1) := by decide +kernel
theorem dX10_waves_9 : decode cX10_waves 9 = .ok (.getfield 19, 3) := by decide +kernel
theorem dX10_waves_12 : decode cX10_waves 12 = .ok (.getfield 51, 3) := by decide +kernel
theorem dX10_waves_15 : decode cX10_waves 15 = .ok (.iload_n 1, 1) := by decide +kernel
theorem dX10_waves_16 : decode cX10_waves 16 = .ok (.invokevirtual 203, 3) := by decide +kernel
theorem dX10_waves_19 : decode cX10_waves 19 = .ok (.ireturn, 1) := by decide +kernel
theorem dX10_account_0 : decode cX10_account 0 = .ok (.aload_n 0, 1) := by decide +kernel
theorem dX10_account_1 : decode cX10_account 1 = .ok (.getfield 19, 3) := by decide +kernel
theorem dX10_account_4 : decode cX10_account 4 = .ok (.getfield 207, 3) := by decide +kernel
theorem dX10_account_7 : decode cX10_account 7 = .ok (.astore_n 2, 1) := by decide +kernel
theorem dX10_account_8 : decode cX10_account 8 = .ok (.iload_n 1, 1) := by decide +kernel
theorem dX10_account_9 : decode cX10_account 9 = .ok (.tableswitch 90 0 7 #[47, 52, 57, 62, 70, 75, 80, 85], 47) := by decide +kernel
theorem dX10_account_56 : decode cX10_account 56 = .ok (.aload_n 2, 1) := by decide +kernel
theorem dX10_account_57 : decode cX10_account 57 = .ok (.getfield 211, 3) := by decide +kernel
theorem dX10_account_60 : decode cX10_account 60 = .ok (.ireturn, 1) := by decide +kernel
theorem dX10_account_61 : decode cX10_account 61 = .ok (.aload_n 2, 1) := by decide +kernel
theorem dX10_account_62 : decode cX10_account 62 = .ok (.getfield 216, 3) := by decide +kernel
theorem dX10_account_65 : decode cX10_account 65 = .ok (.ireturn, 1) := by decide +kernel
theorem dX10_account_66 : decode cX10_account 66 = .ok (.aload_n 2, 1) := by decide +kernel
theorem dX10_account_67 : decode cX10_account 67 = .ok (.getfield 217, 3) := by decide +kernel
theorem dX10_account_70 : decode cX10_account 70 = .ok (.ireturn, 1) := by decide +kernel
theorem dX10_account_71 : decode cX10_account 71 = .ok (.aload_n 0, 1) := by decide +kernel
theorem dX10_account_72 : decode cX10_account 72 = .ok (.getfield 19, 3) := by decide +kernel
theorem dX10_account_75 : decode cX10_account 75 = .ok (.invokevirtual 220, 3) := by decide +kernel
theorem dX10_account_78 : decode cX10_account 78 = .ok (.ireturn, 1) := by decide +kernel
theorem dX10_account_79 : decode cX10_account 79 = .ok (.aload_n 2, 1) := by decide +kernel
theorem dX10_account_80 : decode cX10_account 80 = .ok (.getfield 223, 3) := by decide +kernel
theorem dX10_account_83 : decode cX10_account 83 = .ok (.ireturn, 1) := by decide +kernel
theorem dX10_account_84 : decode cX10_account 84 = .ok (.aload_n 2, 1) := by decide +kernel
theorem dX10_account_85 : decode cX10_account 85 = .ok (.getfield 226, 3) := by decide +kernel
theorem dX10_account_88 : decode cX10_account 88 = .ok (.ireturn, 1) := by decide +kernel
theorem dX10_account_89 : decode cX10_account 89 = .ok (.aload_n 2, 1) := by decide +kernel
theorem dX10_account_90 : decode cX10_account 90 = .ok (.getfield 229, 3) := by decide +kernel
theorem dX10_account_93 : decode cX10_account 93 = .ok (.ireturn, 1) := by decide +kernel
theorem dX10_account_94 : decode cX10_account 94 = .ok (.aload_n 2, 1) := by decide +kernel
theorem dX10_account_95 : decode cX10_account 95 = .ok (.getfield 232, 3) := by decide +kernel
theorem dX10_account_98 : decode cX10_account 98 = .ok (.ireturn, 1) := by decide +kernel
theorem dX10_account_99 : decode cX10_account 99 = .ok (.new 142, 3) := by decide +kernel
theorem dX10_account_102 : decode cX10_account 102 = .ok (.dup, 1) := by decide +kernel
theorem dX10_account_103 : decode cX10_account 103 = .ok (.ldc 235, 2) := by decide +kernel
theorem dX10_account_105 : decode cX10_account 105 = .ok (.invokespecial 146, 3) := by decide +kernel
theorem dX10_account_108 : decode cX10_account 108 = .ok (.athrow, 1) := by decide +kernel
theorem dX10_take_0 : decode cX10_take 0 = .ok (.aload_n 0, 1) := by decide +kernel
theorem dX10_take_1 : decode cX10_take 1 = .ok (.iload_n 1, 1) := by decide +kernel
theorem dX10_take_2 : decode cX10_take 2 = .ok (.invokevirtual 173, 3) := by decide +kernel
theorem dX10_take_5 : decode cX10_take 5 = .ok (.astore_n 3, 1) := by decide +kernel
theorem dX10_take_6 : decode cX10_take 6 = .ok (.iload_n 2, 1) := by decide +kernel
theorem dX10_take_7 : decode cX10_take 7 = .ok (.iconst 1, 1) := by decide +kernel
theorem dX10_take_8 : decode cX10_take 8 = .ok (.sipush 999, 3) := by decide +kernel
theorem dX10_take_11 : decode cX10_take 11 = .ok (.invokestatic 61, 3) := by decide +kernel
theorem dX10_take_14 : decode cX10_take 14 = .ok (.aload_n 0, 1) := by decide +kernel
theorem dX10_take_15 : decode cX10_take 15 = .ok (.getfield 19, 3) := by decide +kernel
theorem dX10_take_18 : decode cX10_take 18 = .ok (.aload_n 3, 1) := by decide +kernel
theorem dX10_take_19 : decode cX10_take 19 = .ok (.iload_n 2, 1) := by decide +kernel
theorem dX10_take_20 : decode cX10_take 20 = .ok (.invokevirtual 237, 3) := by decide +kernel
theorem dX10_take_23 : decode cX10_take 23 = .ok (.invokestatic 68, 3) := by decide +kernel
theorem dX10_take_26 : decode cX10_take 26 = .ok (.aload_n 0, 1) := by decide +kernel
theorem dX10_take_27 : decode cX10_take 27 = .ok (.getfield 29, 3) := by decide +kernel
theorem dX10_take_30 : decode cX10_take 30 = .ok (.aload_n 0, 1) := by decide +kernel
theorem dX10_take_31 : decode cX10_take 31 = .ok (.getfield 19, 3) := by decide +kernel
theorem dX10_take_34 : decode cX10_take 34 = .ok (.invokevirtual 241, 3) := by decide +kernel
theorem dX10_take_37 : decode cX10_take 37 = .ok (.aload_n 0, 1) := by decide +kernel
theorem dX10_take_38 : decode cX10_take 38 = .ok (.getfield 19, 3) := by decide +kernel
theorem dX10_take_41 : decode cX10_take 41 = .ok (.aload_n 3, 1) := by decide +kernel
theorem dX10_take_42 : decode cX10_take 42 = .ok (.iload_n 2, 1) := by decide +kernel
theorem dX10_take_43 : decode cX10_take 43 = .ok (.invokevirtual 244, 3) := by decide +kernel
theorem dX10_take_46 : decode cX10_take 46 = .ok (.aload_n 3, 1) := by decide +kernel
theorem dX10_take_47 : decode cX10_take 47 = .ok (.getfield 191, 3) := by decide +kernel
theorem dX10_take_50 : decode cX10_take 50 = .ok (.ireturn, 1) := by decide +kernel
theorem dX10_send_0 : decode cX10_send 0 = .ok (.aload_n 0, 1) := by decide +kernel
theorem dX10_send_1 : decode cX10_send 1 = .ok (.iload_n 1, 1) := by decide +kernel
theorem dX10_send_2 : decode cX10_send 2 = .ok (.invokevirtual 173, 3) := by decide +kernel
theorem dX10_send_5 : decode cX10_send 5 = .ok (.astore_n 2, 1) := by decide +kernel
theorem dX10_send_6 : decode cX10_send 6 = .ok (.aload_n 0, 1) := by decide +kernel
theorem dX10_send_7 : decode cX10_send 7 = .ok (.getfield 19, 3) := by decide +kernel
theorem dX10_send_10 : decode cX10_send 10 = .ok (.aload_n 2, 1) := by decide +kernel
theorem dX10_send_11 : decode cX10_send 11 = .ok (.invokevirtual 248, 3) := by decide +kernel
theorem dX10_send_14 : decode cX10_send 14 = .ok (.invokestatic 68, 3) := by decide +kernel
theorem dX10_send_17 : decode cX10_send 17 = .ok (.aload_n 0, 1) := by decide +kernel
theorem dX10_send_18 : decode cX10_send 18 = .ok (.getfield 29, 3) := by decide +kernel
theorem dX10_send_21 : decode cX10_send 21 = .ok (.aload_n 0, 1) := by decide +kernel
theorem dX10_send_22 : decode cX10_send 22 = .ok (.getfield 19, 3) := by decide +kernel
theorem dX10_send_25 : decode cX10_send 25 = .ok (.invokevirtual 241, 3) := by decide +kernel
theorem dX10_send_28 : decode cX10_send 28 = .ok (.aload_n 0, 1) := by decide +kernel
theorem dX10_send_29 : decode cX10_send 29 = .ok (.getfield 19, 3) := by decide +kernel
theorem dX10_send_32 : decode cX10_send 32 = .ok (.aload_n 2, 1) := by decide +kernel
theorem dX10_send_33 : decode cX10_send 33 = .ok (.invokevirtual 252, 3) := by decide +kernel
theorem dX10_send_36 : decode cX10_send 36 = .ok (.aload_n 2, 1) := by decide +kernel
theorem dX10_send_37 : decode cX10_send 37 = .ok (.getfield 197, 3) := by decide +kernel
theorem dX10_send_40 : decode cX10_send 40 = .ok (.ireturn, 1) := by decide +kernel
theorem dX10_recall_0 : decode cX10_recall 0 = .ok (.aload_n 0, 1) := by decide +kernel
theorem dX10_recall_1 : decode cX10_recall 1 = .ok (.iload_n 1, 1) := by decide +kernel
theorem dX10_recall_2 : decode cX10_recall 2 = .ok (.invokevirtual 173, 3) := by decide +kernel
theorem dX10_recall_5 : decode cX10_recall 5 = .ok (.astore_n 2, 1) := by decide +kernel
theorem dX10_recall_6 : decode cX10_recall 6 = .ok (.aload_n 0, 1) := by decide +kernel
theorem dX10_recall_7 : decode cX10_recall 7 = .ok (.getfield 19, 3) := by decide +kernel
theorem dX10_recall_10 : decode cX10_recall 10 = .ok (.aload_n 2, 1) := by decide +kernel
theorem dX10_recall_11 : decode cX10_recall 11 = .ok (.invokevirtual 256, 3) := by decide +kernel
theorem dX10_recall_14 : decode cX10_recall 14 = .ok (.invokestatic 68, 3) := by decide +kernel
theorem dX10_recall_17 : decode cX10_recall 17 = .ok (.aload_n 0, 1) := by decide +kernel
theorem dX10_recall_18 : decode cX10_recall 18 = .ok (.getfield 29, 3) := by decide +kernel
theorem dX10_recall_21 : decode cX10_recall 21 = .ok (.aload_n 0, 1) := by decide +kernel
theorem dX10_recall_22 : decode cX10_recall 22 = .ok (.getfield 19, 3) := by decide +kernel
theorem dX10_recall_25 : decode cX10_recall 25 = .ok (.invokevirtual 241, 3) := by decide +kernel
theorem dX10_recall_28 : decode cX10_recall 28 = .ok (.aload_n 0, 1) := by decide +kernel
theorem dX10_recall_29 : decode cX10_recall 29 = .ok (.getfield 19, 3) := by decide +kernel
theorem dX10_recall_32 : decode cX10_recall 32 = .ok (.aload_n 2, 1) := by decide +kernel
theorem dX10_recall_33 : decode cX10_recall 33 = .ok (.invokevirtual 259, 3) := by decide +kernel
theorem dX10_recall_36 : decode cX10_recall 36 = .ok (.aload_n 2, 1) := by decide +kernel
theorem dX10_recall_37 : decode cX10_recall 37 = .ok (.getfield 197, 3) := by decide +kernel
theorem dX10_recall_40 : decode cX10_recall 40 = .ok (.ireturn, 1) := by decide +kernel
theorem dX10_extend_0 : decode cX10_extend 0 = .ok (.aload_n 0, 1) := by decide +kernel
theorem dX10_extend_1 : decode cX10_extend 1 = .ok (.getfield 19, 3) := by decide +kernel
theorem dX10_extend_4 : decode cX10_extend 4 = .ok (.iload_n 1, 1) := by decide +kernel
theorem dX10_extend_5 : decode cX10_extend 5 = .ok (.invokestatic 149, 3) := by decide +kernel
theorem dX10_extend_8 : decode cX10_extend 8 = .ok (.astore_n 3, 1) := by decide +kernel
theorem dX10_extend_9 : decode cX10_extend 9 = .ok (.iload_n 2, 1) := by decide +kernel
theorem dX10_extend_10 : decode cX10_extend 10 = .ok (.iconst 1, 1) := by decide +kernel
theorem dX10_extend_11 : decode cX10_extend 11 = .ok (.bipush 99, 2) := by decide +kernel
theorem dX10_extend_13 : decode cX10_extend 13 = .ok (.invokestatic 61, 3) := by decide +kernel
theorem dX10_extend_16 : decode cX10_extend 16 = .ok (.aload_n 0, 1) := by decide +kernel
theorem dX10_extend_17 : decode cX10_extend 17 = .ok (.getfield 19, 3) := by decide +kernel
theorem dX10_extend_20 : decode cX10_extend 20 = .ok (.aload_n 3, 1) := by decide +kernel
theorem dX10_extend_21 : decode cX10_extend 21 = .ok (.iload_n 2, 1) := by decide +kernel
theorem dX10_extend_22 : decode cX10_extend 22 = .ok (.invokevirtual 262, 3) := by decide +kernel
theorem dX10_extend_25 : decode cX10_extend 25 = .ok (.invokestatic 68, 3) := by decide +kernel
theorem dX10_extend_28 : decode cX10_extend 28 = .ok (.aload_n 0, 1) := by decide +kernel
theorem dX10_extend_29 : decode cX10_extend 29 = .ok (.getfield 29, 3) := by decide +kernel
theorem dX10_extend_32 : decode cX10_extend 32 = .ok (.aload_n 0, 1) := by decide +kernel
theorem dX10_extend_33 : decode cX10_extend 33 = .ok (.getfield 19, 3) := by decide +kernel
theorem dX10_extend_36 : decode cX10_extend 36 = .ok (.invokevirtual 241, 3) := by decide +kernel
theorem dX10_extend_39 : decode cX10_extend 39 = .ok (.aload_n 0, 1) := by decide +kernel
theorem dX10_extend_40 : decode cX10_extend 40 = .ok (.getfield 19, 3) := by decide +kernel
theorem dX10_extend_43 : decode cX10_extend 43 = .ok (.aload_n 3, 1) := by decide +kernel
theorem dX10_extend_44 : decode cX10_extend 44 = .ok (.iload_n 2, 1) := by decide +kernel
theorem dX10_extend_45 : decode cX10_extend 45 = .ok (.invokevirtual 266, 3) := by decide +kernel
theorem dX10_extend_48 : decode cX10_extend 48 = .ok (.aload_n 3, 1) := by decide +kernel
theorem dX10_extend_49 : decode cX10_extend 49 = .ok (.getfield 161, 3) := by decide +kernel
theorem dX10_extend_52 : decode cX10_extend 52 = .ok (.ireturn, 1) := by decide +kernel
theorem dX10_buy_0 : decode cX10_buy 0 = .ok (.iload_n 1, 1) := by decide +kernel
theorem dX10_buy_1 : decode cX10_buy 1 = .ok (.iconst 1, 1) := by decide +kernel
theorem dX10_buy_2 : decode cX10_buy 2 = .ok (.sipush 999, 3) := by decide +kernel
theorem dX10_buy_5 : decode cX10_buy 5 = .ok (.invokestatic 61, 3) := by decide +kernel
theorem dX10_buy_8 : decode cX10_buy 8 = .ok (.aload_n 0, 1) := by decide +kernel
theorem dX10_buy_9 : decode cX10_buy 9 = .ok (.getfield 19, 3) := by decide +kernel
theorem dX10_buy_12 : decode cX10_buy 12 = .ok (.iload_n 1, 1) := by decide +kernel
theorem dX10_buy_13 : decode cX10_buy 13 = .ok (.invokevirtual 270, 3) := by decide +kernel
theorem dX10_buy_16 : decode cX10_buy 16 = .ok (.invokestatic 68, 3) := by decide +kernel
theorem dX10_buy_19 : decode cX10_buy 19 = .ok (.aload_n 0, 1) := by decide +kernel
theorem dX10_buy_20 : decode cX10_buy 20 = .ok (.getfield 29, 3) := by decide +kernel
theorem dX10_buy_23 : decode cX10_buy 23 = .ok (.aload_n 0, 1) := by decide +kernel
theorem dX10_buy_24 : decode cX10_buy 24 = .ok (.getfield 19, 3) := by decide +kernel
theorem dX10_buy_27 : decode cX10_buy 27 = .ok (.invokevirtual 241, 3) := by decide +kernel
theorem dX10_buy_30 : decode cX10_buy 30 = .ok (.aload_n 0, 1) := by decide +kernel
theorem dX10_buy_31 : decode cX10_buy 31 = .ok (.getfield 19, 3) := by decide +kernel
theorem dX10_buy_34 : decode cX10_buy 34 = .ok (.iload_n 1, 1) := by decide +kernel
theorem dX10_buy_35 : decode cX10_buy 35 = .ok (.invokevirtual 274, 3) := by decide +kernel
theorem dX10_buy_38 : decode cX10_buy 38 = .ok (.aload_n 0, 1) := by decide +kernel
theorem dX10_buy_39 : decode cX10_buy 39 = .ok (.getfield 19, 3) := by decide +kernel
theorem dX10_buy_42 : decode cX10_buy 42 = .ok (.getfield 112, 3) := by decide +kernel
theorem dX10_buy_45 : decode cX10_buy 45 = .ok (.ireturn, 1) := by decide +kernel
theorem dX10_setWaves_0 : decode cX10_setWaves 0 = .ok (.iload_n 1, 1) := by decide +kernel
theorem dX10_setWaves_1 : decode cX10_setWaves 1 = .ok (.iconst 0, 1) := by decide +kernel
theorem dX10_setWaves_2 : decode cX10_setWaves 2 = .ok (.aload_n 0, 1) := by decide +kernel
theorem dX10_setWaves_3 : decode cX10_setWaves 3 = .ok (.getfield 19, 3) := by decide +kernel
theorem dX10_setWaves_6 : decode cX10_setWaves 6 = .ok (.getfield 51, 3) := by decide +kernel
theorem dX10_setWaves_9 : decode cX10_setWaves 9 = .ok (.getfield 277, 3) := by decide +kernel
theorem dX10_setWaves_12 : decode cX10_setWaves 12 = .ok (.iconst 1, 1) := by decide +kernel
theorem dX10_setWaves_13 : decode cX10_setWaves 13 = .ok (.isub, 1) := by decide +kernel
theorem dX10_setWaves_14 : decode cX10_setWaves 14 = .ok (.invokestatic 61, 3) := by decide +kernel
theorem dX10_setWaves_17 : decode cX10_setWaves 17 = .ok (.iload_n 2, 1) := by decide +kernel
theorem dX10_setWaves_18 : decode cX10_setWaves 18 = .ok (.iconst 0, 1) := by decide +kernel
theorem dX10_setWaves_19 : decode cX10_setWaves 19 = .ok (.bipush 9, 2) := by decide +kernel
theorem dX10_setWaves_21 : decode cX10_setWaves 21 = .ok (.invokestatic 61, 3) := by decide +kernel
theorem dX10_setWaves_24 : decode cX10_setWaves 24 = .ok (.aload_n 0, 1) := by decide +kernel
theorem dX10_setWaves_25 : decode cX10_setWaves 25 = .ok (.getfield 29, 3) := by decide +kernel
theorem dX10_setWaves_28 : decode cX10_setWaves 28 = .ok (.aload_n 0, 1) := by decide +kernel
theorem dX10_setWaves_29 : decode cX10_setWaves 29 = .ok (.getfield 19, 3) := by decide +kernel
theorem dX10_setWaves_32 : decode cX10_setWaves 32 = .ok (.invokevirtual 241, 3) := by decide +kernel
theorem dX10_setWaves_35 : decode cX10_setWaves 35 = .ok (.aload_n 0, 1) := by decide +kernel
theorem dX10_setWaves_36 : decode cX10_setWaves 36 = .ok (.getfield 19, 3) := by decide +kernel
theorem dX10_setWaves_39 : decode cX10_setWaves 39 = .ok (.getfield 51, 3) := by decide +kernel
theorem dX10_setWaves_42 : decode cX10_setWaves 42 = .ok (.iload_n 1, 1) := by decide +kernel
theorem dX10_setWaves_43 : decode cX10_setWaves 43 = .ok (.iload_n 2, 1) := by decide +kernel
theorem dX10_setWaves_44 : decode cX10_setWaves 44 = .ok (.invokevirtual 278, 3) := by decide +kernel
theorem dX10_setWaves_47 : decode cX10_setWaves 47 = .ok (.ireturn, 1) := by decide +kernel
theorem dX10_pass_0 : decode cX10_pass 0 = .ok (.iload_n 1, 1) := by decide +kernel
theorem dX10_pass_1 : decode cX10_pass 1 = .ok (.iconst 1, 1) := by decide +kernel
theorem dX10_pass_2 : decode cX10_pass 2 = .ok (.bipush 99, 2) := by decide +kernel
theorem dX10_pass_4 : decode cX10_pass 4 = .ok (.invokestatic 61, 3) := by decide +kernel
theorem dX10_pass_7 : decode cX10_pass 7 = .ok (.aload_n 0, 1) := by decide +kernel
theorem dX10_pass_8 : decode cX10_pass 8 = .ok (.getfield 29, 3) := by decide +kernel
theorem dX10_pass_11 : decode cX10_pass 11 = .ok (.aload_n 0, 1) := by decide +kernel
theorem dX10_pass_12 : decode cX10_pass 12 = .ok (.getfield 19, 3) := by decide +kernel
theorem dX10_pass_15 : decode cX10_pass 15 = .ok (.invokevirtual 241, 3) := by decide +kernel
theorem dX10_pass_18 : decode cX10_pass 18 = .ok (.aload_n 0, 1) := by decide +kernel
theorem dX10_pass_19 : decode cX10_pass 19 = .ok (.getfield 19, 3) := by decide +kernel
theorem dX10_pass_22 : decode cX10_pass 22 = .ok (.getfield 207, 3) := by decide +kernel
theorem dX10_pass_25 : decode cX10_pass 25 = .ok (.getfield 216, 3) := by decide +kernel
theorem dX10_pass_28 : decode cX10_pass 28 = .ok (.istore_n 2, 1) := by decide +kernel
theorem dX10_pass_29 : decode cX10_pass 29 = .ok (.aload_n 0, 1) := by decide +kernel
theorem dX10_pass_30 : decode cX10_pass 30 = .ok (.getfield 19, 3) := by decide +kernel
theorem dX10_pass_33 : decode cX10_pass 33 = .ok (.iload_n 1, 1) := by decide +kernel
theorem dX10_pass_34 : decode cX10_pass 34 = .ok (.invokevirtual 282, 3) := by decide +kernel
theorem dX10_pass_37 : decode cX10_pass 37 = .ok (.aload_n 0, 1) := by decide +kernel
theorem dX10_pass_38 : decode cX10_pass 38 = .ok (.getfield 19, 3) := by decide +kernel
theorem dX10_pass_41 : decode cX10_pass 41 = .ok (.getfield 207, 3) := by decide +kernel
theorem dX10_pass_44 : decode cX10_pass 44 = .ok (.getfield 216, 3) := by decide +kernel
theorem dX10_pass_47 : decode cX10_pass 47 = .ok (.iload_n 2, 1) := by decide +kernel
theorem dX10_pass_48 : decode cX10_pass 48 = .ok (.isub, 1) := by decide +kernel
theorem dX10_pass_49 : decode cX10_pass 49 = .ok (.ireturn, 1) := by decide +kernel
theorem dX10_undo_0 : decode cX10_undo 0 = .ok (.aload_n 0, 1) := by decide +kernel
theorem dX10_undo_1 : decode cX10_undo 1 = .ok (.getfield 29, 3) := by decide +kernel
theorem dX10_undo_4 : decode cX10_undo 4 = .ok (.getfield 285, 3) := by decide +kernel
theorem dX10_undo_7 : decode cX10_undo 7 = .ok (.ifCond .le 7, 3) := by decide +kernel
theorem dX10_undo_10 : decode cX10_undo 10 = .ok (.iconst 1, 1) := by decide +kernel
theorem dX10_undo_11 : decode cX10_undo 11 = .ok (.goto 4, 3) := by decide +kernel
theorem dX10_undo_14 : decode cX10_undo 14 = .ok (.iconst 0, 1) := by decide +kernel
theorem dX10_undo_15 : decode cX10_undo 15 = .ok (.invokestatic 68, 3) := by decide +kernel
theorem dX10_undo_18 : decode cX10_undo 18 = .ok (.aload_n 0, 1) := by decide +kernel
theorem dX10_undo_19 : decode cX10_undo 19 = .ok (.getfield 29, 3) := by decide +kernel
theorem dX10_undo_22 : decode cX10_undo 22 = .ok (.aload_n 0, 1) := by decide +kernel
theorem dX10_undo_23 : decode cX10_undo 23 = .ok (.getfield 19, 3) := by decide +kernel
theorem dX10_undo_26 : decode cX10_undo 26 = .ok (.invokevirtual 286, 3) := by decide +kernel
theorem dX10_undo_29 : decode cX10_undo 29 = .ok (.ireturn, 1) := by decide +kernel
theorem dX10_needs_0 : decode cX10_needs 0 = .ok (.aload_n 0, 1) := by decide +kernel
theorem dX10_needs_1 : decode cX10_needs 1 = .ok (.getfield 19, 3) := by decide +kernel
theorem dX10_needs_4 : decode cX10_needs 4 = .ok (.iload_n 1, 1) := by decide +kernel
theorem dX10_needs_5 : decode cX10_needs 5 = .ok (.invokestatic 149, 3) := by decide +kernel
theorem dX10_needs_8 : decode cX10_needs 8 = .ok (.astore_n 3, 1) := by decide +kernel
theorem dX10_needs_9 : decode cX10_needs 9 = .ok (.iload_n 2, 1) := by decide +kernel
theorem dX10_needs_10 : decode cX10_needs 10 = .ok (.iconst 0, 1) := by decide +kernel
theorem dX10_needs_11 : decode cX10_needs 11 = .ok (.bipush 99, 2) := by decide +kernel
theorem dX10_needs_13 : decode cX10_needs 13 = .ok (.invokestatic 61, 3) := by decide +kernel
theorem dX10_needs_16 : decode cX10_needs 16 = .ok (.aload_n 3, 1) := by decide +kernel
theorem dX10_needs_17 : decode cX10_needs 17 = .ok (.iload_n 2, 1) := by decide +kernel
theorem dX10_needs_18 : decode cX10_needs 18 = .ok (.invokevirtual 289, 3) := by decide +kernel
theorem dX10_needs_21 : decode cX10_needs 21 = .ok (.ireturn, 1) := by decide +kernel
theorem dX10_reach_0 : decode cX10_reach 0 = .ok (.aload_n 0, 1) := by decide +kernel
theorem dX10_reach_1 : decode cX10_reach 1 = .ok (.iload_n 1, 1) := by decide +kernel
theorem dX10_reach_2 : decode cX10_reach 2 = .ok (.invokevirtual 173, 3) := by decide +kernel
theorem dX10_reach_5 : decode cX10_reach 5 = .ok (.astore_n 3, 1) := by decide +kernel
theorem dX10_reach_6 : decode cX10_reach 6 = .ok (.aload_n 0, 1) := by decide +kernel
theorem dX10_reach_7 : decode cX10_reach 7 = .ok (.getfield 19, 3) := by decide +kernel
theorem dX10_reach_10 : decode cX10_reach 10 = .ok (.iload_n 2, 1) := by decide +kernel
theorem dX10_reach_11 : decode cX10_reach 11 = .ok (.invokestatic 149, 3) := by decide +kernel
theorem dX10_reach_14 : decode cX10_reach 14 = .ok (.astore 4, 2) := by decide +kernel
theorem dX10_reach_16 : decode cX10_reach 16 = .ok (.aload 4, 2) := by decide +kernel
theorem dX10_reach_18 : decode cX10_reach 18 = .ok (.aload 4, 2) := by decide +kernel
theorem dX10_reach_20 : decode cX10_reach 20 = .ok (.getfield 153, 3) := by decide +kernel
theorem dX10_reach_23 : decode cX10_reach 23 = .ok (.aload_n 3, 1) := by decide +kernel
theorem dX10_reach_24 : decode cX10_reach 24 = .ok (.getfield 191, 3) := by decide +kernel
theorem dX10_reach_27 : decode cX10_reach 27 = .ok (.invokevirtual 292, 3) := by decide +kernel
theorem dX10_reach_30 : decode cX10_reach 30 = .ok (.ireturn, 1) := by decide +kernel
theorem dX10_calmDays_0 : decode cX10_calmDays 0 = .ok (.aload_n 0, 1) := by decide +kernel
theorem dX10_calmDays_1 : decode cX10_calmDays 1 = .ok (.iload_n 1, 1) := by decide +kernel
theorem dX10_calmDays_2 : decode cX10_calmDays 2 = .ok (.invokevirtual 173, 3) := by decide +kernel
theorem dX10_calmDays_5 : decode cX10_calmDays 5 = .ok (.astore_n 3, 1) := by decide +kernel
theorem dX10_calmDays_6 : decode cX10_calmDays 6 = .ok (.aload_n 0, 1) := by decide +kernel
theorem dX10_calmDays_7 : decode cX10_calmDays 7 = .ok (.getfield 19, 3) := by decide +kernel
theorem dX10_calmDays_10 : decode cX10_calmDays 10 = .ok (.iload_n 2, 1) := by decide +kernel
theorem dX10_calmDays_11 : decode cX10_calmDays 11 = .ok (.invokestatic 149, 3) := by decide +kernel
theorem dX10_calmDays_14 : decode cX10_calmDays 14 = .ok (.astore 4, 2) := by decide +kernel
theorem dX10_calmDays_16 : decode cX10_calmDays 16 = .ok (.iconst 0, 1) := by decide +kernel
theorem dX10_calmDays_17 : decode cX10_calmDays 17 = .ok (.istore 5, 2) := by decide +kernel
theorem dX10_calmDays_19 : decode cX10_calmDays 19 = .ok (.aload_n 0, 1) := by decide +kernel
theorem dX10_calmDays_20 : decode cX10_calmDays 20 = .ok (.getfield 19, 3) := by decide +kernel
theorem dX10_calmDays_23 : decode cX10_calmDays 23 = .ok (.getfield 115, 3) := by decide +kernel
theorem dX10_calmDays_26 : decode cX10_calmDays 26 = .ok (.aload 4, 2) := by decide +kernel
theorem dX10_calmDays_28 : decode cX10_calmDays 28 = .ok (.getfield 158, 3) := by decide +kernel
theorem dX10_calmDays_31 : decode cX10_calmDays 31 = .ok (.invokestatic 295, 3) := by decide +kernel
theorem dX10_calmDays_34 : decode cX10_calmDays 34 = .ok (.istore 6, 2) := by decide +kernel
theorem dX10_calmDays_36 : decode cX10_calmDays 36 = .ok (.iload 6, 2) := by decide +kernel
theorem dX10_calmDays_38 : decode cX10_calmDays 38 = .ok (.aload 4, 2) := by decide +kernel
theorem dX10_calmDays_40 : decode cX10_calmDays 40 = .ok (.getfield 161, 3) := by decide +kernel
theorem dX10_calmDays_43 : decode cX10_calmDays 43 = .ok (.if_icmp .gt 31, 3) := by decide +kernel
theorem dX10_calmDays_46 : decode cX10_calmDays 46 = .ok (.aload_n 0, 1) := by decide +kernel
theorem dX10_calmDays_47 : decode cX10_calmDays 47 = .ok (.getfield 19, 3) := by decide +kernel
theorem dX10_calmDays_50 : decode cX10_calmDays 50 = .ok (.getfield 51, 3) := by decide +kernel
theorem dX10_calmDays_53 : decode cX10_calmDays 53 = .ok (.iload 6, 2) := by decide +kernel
theorem dX10_calmDays_55 : decode cX10_calmDays 55 = .ok (.invokevirtual 203, 3) := by decide +kernel
theorem dX10_calmDays_58 : decode cX10_calmDays 58 = .ok (.aload_n 3, 1) := by decide +kernel
theorem dX10_calmDays_59 : decode cX10_calmDays 59 = .ok (.getfield 185, 3) := by decide +kernel
theorem dX10_calmDays_62 : decode cX10_calmDays 62 = .ok (.if_icmp .gt 6, 3) := by decide +kernel
theorem dX10_calmDays_65 : decode cX10_calmDays 65 = .ok (.iinc 5 1, 3) := by decide +kernel
theorem dX10_calmDays_68 : decode cX10_calmDays 68 = .ok (.iinc 6 1, 3) := by decide +kernel
theorem dX10_calmDays_71 : decode cX10_calmDays 71 = .ok (.goto (-35), 3) := by decide +kernel
theorem dX10_calmDays_74 : decode cX10_calmDays 74 = .ok (.iload 5, 2) := by decide +kernel
theorem dX10_calmDays_76 : decode cX10_calmDays 76 = .ok (.ireturn, 1) := by decide +kernel
theorem dX10_ahead_0 : decode cX10_ahead 0 = .ok (.iload_n 1, 1) := by decide +kernel
theorem dX10_ahead_1 : decode cX10_ahead 1 = .ok (.iconst 0, 1) := by decide +kernel
theorem dX10_ahead_2 : decode cX10_ahead 2 = .ok (.bipush 99, 2) := by decide +kernel
theorem dX10_ahead_4 : decode cX10_ahead 4 = .ok (.invokestatic 61, 3) := by decide +kernel
theorem dX10_ahead_7 : decode cX10_ahead 7 = .ok (.iload_n 2, 1) := by decide +kernel
theorem dX10_ahead_8 : decode cX10_ahead 8 = .ok (.iconst 0, 1) := by decide +kernel
theorem dX10_ahead_9 : decode cX10_ahead 9 = .ok (.iconst 4, 1) := by decide +kernel
theorem dX10_ahead_10 : decode cX10_ahead 10 = .ok (.invokestatic 61, 3) := by decide +kernel
theorem dX10_ahead_13 : decode cX10_ahead 13 = .ok (.aload_n 0, 1) := by decide +kernel
theorem dX10_ahead_14 : decode cX10_ahead 14 = .ok (.getfield 23, 3) := by decide +kernel
theorem dX10_ahead_17 : decode cX10_ahead 17 = .ok (.aload_n 0, 1) := by decide +kernel
theorem dX10_ahead_18 : decode cX10_ahead 18 = .ok (.getfield 19, 3) := by decide +kernel
theorem dX10_ahead_21 : decode cX10_ahead 21 = .ok (.invokevirtual 83, 3) := by decide +kernel
theorem dX10_ahead_24 : decode cX10_ahead 24 = .ok (.aload_n 0, 1) := by decide +kernel
theorem dX10_ahead_25 : decode cX10_ahead 25 = .ok (.getfield 23, 3) := by decide +kernel
theorem dX10_ahead_28 : decode cX10_ahead 28 = .ok (.iload_n 1, 1) := by decide +kernel
theorem dX10_ahead_29 : decode cX10_ahead 29 = .ok (.invokevirtual 282, 3) := by decide +kernel
theorem dX10_ahead_32 : decode cX10_ahead 32 = .ok (.iload_n 2, 1) := by decide +kernel
theorem dX10_ahead_33 : decode cX10_ahead 33 = .ok (.tableswitch 105 0 3 #[31, 53, 61, 83], 31) := by decide +kernel
theorem dX10_ahead_64 : decode cX10_ahead 64 = .ok (.aload_n 0, 1) := by decide +kernel
theorem dX10_ahead_65 : decode cX10_ahead 65 = .ok (.getfield 23, 3) := by decide +kernel
theorem dX10_ahead_68 : decode cX10_ahead 68 = .ok (.getfield 207, 3) := by decide +kernel
theorem dX10_ahead_71 : decode cX10_ahead 71 = .ok (.getfield 216, 3) := by decide +kernel
theorem dX10_ahead_74 : decode cX10_ahead 74 = .ok (.aload_n 0, 1) := by decide +kernel
theorem dX10_ahead_75 : decode cX10_ahead 75 = .ok (.getfield 19, 3) := by decide +kernel
theorem dX10_ahead_78 : decode cX10_ahead 78 = .ok (.getfield 207, 3) := by decide +kernel
theorem dX10_ahead_81 : decode cX10_ahead 81 = .ok (.getfield 216, 3) := by decide +kernel
theorem dX10_ahead_84 : decode cX10_ahead 84 = .ok (.isub, 1) := by decide +kernel
theorem dX10_ahead_85 : decode cX10_ahead 85 = .ok (.ireturn, 1) := by decide +kernel
theorem dX10_ahead_86 : decode cX10_ahead 86 = .ok (.aload_n 0, 1) := by decide +kernel
theorem dX10_ahead_87 : decode cX10_ahead 87 = .ok (.getfield 23, 3) := by decide +kernel
theorem dX10_ahead_90 : decode cX10_ahead 90 = .ok (.getfield 118, 3) := by decide +kernel
theorem dX10_ahead_93 : decode cX10_ahead 93 = .ok (.ireturn, 1) := by decide +kernel
theorem dX10_ahead_94 : decode cX10_ahead 94 = .ok (.aload_n 0, 1) := by decide +kernel
theorem dX10_ahead_95 : decode cX10_ahead 95 = .ok (.getfield 23, 3) := by decide +kernel
theorem dX10_ahead_98 : decode cX10_ahead 98 = .ok (.getfield 207, 3) := by decide +kernel
theorem dX10_ahead_101 : decode cX10_ahead 101 = .ok (.getfield 223, 3) := by decide +kernel
theorem dX10_ahead_104 : decode cX10_ahead 104 = .ok (.aload_n 0, 1) := by decide +kernel
theorem dX10_ahead_105 : decode cX10_ahead 105 = .ok (.getfield 19, 3) := by decide +kernel
theorem dX10_ahead_108 : decode cX10_ahead 108 = .ok (.getfield 207, 3) := by decide +kernel
theorem dX10_ahead_111 : decode cX10_ahead 111 = .ok (.getfield 223, 3) := by decide +kernel
theorem dX10_ahead_114 : decode cX10_ahead 114 = .ok (.isub, 1) := by decide +kernel
theorem dX10_ahead_115 : decode cX10_ahead 115 = .ok (.ireturn, 1) := by decide +kernel
theorem dX10_ahead_116 : decode cX10_ahead 116 = .ok (.aload_n 0, 1) := by decide +kernel
theorem dX10_ahead_117 : decode cX10_ahead 117 = .ok (.getfield 23, 3) := by decide +kernel
theorem dX10_ahead_120 : decode cX10_ahead 120 = .ok (.getfield 207, 3) := by decide +kernel
theorem dX10_ahead_123 : decode cX10_ahead 123 = .ok (.getfield 226, 3) := by decide +kernel
theorem dX10_ahead_126 : decode cX10_ahead 126 = .ok (.aload_n 0, 1) := by decide +kernel
theorem dX10_ahead_127 : decode cX10_ahead 127 = .ok (.getfield 19, 3) := by decide +kernel
theorem dX10_ahead_130 : decode cX10_ahead 130 = .ok (.getfield 207, 3) := by decide +kernel
theorem dX10_ahead_133 : decode cX10_ahead 133 = .ok (.getfield 226, 3) := by decide +kernel
theorem dX10_ahead_136 : decode cX10_ahead 136 = .ok (.isub, 1) := by decide +kernel
theorem dX10_ahead_137 : decode cX10_ahead 137 = .ok (.ireturn, 1) := by decide +kernel
theorem dX10_ahead_138 : decode cX10_ahead 138 = .ok (.aload_n 0, 1) := by decide +kernel
theorem dX10_ahead_139 : decode cX10_ahead 139 = .ok (.getfield 23, 3) := by decide +kernel
theorem dX10_ahead_142 : decode cX10_ahead 142 = .ok (.getfield 127, 3) := by decide +kernel
theorem dX10_ahead_145 : decode cX10_ahead 145 = .ok (.ireturn, 1) := by decide +kernel
theorem dX10_doneAfter_0 : decode cX10_doneAfter 0 = .ok (.aload_n 0, 1) := by decide +kernel
theorem dX10_doneAfter_1 : decode cX10_doneAfter 1 = .ok (.getfield 19, 3) := by decide +kernel
theorem dX10_doneAfter_4 : decode cX10_doneAfter 4 = .ok (.iload_n 1, 1) := by decide +kernel
theorem dX10_doneAfter_5 : decode cX10_doneAfter 5 = .ok (.invokestatic 149, 3) := by decide +kernel
theorem dX10_doneAfter_8 : decode cX10_doneAfter 8 = .ok (.pop, 1) := by decide +kernel
theorem dX10_doneAfter_9 : decode cX10_doneAfter 9 = .ok (.aload_n 0, 1) := by decide +kernel
theorem dX10_doneAfter_10 : decode cX10_doneAfter 10 = .ok (.getfield 23, 3) := by decide +kernel
theorem dX10_doneAfter_13 : decode cX10_doneAfter 13 = .ok (.aload_n 0, 1) := by decide +kernel
theorem dX10_doneAfter_14 : decode cX10_doneAfter 14 = .ok (.getfield 19, 3) := by decide +kernel
theorem dX10_doneAfter_17 : decode cX10_doneAfter 17 = .ok (.invokevirtual 83, 3) := by decide +kernel
theorem dX10_doneAfter_20 : decode cX10_doneAfter 20 = .ok (.aload_n 0, 1) := by decide +kernel
theorem dX10_doneAfter_21 : decode cX10_doneAfter 21 = .ok (.getfield 23, 3) := by decide +kernel
theorem dX10_doneAfter_24 : decode cX10_doneAfter 24 = .ok (.iload_n 1, 1) := by decide +kernel
theorem dX10_doneAfter_25 : decode cX10_doneAfter 25 = .ok (.invokevirtual 300, 3) := by decide +kernel
theorem dX10_doneAfter_28 : decode cX10_doneAfter 28 = .ok (.ireturn, 1) := by decide +kernel
theorem dX10_bestShip_0 : decode cX10_bestShip 0 = .ok (.bipush (-9), 2) := by decide +kernel
theorem dX10_bestShip_2 : decode cX10_bestShip 2 = .ok (.istore_n 1, 1) := by decide +kernel
theorem dX10_bestShip_3 : decode cX10_bestShip 3 = .ok (.iconst 0, 1) := by decide +kernel
theorem dX10_bestShip_4 : decode cX10_bestShip 4 = .ok (.istore_n 2, 1) := by decide +kernel
theorem dX10_bestShip_5 : decode cX10_bestShip 5 = .ok (.iconst 0, 1) := by decide +kernel
theorem dX10_bestShip_6 : decode cX10_bestShip 6 = .ok (.istore_n 3, 1) := by decide +kernel
theorem dX10_bestShip_7 : decode cX10_bestShip 7 = .ok (.iconst 0, 1) := by decide +kernel
theorem dX10_bestShip_8 : decode cX10_bestShip 8 = .ok (.istore 4, 2) := by decide +kernel
theorem dX10_bestShip_10 : decode cX10_bestShip 10 = .ok (.iload 4, 2) := by decide +kernel
theorem dX10_bestShip_12 : decode cX10_bestShip 12 = .ok (.aload_n 0, 1) := by decide +kernel
theorem dX10_bestShip_13 : decode cX10_bestShip 13 = .ok (.getfield 19, 3) := by decide +kernel
theorem dX10_bestShip_16 : decode cX10_bestShip 16 = .ok (.getfield 101, 3) := by decide +kernel
theorem dX10_bestShip_19 : decode cX10_bestShip 19 = .ok (.if_icmp .ge 98, 3) := by decide +kernel
theorem dX10_bestShip_22 : decode cX10_bestShip 22 = .ok (.aload_n 0, 1) := by decide +kernel
theorem dX10_bestShip_23 : decode cX10_bestShip 23 = .ok (.getfield 23, 3) := by decide +kernel
theorem dX10_bestShip_26 : decode cX10_bestShip 26 = .ok (.aload_n 0, 1) := by decide +kernel
theorem dX10_bestShip_27 : decode cX10_bestShip 27 = .ok (.getfield 19, 3) := by decide +kernel
theorem dX10_bestShip_30 : decode cX10_bestShip 30 = .ok (.invokevirtual 83, 3) := by decide +kernel
theorem dX10_bestShip_33 : decode cX10_bestShip 33 = .ok (.aload_n 0, 1) := by decide +kernel
theorem dX10_bestShip_34 : decode cX10_bestShip 34 = .ok (.getfield 23, 3) := by decide +kernel
theorem dX10_bestShip_37 : decode cX10_bestShip 37 = .ok (.iload 4, 2) := by decide +kernel
theorem dX10_bestShip_39 : decode cX10_bestShip 39 = .ok (.invokevirtual 303, 3) := by decide +kernel
theorem dX10_bestShip_42 : decode cX10_bestShip 42 = .ok (.ifCond .eq 69, 3) := by decide +kernel
theorem dX10_bestShip_45 : decode cX10_bestShip 45 = .ok (.aload_n 0, 1) := by decide +kernel
theorem dX10_bestShip_46 : decode cX10_bestShip 46 = .ok (.getfield 23, 3) := by decide +kernel
theorem dX10_bestShip_49 : decode cX10_bestShip 49 = .ok (.bipush 60, 2) := by decide +kernel
theorem dX10_bestShip_51 : decode cX10_bestShip 51 = .ok (.invokevirtual 282, 3) := by decide +kernel
theorem dX10_bestShip_54 : decode cX10_bestShip 54 = .ok (.aload_n 0, 1) := by decide +kernel
theorem dX10_bestShip_55 : decode cX10_bestShip 55 = .ok (.getfield 23, 3) := by decide +kernel
theorem dX10_bestShip_58 : decode cX10_bestShip 58 = .ok (.getfield 207, 3) := by decide +kernel
theorem dX10_bestShip_61 : decode cX10_bestShip 61 = .ok (.getfield 216, 3) := by decide +kernel
theorem dX10_bestShip_64 : decode cX10_bestShip 64 = .ok (.istore 5, 2) := by decide +kernel
theorem dX10_bestShip_66 : decode cX10_bestShip 66 = .ok (.aload_n 0, 1) := by decide +kernel
theorem dX10_bestShip_67 : decode cX10_bestShip 67 = .ok (.getfield 23, 3) := by decide +kernel
theorem dX10_bestShip_70 : decode cX10_bestShip 70 = .ok (.getfield 207, 3) := by decide +kernel
theorem dX10_bestShip_73 : decode cX10_bestShip 73 = .ok (.getfield 223, 3) := by decide +kernel
theorem dX10_bestShip_76 : decode cX10_bestShip 76 = .ok (.istore 6, 2) := by decide +kernel
theorem dX10_bestShip_78 : decode cX10_bestShip 78 = .ok (.iload_n 1, 1) := by decide +kernel
theorem dX10_bestShip_79 : decode cX10_bestShip 79 = .ok (.bipush (-9), 2) := by decide +kernel
theorem dX10_bestShip_81 : decode cX10_bestShip 81 = .ok (.if_icmp .eq 21, 3) := by decide +kernel
theorem dX10_bestShip_84 : decode cX10_bestShip 84 = .ok (.iload 5, 2) := by decide +kernel
theorem dX10_bestShip_86 : decode cX10_bestShip 86 = .ok (.iload_n 2, 1) := by decide +kernel
theorem dX10_bestShip_87 : decode cX10_bestShip 87 = .ok (.if_icmp .gt 15, 3) := by decide +kernel
theorem dX10_bestShip_90 : decode cX10_bestShip 90 = .ok (.iload 5, 2) := by decide +kernel
theorem dX10_bestShip_92 : decode cX10_bestShip 92 = .ok (.iload_n 2, 1) := by decide +kernel
theorem dX10_bestShip_93 : decode cX10_bestShip 93 = .ok (.if_icmp .ne 18, 3) := by decide +kernel
theorem dX10_bestShip_96 : decode cX10_bestShip 96 = .ok (.iload 6, 2) := by decide +kernel
theorem dX10_bestShip_98 : decode cX10_bestShip 98 = .ok (.iload_n 3, 1) := by decide +kernel
theorem dX10_bestShip_99 : decode cX10_bestShip 99 = .ok (.if_icmp .ge 12, 3) := by decide +kernel
theorem dX10_bestShip_102 : decode cX10_bestShip 102 = .ok (.iload 4, 2) := by decide +kernel
theorem dX10_bestShip_104 : decode cX10_bestShip 104 = .ok (.istore_n 1, 1) := by decide +kernel
theorem dX10_bestShip_105 : decode cX10_bestShip 105 = .ok (.iload 5, 2) := by decide +kernel
theorem dX10_bestShip_107 : decode cX10_bestShip 107 = .ok (.istore_n 2, 1) := by decide +kernel
theorem dX10_bestShip_108 : decode cX10_bestShip 108 = .ok (.iload 6, 2) := by decide +kernel
theorem dX10_bestShip_110 : decode cX10_bestShip 110 = .ok (.istore_n 3, 1) := by decide +kernel
theorem dX10_bestShip_111 : decode cX10_bestShip 111 = .ok (.iinc 4 1, 3) := by decide +kernel
theorem dX10_bestShip_114 : decode cX10_bestShip 114 = .ok (.goto (-104), 3) := by decide +kernel
theorem dX10_bestShip_117 : decode cX10_bestShip 117 = .ok (.iload_n 1, 1) := by decide +kernel
theorem dX10_bestShip_118 : decode cX10_bestShip 118 = .ok (.ireturn, 1) := by decide +kernel
theorem dX10_extension_0 : decode cX10_extension 0 = .ok (.aload_n 0, 1) := by decide +kernel
theorem dX10_extension_1 : decode cX10_extension 1 = .ok (.getfield 23, 3) := by decide +kernel
theorem dX10_extension_4 : decode cX10_extension 4 = .ok (.aload_n 0, 1) := by decide +kernel
theorem dX10_extension_5 : decode cX10_extension 5 = .ok (.getfield 19, 3) := by decide +kernel
theorem dX10_extension_8 : decode cX10_extension 8 = .ok (.invokevirtual 83, 3) := by decide +kernel
theorem dX10_extension_11 : decode cX10_extension 11 = .ok (.aload_n 0, 1) := by decide +kernel
theorem dX10_extension_12 : decode cX10_extension 12 = .ok (.getfield 23, 3) := by decide +kernel
theorem dX10_extension_15 : decode cX10_extension 15 = .ok (.iload_n 1, 1) := by decide +kernel
theorem dX10_extension_16 : decode cX10_extension 16 = .ok (.invokestatic 149, 3) := by decide +kernel
theorem dX10_extension_19 : decode cX10_extension 19 = .ok (.astore_n 2, 1) := by decide +kernel
theorem dX10_extension_20 : decode cX10_extension 20 = .ok (.aload_n 2, 1) := by decide +kernel
theorem dX10_extension_21 : decode cX10_extension 21 = .ok (.getfield 161, 3) := by decide +kernel
theorem dX10_extension_24 : decode cX10_extension 24 = .ok (.istore_n 3, 1) := by decide +kernel
theorem dX10_extension_25 : decode cX10_extension 25 = .ok (.aload_n 2, 1) := by decide +kernel
theorem dX10_extension_26 : decode cX10_extension 26 = .ok (.iload_n 3, 1) := by decide +kernel
theorem dX10_extension_27 : decode cX10_extension 27 = .ok (.bipush 99, 2) := by decide +kernel
theorem dX10_extension_29 : decode cX10_extension 29 = .ok (.iadd, 1) := by decide +kernel
theorem dX10_extension_30 : decode cX10_extension 30 = .ok (.sipush 999, 3) := by decide +kernel
theorem dX10_extension_33 : decode cX10_extension 33 = .ok (.invokestatic 306, 3) := by decide +kernel
theorem dX10_extension_36 : decode cX10_extension 36 = .ok (.putfield 161, 3) := by decide +kernel
theorem dX10_extension_39 : decode cX10_extension 39 = .ok (.aload_n 0, 1) := by decide +kernel
theorem dX10_extension_40 : decode cX10_extension 40 = .ok (.getfield 23, 3) := by decide +kernel
theorem dX10_extension_43 : decode cX10_extension 43 = .ok (.iload_n 1, 1) := by decide +kernel
theorem dX10_extension_44 : decode cX10_extension 44 = .ok (.invokevirtual 300, 3) := by decide +kernel
theorem dX10_extension_47 : decode cX10_extension 47 = .ok (.istore 4, 2) := by decide +kernel
theorem dX10_extension_49 : decode cX10_extension 49 = .ok (.iload 4, 2) := by decide +kernel
theorem dX10_extension_51 : decode cX10_extension 51 = .ok (.bipush (-9), 2) := by decide +kernel
theorem dX10_extension_53 : decode cX10_extension 53 = .ok (.if_icmp .ne 6, 3) := by decide +kernel
theorem dX10_extension_56 : decode cX10_extension 56 = .ok (.bipush (-9), 2) := by decide +kernel
theorem dX10_extension_58 : decode cX10_extension 58 = .ok (.ireturn, 1) := by decide +kernel
theorem dX10_extension_59 : decode cX10_extension 59 = .ok (.iload 4, 2) := by decide +kernel
theorem dX10_extension_61 : decode cX10_extension 61 = .ok (.ifCond .ne 7, 3) := by decide +kernel
theorem dX10_extension_64 : decode cX10_extension 64 = .ok (.iconst 0, 1) := by decide +kernel
theorem dX10_extension_65 : decode cX10_extension 65 = .ok (.goto 18, 3) := by decide +kernel
theorem dX10_extension_68 : decode cX10_extension 68 = .ok (.iconst 0, 1) := by decide +kernel
theorem dX10_extension_69 : decode cX10_extension 69 = .ok (.aload_n 0, 1) := by decide +kernel
theorem dX10_extension_70 : decode cX10_extension 70 = .ok (.getfield 23, 3) := by decide +kernel
theorem dX10_extension_73 : decode cX10_extension 73 = .ok (.getfield 115, 3) := by decide +kernel
theorem dX10_extension_76 : decode cX10_extension 76 = .ok (.iconst 1, 1) := by decide +kernel
theorem dX10_extension_77 : decode cX10_extension 77 = .ok (.isub, 1) := by decide +kernel
theorem dX10_extension_78 : decode cX10_extension 78 = .ok (.iload_n 3, 1) := by decide +kernel
theorem dX10_extension_79 : decode cX10_extension 79 = .ok (.isub, 1) := by decide +kernel
theorem dX10_extension_80 : decode cX10_extension 80 = .ok (.invokestatic 295, 3) := by decide +kernel
theorem dX10_extension_83 : decode cX10_extension 83 = .ok (.ireturn, 1) := by decide +kernel
theorem dX10_runScript_0 : decode cX10_runScript 0 = .ok (.iload_n 1, 1) := by decide +kernel
theorem dX10_runScript_1 : decode cX10_runScript 1 = .ok (.iconst 1, 1) := by decide +kernel
theorem dX10_runScript_2 : decode cX10_runScript 2 = .ok (.iconst 3, 1) := by decide +kernel
theorem dX10_runScript_3 : decode cX10_runScript 3 = .ok (.invokestatic 61, 3) := by decide +kernel
theorem dX10_runScript_6 : decode cX10_runScript 6 = .ok (.lload_n 2, 1) := by decide +kernel
theorem dX10_runScript_7 : decode cX10_runScript 7 = .ok (.lconst 0, 1) := by decide +kernel
theorem dX10_runScript_8 : decode cX10_runScript 8 = .ok (.lcmp, 1) := by decide +kernel
theorem dX10_runScript_9 : decode cX10_runScript 9 = .ok (.ifCond .lt 13, 3) := by decide +kernel
theorem dX10_runScript_12 : decode cX10_runScript 12 = .ok (.lload_n 2, 1) := by decide +kernel
theorem dX10_runScript_13 : decode cX10_runScript 13 = .ok (.iload_n 1, 1) := by decide +kernel
theorem dX10_runScript_14 : decode cX10_runScript 14 = .ok (.invokestatic 309, 3) := by decide +kernel
theorem dX10_runScript_17 : decode cX10_runScript 17 = .ok (.lconst 0, 1) := by decide +kernel
theorem dX10_runScript_18 : decode cX10_runScript 18 = .ok (.lcmp, 1) := by decide +kernel
theorem dX10_runScript_19 : decode cX10_runScript 19 = .ok (.ifCond .le 14, 3) := by decide +kernel
theorem dX10_runScript_22 : decode cX10_runScript 22 = .ok (.new 142, 3) := by decide +kernel
theorem dX10_runScript_25 : decode cX10_runScript 25 = .ok (.dup, 1) := by decide +kernel
theorem dX10_runScript_26 : decode cX10_runScript 26 = .ok (.ldc_w 315, 3) := by decide +kernel
theorem dX10_runScript_29 : decode cX10_runScript 29 = .ok (.invokespecial 146, 3) := by decide +kernel
theorem dX10_runScript_32 : decode cX10_runScript 32 = .ok (.athrow, 1) := by decide +kernel
theorem dX10_runScript_33 : decode cX10_runScript 33 = .ok (.aload_n 0, 1) := by decide +kernel
theorem dX10_runScript_34 : decode cX10_runScript 34 = .ok (.getfield 23, 3) := by decide +kernel
theorem dX10_runScript_37 : decode cX10_runScript 37 = .ok (.aload_n 0, 1) := by decide +kernel
theorem dX10_runScript_38 : decode cX10_runScript 38 = .ok (.getfield 19, 3) := by decide +kernel
theorem dX10_runScript_41 : decode cX10_runScript 41 = .ok (.invokevirtual 83, 3) := by decide +kernel
theorem dX10_runScript_44 : decode cX10_runScript 44 = .ok (.iconst 0, 1) := by decide +kernel
theorem dX10_runScript_45 : decode cX10_runScript 45 = .ok (.istore 4, 2) := by decide +kernel
theorem dX10_runScript_47 : decode cX10_runScript 47 = .ok (.iload 4, 2) := by decide +kernel
theorem dX10_runScript_49 : decode cX10_runScript 49 = .ok (.iload_n 1, 1) := by decide +kernel
theorem dX10_runScript_50 : decode cX10_runScript 50 = .ok (.if_icmp .ge 41, 3) := by decide +kernel
theorem dX10_runScript_53 : decode cX10_runScript 53 = .ok (.lload_n 2, 1) := by decide +kernel
theorem dX10_runScript_54 : decode cX10_runScript 54 = .ok (.iload_n 1, 1) := by decide +kernel
theorem dX10_runScript_55 : decode cX10_runScript 55 = .ok (.iconst 1, 1) := by decide +kernel
theorem dX10_runScript_56 : decode cX10_runScript 56 = .ok (.isub, 1) := by decide +kernel
theorem dX10_runScript_57 : decode cX10_runScript 57 = .ok (.iload 4, 2) := by decide +kernel
theorem dX10_runScript_59 : decode cX10_runScript 59 = .ok (.isub, 1) := by decide +kernel
theorem dX10_runScript_60 : decode cX10_runScript 60 = .ok (.invokestatic 309, 3) := by decide +kernel
theorem dX10_runScript_63 : decode cX10_runScript 63 = .ok (.ldc2_w 317, 3) := by decide +kernel
theorem dX10_runScript_66 : decode cX10_runScript 66 = .ok (.lrem, 1) := by decide +kernel
theorem dX10_runScript_67 : decode cX10_runScript 67 = .ok (.l2i, 1) := by decide +kernel
theorem dX10_runScript_68 : decode cX10_runScript 68 = .ok (.istore 5, 2) := by decide +kernel
theorem dX10_runScript_70 : decode cX10_runScript 70 = .ok (.aload_n 0, 1) := by decide +kernel
theorem dX10_runScript_71 : decode cX10_runScript 71 = .ok (.getfield 23, 3) := by decide +kernel
theorem dX10_runScript_74 : decode cX10_runScript 74 = .ok (.iload 5, 2) := by decide +kernel
theorem dX10_runScript_76 : decode cX10_runScript 76 = .ok (.invokestatic 319, 3) := by decide +kernel
theorem dX10_runScript_79 : decode cX10_runScript 79 = .ok (.ifCond .ne 6, 3) := by decide +kernel
theorem dX10_runScript_82 : decode cX10_runScript 82 = .ok (.iload 4, 2) := by decide +kernel
theorem dX10_runScript_84 : decode cX10_runScript 84 = .ok (.ireturn, 1) := by decide +kernel
theorem dX10_runScript_85 : decode cX10_runScript 85 = .ok (.iinc 4 1, 3) := by decide +kernel
theorem dX10_runScript_88 : decode cX10_runScript 88 = .ok (.goto (-41), 3) := by decide +kernel
theorem dX10_runScript_91 : decode cX10_runScript 91 = .ok (.bipush (-9), 2) := by decide +kernel
theorem dX10_runScript_93 : decode cX10_runScript 93 = .ok (.ireturn, 1) := by decide +kernel
theorem dX10_simulate_0 : decode cX10_simulate 0 = .ok (.iload_n 3, 1) := by decide +kernel
theorem dX10_simulate_1 : decode cX10_simulate 1 = .ok (.iconst 1, 1) := by decide +kernel
theorem dX10_simulate_2 : decode cX10_simulate 2 = .ok (.bipush 99, 2) := by decide +kernel
theorem dX10_simulate_4 : decode cX10_simulate 4 = .ok (.invokestatic 61, 3) := by decide +kernel
theorem dX10_simulate_7 : decode cX10_simulate 7 = .ok (.aload_n 0, 1) := by decide +kernel
theorem dX10_simulate_8 : decode cX10_simulate 8 = .ok (.getfield 23, 3) := by decide +kernel
theorem dX10_simulate_11 : decode cX10_simulate 11 = .ok (.aload_n 0, 1) := by decide +kernel
theorem dX10_simulate_12 : decode cX10_simulate 12 = .ok (.getfield 19, 3) := by decide +kernel
theorem dX10_simulate_15 : decode cX10_simulate 15 = .ok (.invokevirtual 83, 3) := by decide +kernel
theorem dX10_simulate_18 : decode cX10_simulate 18 = .ok (.lload_n 1, 1) := by decide +kernel
theorem dX10_simulate_19 : decode cX10_simulate 19 = .ok (.lstore 4, 2) := by decide +kernel
theorem dX10_simulate_21 : decode cX10_simulate 21 = .ok (.iconst 0, 1) := by decide +kernel
theorem dX10_simulate_22 : decode cX10_simulate 22 = .ok (.istore 6, 2) := by decide +kernel
theorem dX10_simulate_24 : decode cX10_simulate 24 = .ok (.iload 6, 2) := by decide +kernel
theorem dX10_simulate_26 : decode cX10_simulate 26 = .ok (.iload_n 3, 1) := by decide +kernel
theorem dX10_simulate_27 : decode cX10_simulate 27 = .ok (.if_icmp .ge 34, 3) := by decide +kernel
theorem dX10_simulate_30 : decode cX10_simulate 30 = .ok (.lload 4, 2) := by decide +kernel
theorem dX10_simulate_32 : decode cX10_simulate 32 = .ok (.ldc2_w 323, 3) := by decide +kernel
theorem dX10_simulate_35 : decode cX10_simulate 35 = .ok (.lmul, 1) := by decide +kernel
theorem dX10_simulate_36 : decode cX10_simulate 36 = .ok (.ldc2_w 325, 3) := by decide +kernel
theorem dX10_simulate_39 : decode cX10_simulate 39 = .ok (.ladd, 1) := by decide +kernel
theorem dX10_simulate_40 : decode cX10_simulate 40 = .ok (.lstore 4, 2) := by decide +kernel
theorem dX10_simulate_42 : decode cX10_simulate 42 = .ok (.aload_n 0, 1) := by decide +kernel
theorem dX10_simulate_43 : decode cX10_simulate 43 = .ok (.getfield 23, 3) := by decide +kernel
theorem dX10_simulate_46 : decode cX10_simulate 46 = .ok (.lload 4, 2) := by decide +kernel
theorem dX10_simulate_48 : decode cX10_simulate 48 = .ok (.bipush 33, 2) := by decide +kernel
theorem dX10_simulate_50 : decode cX10_simulate 50 = .ok (.lushr, 1) := by decide +kernel
theorem dX10_simulate_51 : decode cX10_simulate 51 = .ok (.l2i, 1) := by decide +kernel
theorem dX10_simulate_52 : decode cX10_simulate 52 = .ok (.invokevirtual 327, 3) := by decide +kernel
theorem dX10_simulate_55 : decode cX10_simulate 55 = .ok (.iinc 6 1, 3) := by decide +kernel
theorem dX10_simulate_58 : decode cX10_simulate 58 = .ok (.goto (-34), 3) := by decide +kernel
theorem dX10_simulate_61 : decode cX10_simulate 61 = .ok (.sipush 1000, 3) := by decide +kernel
theorem dX10_simulate_64 : decode cX10_simulate 64 = .ok (.aload_n 0, 1) := by decide +kernel
theorem dX10_simulate_65 : decode cX10_simulate 65 = .ok (.getfield 23, 3) := by decide +kernel
theorem dX10_simulate_68 : decode cX10_simulate 68 = .ok (.getfield 207, 3) := by decide +kernel
theorem dX10_simulate_71 : decode cX10_simulate 71 = .ok (.getfield 216, 3) := by decide +kernel
theorem dX10_simulate_74 : decode cX10_simulate 74 = .ok (.aload_n 0, 1) := by decide +kernel
theorem dX10_simulate_75 : decode cX10_simulate 75 = .ok (.getfield 19, 3) := by decide +kernel
theorem dX10_simulate_78 : decode cX10_simulate 78 = .ok (.getfield 207, 3) := by decide +kernel
theorem dX10_simulate_81 : decode cX10_simulate 81 = .ok (.getfield 216, 3) := by decide +kernel
theorem dX10_simulate_84 : decode cX10_simulate 84 = .ok (.isub, 1) := by decide +kernel
theorem dX10_simulate_85 : decode cX10_simulate 85 = .ok (.imul, 1) := by decide +kernel
theorem dX10_simulate_86 : decode cX10_simulate 86 = .ok (.aload_n 0, 1) := by decide +kernel
theorem dX10_simulate_87 : decode cX10_simulate 87 = .ok (.getfield 23, 3) := by decide +kernel
theorem dX10_simulate_90 : decode cX10_simulate 90 = .ok (.getfield 115, 3) := by decide +kernel
theorem dX10_simulate_93 : decode cX10_simulate 93 = .ok (.iadd, 1) := by decide +kernel
theorem dX10_simulate_94 : decode cX10_simulate 94 = .ok (.ireturn, 1) := by decide +kernel
theorem dX10_save_0 : decode cX10_save 0 = .ok (.aload_n 0, 1) := by decide +kernel
theorem dX10_save_1 : decode cX10_save 1 = .ok (.iload_n 1, 1) := by decide +kernel
theorem dX10_save_2 : decode cX10_save 2 = .ok (.invokevirtual 330, 3) := by decide +kernel
theorem dX10_save_5 : decode cX10_save 5 = .ok (.astore_n 2, 1) := by decide +kernel
theorem dX10_save_6 : decode cX10_save 6 = .ok (.aload_n 2, 1) := by decide +kernel
theorem dX10_save_7 : decode cX10_save 7 = .ok (.getfield 334, 3) := by decide +kernel
theorem dX10_save_10 : decode cX10_save 10 = .ok (.aload_n 0, 1) := by decide +kernel
theorem dX10_save_11 : decode cX10_save 11 = .ok (.getfield 19, 3) := by decide +kernel
theorem dX10_save_14 : decode cX10_save 14 = .ok (.invokevirtual 83, 3) := by decide +kernel
theorem dX10_save_17 : decode cX10_save 17 = .ok (.aload_n 2, 1) := by decide +kernel
theorem dX10_save_18 : decode cX10_save 18 = .ok (.iconst 1, 1) := by decide +kernel
theorem dX10_save_19 : decode cX10_save 19 = .ok (.putfield 89, 3) := by decide +kernel
theorem dX10_save_22 : decode cX10_save 22 = .ok (.aload_n 0, 1) := by decide +kernel
theorem dX10_save_23 : decode cX10_save 23 = .ok (.getfield 19, 3) := by decide +kernel
theorem dX10_save_26 : decode cX10_save 26 = .ok (.getfield 115, 3) := by decide +kernel
theorem dX10_save_29 : decode cX10_save 29 = .ok (.ireturn, 1) := by decide +kernel
theorem dX10_restore_0 : decode cX10_restore 0 = .ok (.aload_n 0, 1) := by decide +kernel
theorem dX10_restore_1 : decode cX10_restore 1 = .ok (.iload_n 1, 1) := by decide +kernel
theorem dX10_restore_2 : decode cX10_restore 2 = .ok (.invokevirtual 330, 3) := by decide +kernel
theorem dX10_restore_5 : decode cX10_restore 5 = .ok (.astore_n 2, 1) := by decide +kernel
theorem dX10_restore_6 : decode cX10_restore 6 = .ok (.aload_n 2, 1) := by decide +kernel
theorem dX10_restore_7 : decode cX10_restore 7 = .ok (.getfield 89, 3) := by decide +kernel
theorem dX10_restore_10 : decode cX10_restore 10 = .ok (.invokestatic 68, 3) := by decide +kernel
theorem dX10_restore_13 : decode cX10_restore 13 = .ok (.aload_n 0, 1) := by decide +kernel
theorem dX10_restore_14 : decode cX10_restore 14 = .ok (.getfield 19, 3) := by decide +kernel
theorem dX10_restore_17 : decode cX10_restore 17 = .ok (.aload_n 2, 1) := by decide +kernel
theorem dX10_restore_18 : decode cX10_restore 18 = .ok (.getfield 334, 3) := by decide +kernel
theorem dX10_restore_21 : decode cX10_restore 21 = .ok (.invokevirtual 83, 3) := by decide +kernel
theorem dX10_restore_24 : decode cX10_restore 24 = .ok (.aload_n 0, 1) := by decide +kernel
theorem dX10_restore_25 : decode cX10_restore 25 = .ok (.getfield 29, 3) := by decide +kernel
theorem dX10_restore_28 : decode cX10_restore 28 = .ok (.invokevirtual 87, 3) := by decide +kernel
theorem dX10_restore_31 : decode cX10_restore 31 = .ok (.aload_n 0, 1) := by decide +kernel
theorem dX10_restore_32 : decode cX10_restore 32 = .ok (.getfield 19, 3) := by decide +kernel
theorem dX10_restore_35 : decode cX10_restore 35 = .ok (.getfield 115, 3) := by decide +kernel
theorem dX10_restore_38 : decode cX10_restore 38 = .ok (.ireturn, 1) := by decide +kernel
theorem dX10_requireRange_0 : decode cX10_requireRange 0 = .ok (.iload_n 0, 1) := by decide +kernel
theorem dX10_requireRange_1 : decode cX10_requireRange 1 = .ok (.iload_n 1, 1) := by decide +kernel
theorem dX10_requireRange_2 : decode cX10_requireRange 2 = .ok (.if_icmp .lt 8, 3) := by decide +kernel
theorem dX10_requireRange_5 : decode cX10_requireRange 5 = .ok (.iload_n 0, 1) := by decide +kernel
theorem dX10_requireRange_6 : decode cX10_requireRange 6 = .ok (.iload_n 2, 1) := by decide +kernel
theorem dX10_requireRange_7 : decode cX10_requireRange 7 = .ok (.if_icmp .le 14, 3) := by decide +kernel
theorem dX10_requireRange_10 : decode cX10_requireRange 10 = .ok (.new 142, 3) := by decide +kernel
theorem dX10_requireRange_13 : decode cX10_requireRange 13 = .ok (.dup, 1) := by decide +kernel
theorem dX10_requireRange_14 : decode cX10_requireRange 14 = .ok (.ldc_w 337, 3) := by decide +kernel
theorem dX10_requireRange_17 : decode cX10_requireRange 17 = .ok (.invokespecial 146, 3) := by decide +kernel
theorem dX10_requireRange_20 : decode cX10_requireRange 20 = .ok (.athrow, 1) := by decide +kernel
theorem dX10_requireRange_21 : decode cX10_requireRange 21 = .ok (.return_, 1) := by decide +kernel
theorem dX10_require_0 : decode cX10_require 0 = .ok (.iload_n 0, 1) := by decide +kernel
theorem dX10_require_1 : decode cX10_require 1 = .ok (.ifCond .ne 14, 3) := by decide +kernel
theorem dX10_require_4 : decode cX10_require 4 = .ok (.new 339, 3) := by decide +kernel
theorem dX10_require_7 : decode cX10_require 7 = .ok (.dup, 1) := by decide +kernel
theorem dX10_require_8 : decode cX10_require 8 = .ok (.ldc_w 341, 3) := by decide +kernel
theorem dX10_require_11 : decode cX10_require 11 = .ok (.invokespecial 343, 3) := by decide +kernel
theorem dX10_require_14 : decode cX10_require 14 = .ok (.athrow, 1) := by decide +kernel
theorem dX10_require_15 : decode cX10_require 15 = .ok (.return_, 1) := by decide +kernel
theorem dX10_existingZone_0 : decode cX10_existingZone 0 = .ok (.aload_n 0, 1) := by decide +kernel
theorem dX10_existingZone_1 : decode cX10_existingZone 1 = .ok (.iload_n 1, 1) := by decide +kernel
theorem dX10_existingZone_2 : decode cX10_existingZone 2 = .ok (.invokevirtual 344, 3) := by decide +kernel
theorem dX10_existingZone_5 : decode cX10_existingZone 5 = .ok (.astore_n 2, 1) := by decide +kernel
theorem dX10_existingZone_6 : decode cX10_existingZone 6 = .ok (.aload_n 2, 1) := by decide +kernel
theorem dX10_existingZone_7 : decode cX10_existingZone 7 = .ok (.ifnonnull 14, 3) := by decide +kernel
theorem dX10_existingZone_10 : decode cX10_existingZone 10 = .ok (.new 348, 3) := by decide +kernel
theorem dX10_existingZone_13 : decode cX10_existingZone 13 = .ok (.dup, 1) := by decide +kernel
theorem dX10_existingZone_14 : decode cX10_existingZone 14 = .ok (.ldc_w 350, 3) := by decide +kernel
theorem dX10_existingZone_17 : decode cX10_existingZone 17 = .ok (.invokespecial 352, 3) := by decide +kernel
theorem dX10_existingZone_20 : decode cX10_existingZone 20 = .ok (.athrow, 1) := by decide +kernel
theorem dX10_existingZone_21 : decode cX10_existingZone 21 = .ok (.aload_n 2, 1) := by decide +kernel
theorem dX10_existingZone_22 : decode cX10_existingZone 22 = .ok (.areturn, 1) := by decide +kernel
theorem dX10_existingShip_0 : decode cX10_existingShip 0 = .ok (.aload_n 0, 1) := by decide +kernel
theorem dX10_existingShip_1 : decode cX10_existingShip 1 = .ok (.getfield 19, 3) := by decide +kernel
theorem dX10_existingShip_4 : decode cX10_existingShip 4 = .ok (.iload_n 1, 1) := by decide +kernel
theorem dX10_existingShip_5 : decode cX10_existingShip 5 = .ok (.invokevirtual 353, 3) := by decide +kernel
theorem dX10_existingShip_8 : decode cX10_existingShip 8 = .ok (.astore_n 2, 1) := by decide +kernel
theorem dX10_existingShip_9 : decode cX10_existingShip 9 = .ok (.aload_n 2, 1) := by decide +kernel
theorem dX10_existingShip_10 : decode cX10_existingShip 10 = .ok (.ifnonnull 14, 3) := by decide +kernel
theorem dX10_existingShip_13 : decode cX10_existingShip 13 = .ok (.new 348, 3) := by decide +kernel
theorem dX10_existingShip_16 : decode cX10_existingShip 16 = .ok (.dup, 1) := by decide +kernel
theorem dX10_existingShip_17 : decode cX10_existingShip 17 = .ok (.ldc_w 356, 3) := by decide +kernel
theorem dX10_existingShip_20 : decode cX10_existingShip 20 = .ok (.invokespecial 352, 3) := by decide +kernel
theorem dX10_existingShip_23 : decode cX10_existingShip 23 = .ok (.athrow, 1) := by decide +kernel
theorem dX10_existingShip_24 : decode cX10_existingShip 24 = .ok (.aload_n 2, 1) := by decide +kernel
theorem dX10_existingShip_25 : decode cX10_existingShip 25 = .ok (.areturn, 1) := by decide +kernel
theorem dX10_existingSlot_0 : decode cX10_existingSlot 0 = .ok (.iload_n 1, 1) := by decide +kernel
theorem dX10_existingSlot_1 : decode cX10_existingSlot 1 = .ok (.ifCond .lt 12, 3) := by decide +kernel
theorem dX10_existingSlot_4 : decode cX10_existingSlot 4 = .ok (.iload_n 1, 1) := by decide +kernel
theorem dX10_existingSlot_5 : decode cX10_existingSlot 5 = .ok (.aload_n 0, 1) := by decide +kernel
theorem dX10_existingSlot_6 : decode cX10_existingSlot 6 = .ok (.getfield 35, 3) := by decide +kernel
theorem dX10_existingSlot_9 : decode cX10_existingSlot 9 = .ok (.arraylength, 1) := by decide +kernel
theorem dX10_existingSlot_10 : decode cX10_existingSlot 10 = .ok (.if_icmp .lt 14, 3) := by decide +kernel
theorem dX10_existingSlot_13 : decode cX10_existingSlot 13 = .ok (.new 348, 3) := by decide +kernel
theorem dX10_existingSlot_16 : decode cX10_existingSlot 16 = .ok (.dup, 1) := by decide +kernel
theorem dX10_existingSlot_17 : decode cX10_existingSlot 17 = .ok (.ldc_w 358, 3) := by decide +kernel
theorem dX10_existingSlot_20 : decode cX10_existingSlot 20 = .ok (.invokespecial 352, 3) := by decide +kernel
theorem dX10_existingSlot_23 : decode cX10_existingSlot 23 = .ok (.athrow, 1) := by decide +kernel
theorem dX10_existingSlot_24 : decode cX10_existingSlot 24 = .ok (.aload_n 0, 1) := by decide +kernel
theorem dX10_existingSlot_25 : decode cX10_existingSlot 25 = .ok (.getfield 35, 3) := by decide +kernel
theorem dX10_existingSlot_28 : decode cX10_existingSlot 28 = .ok (.iload_n 1, 1) := by decide +kernel
theorem dX10_existingSlot_29 : decode cX10_existingSlot 29 = .ok (.aaload, 1) := by decide +kernel
theorem dX10_existingSlot_30 : decode cX10_existingSlot 30 = .ok (.areturn, 1) := by decide +kernel
end
section
theorem dL_tryAppend_0 : decode cL_tryAppend 0 = .ok (.aload_n 0, 1) := by decide +kernel
theorem dL_tryAppend_1 : decode cL_tryAppend 1 = .ok (.iload_n 1, 1) := by decide +kernel
theorem dL_tryAppend_2 : decode cL_tryAppend 2 = .ok (.invokevirtual 7, 3) := by decide +kernel
theorem dL_tryAppend_5 : decode cL_tryAppend 5 = .ok (.ireturn, 1) := by decide +kernel
theorem dL_tryAppend_6 : decode cL_tryAppend 6 = .ok (.astore_n 2, 1) := by decide +kernel
theorem dL_tryAppend_7 : decode cL_tryAppend 7 = .ok (.sipush (-1002), 3) := by decide +kernel
theorem dL_tryAppend_10 : decode cL_tryAppend 10 = .ok (.ireturn, 1) := by decide +kernel
theorem dL_tryAppend_11 : decode cL_tryAppend 11 = .ok (.astore_n 2, 1) := by decide +kernel
theorem dL_tryAppend_12 : decode cL_tryAppend 12 = .ok (.sipush (-1003), 3) := by decide +kernel
theorem dL_tryAppend_15 : decode cL_tryAppend 15 = .ok (.ireturn, 1) := by decide +kernel
theorem dL_tryLoad_0 : decode cL_tryLoad 0 = .ok (.aload_n 0, 1) := by decide +kernel
theorem dL_tryLoad_1 : decode cL_tryLoad 1 = .ok (.invokevirtual 17, 3) := by decide +kernel
theorem dL_tryLoad_4 : decode cL_tryLoad 4 = .ok (.ireturn, 1) := by decide +kernel
theorem dL_tryLoad_5 : decode cL_tryLoad 5 = .ok (.astore_n 1, 1) := by decide +kernel
theorem dL_tryLoad_6 : decode cL_tryLoad 6 = .ok (.sipush (-1003), 3) := by decide +kernel
theorem dL_tryLoad_9 : decode cL_tryLoad 9 = .ok (.ireturn, 1) := by decide +kernel
theorem dL_tryAbout_0 : decode cL_tryAbout 0 = .ok (.aload_n 0, 1) := by decide +kernel
theorem dL_tryAbout_1 : decode cL_tryAbout 1 = .ok (.iload_n 1, 1) := by decide +kernel
theorem dL_tryAbout_2 : decode cL_tryAbout 2 = .ok (.invokevirtual 21, 3) := by decide +kernel
theorem dL_tryAbout_5 : decode cL_tryAbout 5 = .ok (.ireturn, 1) := by decide +kernel
theorem dL_tryAbout_6 : decode cL_tryAbout 6 = .ok (.astore_n 2, 1) := by decide +kernel
theorem dL_tryAbout_7 : decode cL_tryAbout 7 = .ok (.sipush (-1002), 3) := by decide +kernel
theorem dL_tryAbout_10 : decode cL_tryAbout 10 = .ok (.ireturn, 1) := by decide +kernel
theorem dL_tryZone_0 : decode cL_tryZone 0 = .ok (.aload_n 0, 1) := by decide +kernel
theorem dL_tryZone_1 : decode cL_tryZone 1 = .ok (.iload_n 1, 1) := by decide +kernel
theorem dL_tryZone_2 : decode cL_tryZone 2 = .ok (.iload_n 2, 1) := by decide +kernel
theorem dL_tryZone_3 : decode cL_tryZone 3 = .ok (.invokevirtual 24, 3) := by decide +kernel
theorem dL_tryZone_6 : decode cL_tryZone 6 = .ok (.ireturn, 1) := by decide +kernel
theorem dL_tryZone_7 : decode cL_tryZone 7 = .ok (.astore_n 3, 1) := by decide +kernel
theorem dL_tryZone_8 : decode cL_tryZone 8 = .ok (.sipush (-1001), 3) := by decide +kernel
theorem dL_tryZone_11 : decode cL_tryZone 11 = .ok (.ireturn, 1) := by decide +kernel
theorem dL_tryZone_12 : decode cL_tryZone 12 = .ok (.astore_n 3, 1) := by decide +kernel
theorem dL_tryZone_13 : decode cL_tryZone 13 = .ok (.sipush (-1002), 3) := by decide +kernel
theorem dL_tryZone_16 : decode cL_tryZone 16 = .ok (.ireturn, 1) := by decide +kernel
theorem dL_tryShip_0 : decode cL_tryShip 0 = .ok (.aload_n 0, 1) := by decide +kernel
theorem dL_tryShip_1 : decode cL_tryShip 1 = .ok (.iload_n 1, 1) := by decide +kernel
theorem dL_tryShip_2 : decode cL_tryShip 2 = .ok (.iload_n 2, 1) := by decide +kernel
theorem dL_tryShip_3 : decode cL_tryShip 3 = .ok (.invokevirtual 30, 3) := by decide +kernel
theorem dL_tryShip_6 : decode cL_tryShip 6 = .ok (.ireturn, 1) := by decide +kernel
theorem dL_tryShip_7 : decode cL_tryShip 7 = .ok (.astore_n 3, 1) := by decide +kernel
theorem dL_tryShip_8 : decode cL_tryShip 8 = .ok (.sipush (-1001), 3) := by decide +kernel
theorem dL_tryShip_11 : decode cL_tryShip 11 = .ok (.ireturn, 1) := by decide +kernel
theorem dL_tryShip_12 : decode cL_tryShip 12 = .ok (.astore_n 3, 1) := by decide +kernel
theorem dL_tryShip_13 : decode cL_tryShip 13 = .ok (.sipush (-1002), 3) := by decide +kernel
theorem dL_tryShip_16 : decode cL_tryShip 16 = .ok (.ireturn, 1) := by decide +kernel
theorem dL_tryWaves_0 : decode cL_tryWaves 0 = .ok (.aload_n 0, 1) := by decide +kernel
theorem dL_tryWaves_1 : decode cL_tryWaves 1 = .ok (.iload_n 1, 1) := by decide +kernel
theorem dL_tryWaves_2 : decode cL_tryWaves 2 = .ok (.invokevirtual 33, 3) := by decide +kernel
theorem dL_tryWaves_5 : decode cL_tryWaves 5 = .ok (.ireturn, 1) := by decide +kernel
theorem dL_tryWaves_6 : decode cL_tryWaves 6 = .ok (.astore_n 2, 1) := by decide +kernel
theorem dL_tryWaves_7 : decode cL_tryWaves 7 = .ok (.sipush (-1002), 3) := by decide +kernel
theorem dL_tryWaves_10 : decode cL_tryWaves 10 = .ok (.ireturn, 1) := by decide +kernel
theorem dL_tryAccount_0 : decode cL_tryAccount 0 = .ok (.aload_n 0, 1) := by decide +kernel
theorem dL_tryAccount_1 : decode cL_tryAccount 1 = .ok (.iload_n 1, 1) := by decide +kernel
theorem dL_tryAccount_2 : decode cL_tryAccount 2 = .ok (.invokevirtual 36, 3) := by decide +kernel
theorem dL_tryAccount_5 : decode cL_tryAccount 5 = .ok (.ireturn, 1) := by decide +kernel
theorem dL_tryAccount_6 : decode cL_tryAccount 6 = .ok (.astore_n 2, 1) := by decide +kernel
theorem dL_tryAccount_7 : decode cL_tryAccount 7 = .ok (.sipush (-1002), 3) := by decide +kernel
theorem dL_tryAccount_10 : decode cL_tryAccount 10 = .ok (.ireturn, 1) := by decide +kernel
theorem dL_tryTake_0 : decode cL_tryTake 0 = .ok (.aload_n 0, 1) := by decide +kernel
theorem dL_tryTake_1 : decode cL_tryTake 1 = .ok (.iload_n 1, 1) := by decide +kernel
theorem dL_tryTake_2 : decode cL_tryTake 2 = .ok (.iload_n 2, 1) := by decide +kernel
theorem dL_tryTake_3 : decode cL_tryTake 3 = .ok (.invokevirtual 39, 3) := by decide +kernel
theorem dL_tryTake_6 : decode cL_tryTake 6 = .ok (.ireturn, 1) := by decide +kernel
theorem dL_tryTake_7 : decode cL_tryTake 7 = .ok (.astore_n 3, 1) := by decide +kernel
theorem dL_tryTake_8 : decode cL_tryTake 8 = .ok (.sipush (-1001), 3) := by decide +kernel
theorem dL_tryTake_11 : decode cL_tryTake 11 = .ok (.ireturn, 1) := by decide +kernel
theorem dL_tryTake_12 : decode cL_tryTake 12 = .ok (.astore_n 3, 1) := by decide +kernel
theorem dL_tryTake_13 : decode cL_tryTake 13 = .ok (.sipush (-1002), 3) := by decide +kernel
theorem dL_tryTake_16 : decode cL_tryTake 16 = .ok (.ireturn, 1) := by decide +kernel
theorem dL_tryTake_17 : decode cL_tryTake 17 = .ok (.astore_n 3, 1) := by decide +kernel
theorem dL_tryTake_18 : decode cL_tryTake 18 = .ok (.sipush (-1003), 3) := by decide +kernel
theorem dL_tryTake_21 : decode cL_tryTake 21 = .ok (.ireturn, 1) := by decide +kernel
theorem dL_trySend_0 : decode cL_trySend 0 = .ok (.aload_n 0, 1) := by decide +kernel
theorem dL_trySend_1 : decode cL_trySend 1 = .ok (.iload_n 1, 1) := by decide +kernel
theorem dL_trySend_2 : decode cL_trySend 2 = .ok (.invokevirtual 42, 3) := by decide +kernel
theorem dL_trySend_5 : decode cL_trySend 5 = .ok (.ireturn, 1) := by decide +kernel
theorem dL_trySend_6 : decode cL_trySend 6 = .ok (.astore_n 2, 1) := by decide +kernel
theorem dL_trySend_7 : decode cL_trySend 7 = .ok (.sipush (-1001), 3) := by decide +kernel
theorem dL_trySend_10 : decode cL_trySend 10 = .ok (.ireturn, 1) := by decide +kernel
theorem dL_trySend_11 : decode cL_trySend 11 = .ok (.astore_n 2, 1) := by decide +kernel
theorem dL_trySend_12 : decode cL_trySend 12 = .ok (.sipush (-1003), 3) := by decide +kernel
theorem dL_trySend_15 : decode cL_trySend 15 = .ok (.ireturn, 1) := by decide +kernel
theorem dL_tryRecall_0 : decode cL_tryRecall 0 = .ok (.aload_n 0, 1) := by decide +kernel
theorem dL_tryRecall_1 : decode cL_tryRecall 1 = .ok (.iload_n 1, 1) := by decide +kernel
theorem dL_tryRecall_2 : decode cL_tryRecall 2 = .ok (.invokevirtual 45, 3) := by decide +kernel
theorem dL_tryRecall_5 : decode cL_tryRecall 5 = .ok (.ireturn, 1) := by decide +kernel
theorem dL_tryRecall_6 : decode cL_tryRecall 6 = .ok (.astore_n 2, 1) := by decide +kernel
theorem dL_tryRecall_7 : decode cL_tryRecall 7 = .ok (.sipush (-1001), 3) := by decide +kernel
theorem dL_tryRecall_10 : decode cL_tryRecall 10 = .ok (.ireturn, 1) := by decide +kernel
theorem dL_tryRecall_11 : decode cL_tryRecall 11 = .ok (.astore_n 2, 1) := by decide +kernel
theorem dL_tryRecall_12 : decode cL_tryRecall 12 = .ok (.sipush (-1003), 3) := by decide +kernel
theorem dL_tryRecall_15 : decode cL_tryRecall 15 = .ok (.ireturn, 1) := by decide +kernel
theorem dL_tryExtend_0 : decode cL_tryExtend 0 = .ok (.aload_n 0, 1) := by decide +kernel
theorem dL_tryExtend_1 : decode cL_tryExtend 1 = .ok (.iload_n 1, 1) := by decide +kernel
theorem dL_tryExtend_2 : decode cL_tryExtend 2 = .ok (.iload_n 2, 1) := by decide +kernel
theorem dL_tryExtend_3 : decode cL_tryExtend 3 = .ok (.invokevirtual 48, 3) := by decide +kernel
theorem dL_tryExtend_6 : decode cL_tryExtend 6 = .ok (.ireturn, 1) := by decide +kernel
theorem dL_tryExtend_7 : decode cL_tryExtend 7 = .ok (.astore_n 3, 1) := by decide +kernel
theorem dL_tryExtend_8 : decode cL_tryExtend 8 = .ok (.sipush (-1001), 3) := by decide +kernel
theorem dL_tryExtend_11 : decode cL_tryExtend 11 = .ok (.ireturn, 1) := by decide +kernel
theorem dL_tryExtend_12 : decode cL_tryExtend 12 = .ok (.astore_n 3, 1) := by decide +kernel
theorem dL_tryExtend_13 : decode cL_tryExtend 13 = .ok (.sipush (-1002), 3) := by decide +kernel
theorem dL_tryExtend_16 : decode cL_tryExtend 16 = .ok (.ireturn, 1) := by decide +kernel
theorem dL_tryExtend_17 : decode cL_tryExtend 17 = .ok (.astore_n 3, 1) := by decide +kernel
theorem dL_tryExtend_18 : decode cL_tryExtend 18 = .ok (.sipush (-1003), 3) := by decide +kernel
theorem dL_tryExtend_21 : decode cL_tryExtend 21 = .ok (.ireturn, 1) := by decide +kernel
theorem dL_tryBuy_0 : decode cL_tryBuy 0 = .ok (.aload_n 0, 1) := by decide +kernel
theorem dL_tryBuy_1 : decode cL_tryBuy 1 = .ok (.iload_n 1, 1) := by decide +kernel
theorem dL_tryBuy_2 : decode cL_tryBuy 2 = .ok (.invokevirtual 51, 3) := by decide +kernel
theorem dL_tryBuy_5 : decode cL_tryBuy 5 = .ok (.ireturn, 1) := by decide +kernel
theorem dL_tryBuy_6 : decode cL_tryBuy 6 = .ok (.astore_n 2, 1) := by decide +kernel
theorem dL_tryBuy_7 : decode cL_tryBuy 7 = .ok (.sipush (-1002), 3) := by decide +kernel
theorem dL_tryBuy_10 : decode cL_tryBuy 10 = .ok (.ireturn, 1) := by decide +kernel
theorem dL_tryBuy_11 : decode cL_tryBuy 11 = .ok (.astore_n 2, 1) := by decide +kernel
theorem dL_tryBuy_12 : decode cL_tryBuy 12 = .ok (.sipush (-1003), 3) := by decide +kernel
theorem dL_tryBuy_15 : decode cL_tryBuy 15 = .ok (.ireturn, 1) := by decide +kernel
theorem dL_trySetWaves_0 : decode cL_trySetWaves 0 = .ok (.aload_n 0, 1) := by decide +kernel
theorem dL_trySetWaves_1 : decode cL_trySetWaves 1 = .ok (.iload_n 1, 1) := by decide +kernel
theorem dL_trySetWaves_2 : decode cL_trySetWaves 2 = .ok (.iload_n 2, 1) := by decide +kernel
theorem dL_trySetWaves_3 : decode cL_trySetWaves 3 = .ok (.invokevirtual 54, 3) := by decide +kernel
theorem dL_trySetWaves_6 : decode cL_trySetWaves 6 = .ok (.ireturn, 1) := by decide +kernel
theorem dL_trySetWaves_7 : decode cL_trySetWaves 7 = .ok (.astore_n 3, 1) := by decide +kernel
theorem dL_trySetWaves_8 : decode cL_trySetWaves 8 = .ok (.sipush (-1002), 3) := by decide +kernel
theorem dL_trySetWaves_11 : decode cL_trySetWaves 11 = .ok (.ireturn, 1) := by decide +kernel
theorem dL_tryPass_0 : decode cL_tryPass 0 = .ok (.aload_n 0, 1) := by decide +kernel
theorem dL_tryPass_1 : decode cL_tryPass 1 = .ok (.iload_n 1, 1) := by decide +kernel
theorem dL_tryPass_2 : decode cL_tryPass 2 = .ok (.invokevirtual 57, 3) := by decide +kernel
theorem dL_tryPass_5 : decode cL_tryPass 5 = .ok (.ireturn, 1) := by decide +kernel
theorem dL_tryPass_6 : decode cL_tryPass 6 = .ok (.astore_n 2, 1) := by decide +kernel
theorem dL_tryPass_7 : decode cL_tryPass 7 = .ok (.sipush (-1002), 3) := by decide +kernel
theorem dL_tryPass_10 : decode cL_tryPass 10 = .ok (.ireturn, 1) := by decide +kernel
theorem dL_tryUndo_0 : decode cL_tryUndo 0 = .ok (.aload_n 0, 1) := by decide +kernel
theorem dL_tryUndo_1 : decode cL_tryUndo 1 = .ok (.invokevirtual 60, 3) := by decide +kernel
theorem dL_tryUndo_4 : decode cL_tryUndo 4 = .ok (.ireturn, 1) := by decide +kernel
theorem dL_tryUndo_5 : decode cL_tryUndo 5 = .ok (.astore_n 1, 1) := by decide +kernel
theorem dL_tryUndo_6 : decode cL_tryUndo 6 = .ok (.sipush (-1003), 3) := by decide +kernel
theorem dL_tryUndo_9 : decode cL_tryUndo 9 = .ok (.ireturn, 1) := by decide +kernel
theorem dL_tryNeeds_0 : decode cL_tryNeeds 0 = .ok (.aload_n 0, 1) := by decide +kernel
theorem dL_tryNeeds_1 : decode cL_tryNeeds 1 = .ok (.iload_n 1, 1) := by decide +kernel
theorem dL_tryNeeds_2 : decode cL_tryNeeds 2 = .ok (.iload_n 2, 1) := by decide +kernel
theorem dL_tryNeeds_3 : decode cL_tryNeeds 3 = .ok (.invokevirtual 63, 3) := by decide +kernel
theorem dL_tryNeeds_6 : decode cL_tryNeeds 6 = .ok (.ireturn, 1) := by decide +kernel
theorem dL_tryNeeds_7 : decode cL_tryNeeds 7 = .ok (.astore_n 3, 1) := by decide +kernel
theorem dL_tryNeeds_8 : decode cL_tryNeeds 8 = .ok (.sipush (-1001), 3) := by decide +kernel
theorem dL_tryNeeds_11 : decode cL_tryNeeds 11 = .ok (.ireturn, 1) := by decide +kernel
theorem dL_tryNeeds_12 : decode cL_tryNeeds 12 = .ok (.astore_n 3, 1) := by decide +kernel
theorem dL_tryNeeds_13 : decode cL_tryNeeds 13 = .ok (.sipush (-1002), 3) := by decide +kernel
theorem dL_tryNeeds_16 : decode cL_tryNeeds 16 = .ok (.ireturn, 1) := by decide +kernel
theorem dL_tryReach_0 : decode cL_tryReach 0 = .ok (.aload_n 0, 1) := by decide +kernel
theorem dL_tryReach_1 : decode cL_tryReach 1 = .ok (.iload_n 1, 1) := by decide +kernel
theorem dL_tryReach_2 : decode cL_tryReach 2 = .ok (.iload_n 2, 1) := by decide +kernel
theorem dL_tryReach_3 : decode cL_tryReach 3 = .ok (.invokevirtual 66, 3) := by decide +kernel
theorem dL_tryReach_6 : decode cL_tryReach 6 = .ok (.ireturn, 1) := by decide +kernel
theorem dL_tryReach_7 : decode cL_tryReach 7 = .ok (.astore_n 3, 1) := by decide +kernel
theorem dL_tryReach_8 : decode cL_tryReach 8 = .ok (.sipush (-1001), 3) := by decide +kernel
theorem dL_tryReach_11 : decode cL_tryReach 11 = .ok (.ireturn, 1) := by decide +kernel
theorem dL_tryCalmDays_0 : decode cL_tryCalmDays 0 = .ok (.aload_n 0, 1) := by decide +kernel
theorem dL_tryCalmDays_1 : decode cL_tryCalmDays 1 = .ok (.iload_n 1, 1) := by decide +kernel
theorem dL_tryCalmDays_2 : decode cL_tryCalmDays 2 = .ok (.iload_n 2, 1) := by decide +kernel
theorem dL_tryCalmDays_3 : decode cL_tryCalmDays 3 = .ok (.invokevirtual 69, 3) := by decide +kernel
theorem dL_tryCalmDays_6 : decode cL_tryCalmDays 6 = .ok (.ireturn, 1) := by decide +kernel
theorem dL_tryCalmDays_7 : decode cL_tryCalmDays 7 = .ok (.astore_n 3, 1) := by decide +kernel
theorem dL_tryCalmDays_8 : decode cL_tryCalmDays 8 = .ok (.sipush (-1001), 3) := by decide +kernel
theorem dL_tryCalmDays_11 : decode cL_tryCalmDays 11 = .ok (.ireturn, 1) := by decide +kernel
theorem dL_tryAhead_0 : decode cL_tryAhead 0 = .ok (.aload_n 0, 1) := by decide +kernel
theorem dL_tryAhead_1 : decode cL_tryAhead 1 = .ok (.iload_n 1, 1) := by decide +kernel
theorem dL_tryAhead_2 : decode cL_tryAhead 2 = .ok (.iload_n 2, 1) := by decide +kernel
theorem dL_tryAhead_3 : decode cL_tryAhead 3 = .ok (.invokevirtual 72, 3) := by decide +kernel
theorem dL_tryAhead_6 : decode cL_tryAhead 6 = .ok (.ireturn, 1) := by decide +kernel
theorem dL_tryAhead_7 : decode cL_tryAhead 7 = .ok (.astore_n 3, 1) := by decide +kernel
theorem dL_tryAhead_8 : decode cL_tryAhead 8 = .ok (.sipush (-1002), 3) := by decide +kernel
theorem dL_tryAhead_11 : decode cL_tryAhead 11 = .ok (.ireturn, 1) := by decide +kernel
theorem dL_tryDoneAfter_0 : decode cL_tryDoneAfter 0 = .ok (.aload_n 0, 1) := by decide +kernel
theorem dL_tryDoneAfter_1 : decode cL_tryDoneAfter 1 = .ok (.iload_n 1, 1) := by decide +kernel
theorem dL_tryDoneAfter_2 : decode cL_tryDoneAfter 2 = .ok (.invokevirtual 75, 3) := by decide +kernel
theorem dL_tryDoneAfter_5 : decode cL_tryDoneAfter 5 = .ok (.ireturn, 1) := by decide +kernel
theorem dL_tryDoneAfter_6 : decode cL_tryDoneAfter 6 = .ok (.astore_n 2, 1) := by decide +kernel
theorem dL_tryDoneAfter_7 : decode cL_tryDoneAfter 7 = .ok (.sipush (-1001), 3) := by decide +kernel
theorem dL_tryDoneAfter_10 : decode cL_tryDoneAfter 10 = .ok (.ireturn, 1) := by decide +kernel
theorem dL_tryExtension_0 : decode cL_tryExtension 0 = .ok (.aload_n 0, 1) := by decide +kernel
theorem dL_tryExtension_1 : decode cL_tryExtension 1 = .ok (.iload_n 1, 1) := by decide +kernel
theorem dL_tryExtension_2 : decode cL_tryExtension 2 = .ok (.invokevirtual 78, 3) := by decide +kernel
theorem dL_tryExtension_5 : decode cL_tryExtension 5 = .ok (.ireturn, 1) := by decide +kernel
theorem dL_tryExtension_6 : decode cL_tryExtension 6 = .ok (.astore_n 2, 1) := by decide +kernel
theorem dL_tryExtension_7 : decode cL_tryExtension 7 = .ok (.sipush (-1001), 3) := by decide +kernel
theorem dL_tryExtension_10 : decode cL_tryExtension 10 = .ok (.ireturn, 1) := by decide +kernel
theorem dL_tryScript_0 : decode cL_tryScript 0 = .ok (.aload_n 0, 1) := by decide +kernel
theorem dL_tryScript_1 : decode cL_tryScript 1 = .ok (.iload_n 1, 1) := by decide +kernel
theorem dL_tryScript_2 : decode cL_tryScript 2 = .ok (.lload_n 2, 1) := by decide +kernel
theorem dL_tryScript_3 : decode cL_tryScript 3 = .ok (.invokevirtual 81, 3) := by decide +kernel
theorem dL_tryScript_6 : decode cL_tryScript 6 = .ok (.ireturn, 1) := by decide +kernel
theorem dL_tryScript_7 : decode cL_tryScript 7 = .ok (.astore 4, 2) := by decide +kernel
theorem dL_tryScript_9 : decode cL_tryScript 9 = .ok (.sipush (-1002), 3) := by decide +kernel
theorem dL_tryScript_12 : decode cL_tryScript 12 = .ok (.ireturn, 1) := by decide +kernel
theorem dL_trySimulate_0 : decode cL_trySimulate 0 = .ok (.aload_n 0, 1) := by decide +kernel
theorem dL_trySimulate_1 : decode cL_trySimulate 1 = .ok (.lload_n 1, 1) := by decide +kernel
theorem dL_trySimulate_2 : decode cL_trySimulate 2 = .ok (.iload_n 3, 1) := by decide +kernel
theorem dL_trySimulate_3 : decode cL_trySimulate 3 = .ok (.invokevirtual 85, 3) := by decide +kernel
theorem dL_trySimulate_6 : decode cL_trySimulate 6 = .ok (.ireturn, 1) := by decide +kernel
theorem dL_trySimulate_7 : decode cL_trySimulate 7 = .ok (.astore 4, 2) := by decide +kernel
theorem dL_trySimulate_9 : decode cL_trySimulate 9 = .ok (.sipush (-1002), 3) := by decide +kernel
theorem dL_trySimulate_12 : decode cL_trySimulate 12 = .ok (.ireturn, 1) := by decide +kernel
theorem dL_trySave_0 : decode cL_trySave 0 = .ok (.aload_n 0, 1) := by decide +kernel
theorem dL_trySave_1 : decode cL_trySave 1 = .ok (.iload_n 1, 1) := by decide +kernel
theorem dL_trySave_2 : decode cL_trySave 2 = .ok (.invokevirtual 89, 3) := by decide +kernel
theorem dL_trySave_5 : decode cL_trySave 5 = .ok (.ireturn, 1) := by decide +kernel
theorem dL_trySave_6 : decode cL_trySave 6 = .ok (.astore_n 2, 1) := by decide +kernel
theorem dL_trySave_7 : decode cL_trySave 7 = .ok (.sipush (-1001), 3) := by decide +kernel
theorem dL_trySave_10 : decode cL_trySave 10 = .ok (.ireturn, 1) := by decide +kernel
theorem dL_tryRestore_0 : decode cL_tryRestore 0 = .ok (.aload_n 0, 1) := by decide +kernel
theorem dL_tryRestore_1 : decode cL_tryRestore 1 = .ok (.iload_n 1, 1) := by decide +kernel
theorem dL_tryRestore_2 : decode cL_tryRestore 2 = .ok (.invokevirtual 92, 3) := by decide +kernel
theorem dL_tryRestore_5 : decode cL_tryRestore 5 = .ok (.ireturn, 1) := by decide +kernel
theorem dL_tryRestore_6 : decode cL_tryRestore 6 = .ok (.astore_n 2, 1) := by decide +kernel
theorem dL_tryRestore_7 : decode cL_tryRestore 7 = .ok (.sipush (-1001), 3) := by decide +kernel
theorem dL_tryRestore_10 : decode cL_tryRestore 10 = .ok (.ireturn, 1) := by decide +kernel
theorem dL_tryRestore_11 : decode cL_tryRestore 11 = .ok (.astore_n 2, 1) := by decide +kernel
theorem dL_tryRestore_12 : decode cL_tryRestore 12 = .ok (.sipush (-1003), 3) := by decide +kernel
theorem dL_tryRestore_15 : decode cL_tryRestore 15 = .ok (.ireturn, 1) := by decide +kernel
theorem dL_number_0 : decode cL_number 0 = .ok (.iload_n 1, 1) := by decide +kernel
theorem dL_number_1 : decode cL_number 1 = .ok (.aload_n 0, 1) := by decide +kernel
theorem dL_number_2 : decode cL_number 2 = .ok (.arraylength, 1) := by decide +kernel
theorem dL_number_3 : decode cL_number 3 = .ok (.if_icmp .ge 9, 3) := by decide +kernel
theorem dL_number_6 : decode cL_number 6 = .ok (.aload_n 0, 1) := by decide +kernel
theorem dL_number_7 : decode cL_number 7 = .ok (.iload_n 1, 1) := by decide +kernel
theorem dL_number_8 : decode cL_number 8 = .ok (.iaload, 1) := by decide +kernel
theorem dL_number_9 : decode cL_number 9 = .ok (.goto 13, 3) := by decide +kernel
theorem dL_number_12 : decode cL_number 12 = .ok (.ldc 95, 2) := by decide +kernel
theorem dL_number_14 : decode cL_number 14 = .ok (.iload_n 1, 1) := by decide +kernel
theorem dL_number_15 : decode cL_number 15 = .ok (.iconst 5, 1) := by decide +kernel
theorem dL_number_16 : decode cL_number 16 = .ok (.iadd, 1) := by decide +kernel
theorem dL_number_17 : decode cL_number 17 = .ok (.imul, 1) := by decide +kernel
theorem dL_number_18 : decode cL_number 18 = .ok (.sipush 10099, 3) := by decide +kernel
theorem dL_number_21 : decode cL_number 21 = .ok (.iadd, 1) := by decide +kernel
theorem dL_number_22 : decode cL_number 22 = .ok (.ldc 96, 2) := by decide +kernel
theorem dL_number_24 : decode cL_number 24 = .ok (.iand, 1) := by decide +kernel
theorem dL_number_25 : decode cL_number 25 = .ok (.ireturn, 1) := by decide +kernel
theorem dL_put_0 : decode cL_put 0 = .ok (.aload_n 0, 1) := by decide +kernel
theorem dL_put_1 : decode cL_put 1 = .ok (.iload_n 2, 1) := by decide +kernel
theorem dL_put_2 : decode cL_put 2 = .ok (.invokestatic 97, 3) := by decide +kernel
theorem dL_put_5 : decode cL_put 5 = .ok (.ifCond .le 15, 3) := by decide +kernel
theorem dL_put_8 : decode cL_put 8 = .ok (.aload_n 1, 1) := by decide +kernel
theorem dL_put_9 : decode cL_put 9 = .ok (.iload_n 2, 1) := by decide +kernel
theorem dL_put_10 : decode cL_put 10 = .ok (.invokestatic 97, 3) := by decide +kernel
theorem dL_put_13 : decode cL_put 13 = .ok (.ifCond .le 7, 3) := by decide +kernel
theorem dL_put_16 : decode cL_put 16 = .ok (.iconst 1, 1) := by decide +kernel
theorem dL_put_17 : decode cL_put 17 = .ok (.goto 4, 3) := by decide +kernel
theorem dL_put_20 : decode cL_put 20 = .ok (.iconst 0, 1) := by decide +kernel
theorem dL_put_21 : decode cL_put 21 = .ok (.ireturn, 1) := by decide +kernel
theorem dL_digits_0 : decode cL_digits 0 = .ok (.iconst 1, 1) := by decide +kernel
theorem dL_digits_1 : decode cL_digits 1 = .ok (.istore 4, 2) := by decide +kernel
theorem dL_digits_3 : decode cL_digits 3 = .ok (.iload_n 3, 1) := by decide +kernel
theorem dL_digits_4 : decode cL_digits 4 = .ok (.istore 5, 2) := by decide +kernel
theorem dL_digits_6 : decode cL_digits 6 = .ok (.iload 5, 2) := by decide +kernel
theorem dL_digits_8 : decode cL_digits 8 = .ok (.ifCond .le 43, 3) := by decide +kernel
theorem dL_digits_11 : decode cL_digits 11 = .ok (.iload 4, 2) := by decide +kernel
theorem dL_digits_13 : decode cL_digits 13 = .ok (.ifCond .eq 25, 3) := by decide +kernel
theorem dL_digits_16 : decode cL_digits 16 = .ok (.aload_n 0, 1) := by decide +kernel
theorem dL_digits_17 : decode cL_digits 17 = .ok (.aload_n 1, 1) := by decide +kernel
theorem dL_digits_18 : decode cL_digits 18 = .ok (.bipush 48, 2) := by decide +kernel
theorem dL_digits_20 : decode cL_digits 20 = .ok (.iload_n 2, 1) := by decide +kernel
theorem dL_digits_21 : decode cL_digits 21 = .ok (.iload 5, 2) := by decide +kernel
theorem dL_digits_23 : decode cL_digits 23 = .ok (.idiv, 1) := by decide +kernel
theorem dL_digits_24 : decode cL_digits 24 = .ok (.bipush 10, 2) := by decide +kernel
theorem dL_digits_26 : decode cL_digits 26 = .ok (.irem, 1) := by decide +kernel
theorem dL_digits_27 : decode cL_digits 27 = .ok (.iadd, 1) := by decide +kernel
theorem dL_digits_28 : decode cL_digits 28 = .ok (.invokestatic 103, 3) := by decide +kernel
theorem dL_digits_31 : decode cL_digits 31 = .ok (.ifCond .eq 7, 3) := by decide +kernel
theorem dL_digits_34 : decode cL_digits 34 = .ok (.iconst 1, 1) := by decide +kernel
theorem dL_digits_35 : decode cL_digits 35 = .ok (.goto 4, 3) := by decide +kernel
theorem dL_digits_38 : decode cL_digits 38 = .ok (.iconst 0, 1) := by decide +kernel
theorem dL_digits_39 : decode cL_digits 39 = .ok (.istore 4, 2) := by decide +kernel
theorem dL_digits_41 : decode cL_digits 41 = .ok (.iload 5, 2) := by decide +kernel
theorem dL_digits_43 : decode cL_digits 43 = .ok (.bipush 10, 2) := by decide +kernel
theorem dL_digits_45 : decode cL_digits 45 = .ok (.idiv, 1) := by decide +kernel
theorem dL_digits_46 : decode cL_digits 46 = .ok (.istore 5, 2) := by decide +kernel
theorem dL_digits_48 : decode cL_digits 48 = .ok (.goto (-42), 3) := by decide +kernel
theorem dL_digits_51 : decode cL_digits 51 = .ok (.iload 4, 2) := by decide +kernel
theorem dL_digits_53 : decode cL_digits 53 = .ok (.ireturn, 1) := by decide +kernel
theorem dL_told_0 : decode cL_told 0 = .ok (.aload_n 2, 1) := by decide +kernel
theorem dL_told_1 : decode cL_told 1 = .ok (.iload_n 3, 1) := by decide +kernel
theorem dL_told_2 : decode cL_told 2 = .ok (.invokestatic 107, 3) := by decide +kernel
theorem dL_told_5 : decode cL_told 5 = .ok (.istore 4, 2) := by decide +kernel
theorem dL_told_7 : decode cL_told 7 = .ok (.iconst 1, 1) := by decide +kernel
theorem dL_told_8 : decode cL_told 8 = .ok (.iload 4, 2) := by decide +kernel
theorem dL_told_10 : decode cL_told 10 = .ok (.iconst 4, 1) := by decide +kernel
theorem dL_told_11 : decode cL_told 11 = .ok (.irem, 1) := by decide +kernel
theorem dL_told_12 : decode cL_told 12 = .ok (.iadd, 1) := by decide +kernel
theorem dL_told_13 : decode cL_told 13 = .ok (.istore 5, 2) := by decide +kernel
theorem dL_told_15 : decode cL_told 15 = .ok (.iconst 1, 1) := by decide +kernel
theorem dL_told_16 : decode cL_told 16 = .ok (.iload 4, 2) := by decide +kernel
theorem dL_told_18 : decode cL_told 18 = .ok (.iconst 4, 1) := by decide +kernel
theorem dL_told_19 : decode cL_told 19 = .ok (.idiv, 1) := by decide +kernel
theorem dL_told_20 : decode cL_told 20 = .ok (.iconst 4, 1) := by decide +kernel
theorem dL_told_21 : decode cL_told 21 = .ok (.irem, 1) := by decide +kernel
theorem dL_told_22 : decode cL_told 22 = .ok (.iadd, 1) := by decide +kernel
theorem dL_told_23 : decode cL_told 23 = .ok (.istore 6, 2) := by decide +kernel
theorem dL_told_25 : decode cL_told 25 = .ok (.iconst 1, 1) := by decide +kernel
theorem dL_told_26 : decode cL_told 26 = .ok (.iload 4, 2) := by decide +kernel
theorem dL_told_28 : decode cL_told 28 = .ok (.bipush 16, 2) := by decide +kernel
theorem dL_told_30 : decode cL_told 30 = .ok (.idiv, 1) := by decide +kernel
theorem dL_told_31 : decode cL_told 31 = .ok (.bipush 9, 2) := by decide +kernel
theorem dL_told_33 : decode cL_told 33 = .ok (.irem, 1) := by decide +kernel
theorem dL_told_34 : decode cL_told 34 = .ok (.iadd, 1) := by decide +kernel
theorem dL_told_35 : decode cL_told 35 = .ok (.istore 7, 2) := by decide +kernel
theorem dL_told_37 : decode cL_told 37 = .ok (.iload 4, 2) := by decide +kernel
theorem dL_told_39 : decode cL_told 39 = .ok (.sipush 256, 3) := by decide +kernel
theorem dL_told_42 : decode cL_told 42 = .ok (.idiv, 1) := by decide +kernel
theorem dL_told_43 : decode cL_told 43 = .ok (.sipush 1000, 3) := by decide +kernel
theorem dL_told_46 : decode cL_told 46 = .ok (.irem, 1) := by decide +kernel
theorem dL_told_47 : decode cL_told 47 = .ok (.istore 8, 2) := by decide +kernel
theorem dL_told_49 : decode cL_told 49 = .ok (.aload_n 0, 1) := by decide +kernel
theorem dL_told_50 : decode cL_told 50 = .ok (.invokevirtual 111, 3) := by decide +kernel
theorem dL_told_53 : decode cL_told 53 = .ok (.aload_n 1, 1) := by decide +kernel
theorem dL_told_54 : decode cL_told 54 = .ok (.invokevirtual 111, 3) := by decide +kernel
theorem dL_told_57 : decode cL_told 57 = .ok (.if_icmp .ne 83, 3) := by decide +kernel
theorem dL_told_60 : decode cL_told 60 = .ok (.aload_n 0, 1) := by decide +kernel
theorem dL_told_61 : decode cL_told 61 = .ok (.aload_n 1, 1) := by decide +kernel
theorem dL_told_62 : decode cL_told 62 = .ok (.bipush 67, 2) := by decide +kernel
theorem dL_told_64 : decode cL_told 64 = .ok (.invokestatic 103, 3) := by decide +kernel
theorem dL_told_67 : decode cL_told 67 = .ok (.ifCond .eq 73, 3) := by decide +kernel
theorem dL_told_70 : decode cL_told 70 = .ok (.aload_n 0, 1) := by decide +kernel
theorem dL_told_71 : decode cL_told 71 = .ok (.aload_n 1, 1) := by decide +kernel
theorem dL_told_72 : decode cL_told 72 = .ok (.bipush 49, 2) := by decide +kernel
theorem dL_told_74 : decode cL_told 74 = .ok (.iload 4, 2) := by decide +kernel
theorem dL_told_76 : decode cL_told 76 = .ok (.ldc 114, 2) := by decide +kernel
theorem dL_told_78 : decode cL_told 78 = .ok (.idiv, 1) := by decide +kernel
theorem dL_told_79 : decode cL_told 79 = .ok (.iconst 3, 1) := by decide +kernel
theorem dL_told_80 : decode cL_told 80 = .ok (.irem, 1) := by decide +kernel
theorem dL_told_81 : decode cL_told 81 = .ok (.iadd, 1) := by decide +kernel
theorem dL_told_82 : decode cL_told 82 = .ok (.invokestatic 103, 3) := by decide +kernel
theorem dL_told_85 : decode cL_told 85 = .ok (.ifCond .eq 55, 3) := by decide +kernel
theorem dL_told_88 : decode cL_told 88 = .ok (.aload_n 0, 1) := by decide +kernel
theorem dL_told_89 : decode cL_told 89 = .ok (.invokevirtual 115, 3) := by decide +kernel
theorem dL_told_92 : decode cL_told 92 = .ok (.iconst 2, 1) := by decide +kernel
theorem dL_told_93 : decode cL_told 93 = .ok (.if_icmp .ne 47, 3) := by decide +kernel
theorem dL_told_96 : decode cL_told 96 = .ok (.aload_n 0, 1) := by decide +kernel
theorem dL_told_97 : decode cL_told 97 = .ok (.aload_n 1, 1) := by decide +kernel
theorem dL_told_98 : decode cL_told 98 = .ok (.bipush 49, 2) := by decide +kernel
theorem dL_told_100 : decode cL_told 100 = .ok (.iload 4, 2) := by decide +kernel
theorem dL_told_102 : decode cL_told 102 = .ok (.ldc 118, 2) := by decide +kernel
theorem dL_told_104 : decode cL_told 104 = .ok (.idiv, 1) := by decide +kernel
theorem dL_told_105 : decode cL_told 105 = .ok (.iconst 3, 1) := by decide +kernel
theorem dL_told_106 : decode cL_told 106 = .ok (.irem, 1) := by decide +kernel
theorem dL_told_107 : decode cL_told 107 = .ok (.iadd, 1) := by decide +kernel
theorem dL_told_108 : decode cL_told 108 = .ok (.invokestatic 103, 3) := by decide +kernel
theorem dL_told_111 : decode cL_told 111 = .ok (.ifCond .eq 29, 3) := by decide +kernel
theorem dL_told_114 : decode cL_told 114 = .ok (.aload_n 0, 1) := by decide +kernel
theorem dL_told_115 : decode cL_told 115 = .ok (.aload_n 1, 1) := by decide +kernel
theorem dL_told_116 : decode cL_told 116 = .ok (.iload 8, 2) := by decide +kernel
theorem dL_told_118 : decode cL_told 118 = .ok (.sipush 1000, 3) := by decide +kernel
theorem dL_told_121 : decode cL_told 121 = .ok (.invokestatic 119, 3) := by decide +kernel
theorem dL_told_124 : decode cL_told 124 = .ok (.ifCond .eq 16, 3) := by decide +kernel
theorem dL_told_127 : decode cL_told 127 = .ok (.aload_n 0, 1) := by decide +kernel
theorem dL_told_128 : decode cL_told 128 = .ok (.invokevirtual 115, 3) := by decide +kernel
theorem dL_told_131 : decode cL_told 131 = .ok (.bipush 7, 2) := by decide +kernel
theorem dL_told_133 : decode cL_told 133 = .ok (.if_icmp .ne 7, 3) := by decide +kernel
theorem dL_told_136 : decode cL_told 136 = .ok (.iconst 1, 1) := by decide +kernel
theorem dL_told_137 : decode cL_told 137 = .ok (.goto 4, 3) := by decide +kernel
theorem dL_told_140 : decode cL_told 140 = .ok (.iconst 0, 1) := by decide +kernel
theorem dL_told_141 : decode cL_told 141 = .ok (.istore 9, 2) := by decide +kernel
theorem dL_told_143 : decode cL_told 143 = .ok (.iconst 0, 1) := by decide +kernel
theorem dL_told_144 : decode cL_told 144 = .ok (.istore 10, 2) := by decide +kernel
theorem dL_told_146 : decode cL_told 146 = .ok (.iload 10, 2) := by decide +kernel
theorem dL_told_148 : decode cL_told 148 = .ok (.iload 5, 2) := by decide +kernel
theorem dL_told_150 : decode cL_told 150 = .ok (.if_icmp .ge 160, 3) := by decide +kernel
theorem dL_told_153 : decode cL_told 153 = .ok (.iload 9, 2) := by decide +kernel
theorem dL_told_155 : decode cL_told 155 = .ok (.ifCond .eq 155, 3) := by decide +kernel
theorem dL_told_158 : decode cL_told 158 = .ok (.aload_n 2, 1) := by decide +kernel
theorem dL_told_159 : decode cL_told 159 = .ok (.iload_n 3, 1) := by decide +kernel
theorem dL_told_160 : decode cL_told 160 = .ok (.iconst 1, 1) := by decide +kernel
theorem dL_told_161 : decode cL_told 161 = .ok (.iadd, 1) := by decide +kernel
theorem dL_told_162 : decode cL_told 162 = .ok (.iload 10, 2) := by decide +kernel
theorem dL_told_164 : decode cL_told 164 = .ok (.iadd, 1) := by decide +kernel
theorem dL_told_165 : decode cL_told 165 = .ok (.invokestatic 107, 3) := by decide +kernel
theorem dL_told_168 : decode cL_told 168 = .ok (.istore 11, 2) := by decide +kernel
theorem dL_told_170 : decode cL_told 170 = .ok (.iload 11, 2) := by decide +kernel
theorem dL_told_172 : decode cL_told 172 = .ok (.bipush 64, 2) := by decide +kernel
theorem dL_told_174 : decode cL_told 174 = .ok (.idiv, 1) := by decide +kernel
theorem dL_told_175 : decode cL_told 175 = .ok (.bipush 20, 2) := by decide +kernel
theorem dL_told_177 : decode cL_told 177 = .ok (.irem, 1) := by decide +kernel
theorem dL_told_178 : decode cL_told 178 = .ok (.istore 12, 2) := by decide +kernel
theorem dL_told_180 : decode cL_told 180 = .ok (.iload 12, 2) := by decide +kernel
theorem dL_told_182 : decode cL_told 182 = .ok (.iload 11, 2) := by decide +kernel
theorem dL_told_184 : decode cL_told 184 = .ok (.sipush 2048, 3) := by decide +kernel
theorem dL_told_187 : decode cL_told 187 = .ok (.idiv, 1) := by decide +kernel
theorem dL_told_188 : decode cL_told 188 = .ok (.bipush 100, 2) := by decide +kernel
theorem dL_told_190 : decode cL_told 190 = .ok (.iload 12, 2) := by decide +kernel
theorem dL_told_192 : decode cL_told 192 = .ok (.isub, 1) := by decide +kernel
theorem dL_told_193 : decode cL_told 193 = .ok (.irem, 1) := by decide +kernel
theorem dL_told_194 : decode cL_told 194 = .ok (.iadd, 1) := by decide +kernel
theorem dL_told_195 : decode cL_told 195 = .ok (.istore 13, 2) := by decide +kernel
theorem dL_told_197 : decode cL_told 197 = .ok (.aload_n 0, 1) := by decide +kernel
theorem dL_told_198 : decode cL_told 198 = .ok (.aload_n 1, 1) := by decide +kernel
theorem dL_told_199 : decode cL_told 199 = .ok (.bipush 122, 2) := by decide +kernel
theorem dL_told_201 : decode cL_told 201 = .ok (.invokestatic 103, 3) := by decide +kernel
theorem dL_told_204 : decode cL_told 204 = .ok (.ifCond .eq 97, 3) := by decide +kernel
theorem dL_told_207 : decode cL_told 207 = .ok (.aload_n 0, 1) := by decide +kernel
theorem dL_told_208 : decode cL_told 208 = .ok (.aload_n 1, 1) := by decide +kernel
theorem dL_told_209 : decode cL_told 209 = .ok (.iconst 1, 1) := by decide +kernel
theorem dL_told_210 : decode cL_told 210 = .ok (.iload 11, 2) := by decide +kernel
theorem dL_told_212 : decode cL_told 212 = .ok (.bipush 40, 2) := by decide +kernel
theorem dL_told_214 : decode cL_told 214 = .ok (.irem, 1) := by decide +kernel
theorem dL_told_215 : decode cL_told 215 = .ok (.iadd, 1) := by decide +kernel
theorem dL_told_216 : decode cL_told 216 = .ok (.bipush 10, 2) := by decide +kernel
theorem dL_told_218 : decode cL_told 218 = .ok (.invokestatic 119, 3) := by decide +kernel
theorem dL_told_221 : decode cL_told 221 = .ok (.ifCond .eq 80, 3) := by decide +kernel
theorem dL_told_224 : decode cL_told 224 = .ok (.aload_n 0, 1) := by decide +kernel
theorem dL_told_225 : decode cL_told 225 = .ok (.aload_n 1, 1) := by decide +kernel
theorem dL_told_226 : decode cL_told 226 = .ok (.iload 12, 2) := by decide +kernel
theorem dL_told_228 : decode cL_told 228 = .ok (.bipush 10, 2) := by decide +kernel
theorem dL_told_230 : decode cL_told 230 = .ok (.invokestatic 119, 3) := by decide +kernel
theorem dL_told_233 : decode cL_told 233 = .ok (.ifCond .eq 68, 3) := by decide +kernel
theorem dL_told_236 : decode cL_told 236 = .ok (.aload_n 0, 1) := by decide +kernel
theorem dL_told_237 : decode cL_told 237 = .ok (.invokevirtual 115, 3) := by decide +kernel
theorem dL_told_240 : decode cL_told 240 = .ok (.bipush 12, 2) := by decide +kernel
theorem dL_told_242 : decode cL_told 242 = .ok (.bipush 8, 2) := by decide +kernel
theorem dL_told_244 : decode cL_told 244 = .ok (.iload 10, 2) := by decide +kernel
theorem dL_told_246 : decode cL_told 246 = .ok (.imul, 1) := by decide +kernel
theorem dL_told_247 : decode cL_told 247 = .ok (.iadd, 1) := by decide +kernel
theorem dL_told_248 : decode cL_told 248 = .ok (.if_icmp .ne 53, 3) := by decide +kernel
theorem dL_told_251 : decode cL_told 251 = .ok (.aload_n 0, 1) := by decide +kernel
theorem dL_told_252 : decode cL_told 252 = .ok (.aload_n 1, 1) := by decide +kernel
theorem dL_told_253 : decode cL_told 253 = .ok (.iload 13, 2) := by decide +kernel
theorem dL_told_255 : decode cL_told 255 = .ok (.bipush 10, 2) := by decide +kernel
theorem dL_told_257 : decode cL_told 257 = .ok (.invokestatic 119, 3) := by decide +kernel
theorem dL_told_260 : decode cL_told 260 = .ok (.ifCond .eq 41, 3) := by decide +kernel
theorem dL_told_263 : decode cL_told 263 = .ok (.aload_n 0, 1) := by decide +kernel
theorem dL_told_264 : decode cL_told 264 = .ok (.aload_n 1, 1) := by decide +kernel
theorem dL_told_265 : decode cL_told 265 = .ok (.bipush 48, 2) := by decide +kernel
theorem dL_told_267 : decode cL_told 267 = .ok (.iload 11, 2) := by decide +kernel
theorem dL_told_269 : decode cL_told 269 = .ok (.ldc 123, 2) := by decide +kernel
theorem dL_told_271 : decode cL_told 271 = .ok (.idiv, 1) := by decide +kernel
theorem dL_told_272 : decode cL_told 272 = .ok (.bipush 10, 2) := by decide +kernel
theorem dL_told_274 : decode cL_told 274 = .ok (.irem, 1) := by decide +kernel
theorem dL_told_275 : decode cL_told 275 = .ok (.iadd, 1) := by decide +kernel
theorem dL_told_276 : decode cL_told 276 = .ok (.invokestatic 103, 3) := by decide +kernel
theorem dL_told_279 : decode cL_told 279 = .ok (.ifCond .eq 22, 3) := by decide +kernel
theorem dL_told_282 : decode cL_told 282 = .ok (.aload_n 0, 1) := by decide +kernel
theorem dL_told_283 : decode cL_told 283 = .ok (.invokevirtual 115, 3) := by decide +kernel
theorem dL_told_286 : decode cL_told 286 = .ok (.bipush 15, 2) := by decide +kernel
theorem dL_told_288 : decode cL_told 288 = .ok (.bipush 8, 2) := by decide +kernel
theorem dL_told_290 : decode cL_told 290 = .ok (.iload 10, 2) := by decide +kernel
theorem dL_told_292 : decode cL_told 292 = .ok (.imul, 1) := by decide +kernel
theorem dL_told_293 : decode cL_told 293 = .ok (.iadd, 1) := by decide +kernel
theorem dL_told_294 : decode cL_told 294 = .ok (.if_icmp .ne 7, 3) := by decide +kernel
theorem dL_told_297 : decode cL_told 297 = .ok (.iconst 1, 1) := by decide +kernel
theorem dL_told_298 : decode cL_told 298 = .ok (.goto 4, 3) := by decide +kernel
theorem dL_told_301 : decode cL_told 301 = .ok (.iconst 0, 1) := by decide +kernel
theorem dL_told_302 : decode cL_told 302 = .ok (.istore 9, 2) := by decide +kernel
theorem dL_told_304 : decode cL_told 304 = .ok (.iinc 10 1, 3) := by decide +kernel
theorem dL_told_307 : decode cL_told 307 = .ok (.goto (-161), 3) := by decide +kernel
theorem dL_told_310 : decode cL_told 310 = .ok (.bipush 7, 2) := by decide +kernel
theorem dL_told_312 : decode cL_told 312 = .ok (.bipush 8, 2) := by decide +kernel
theorem dL_told_314 : decode cL_told 314 = .ok (.iload 5, 2) := by decide +kernel
theorem dL_told_316 : decode cL_told 316 = .ok (.imul, 1) := by decide +kernel
theorem dL_told_317 : decode cL_told 317 = .ok (.iadd, 1) := by decide +kernel
theorem dL_told_318 : decode cL_told 318 = .ok (.istore 10, 2) := by decide +kernel
theorem dL_told_320 : decode cL_told 320 = .ok (.iconst 0, 1) := by decide +kernel
theorem dL_told_321 : decode cL_told 321 = .ok (.istore 11, 2) := by decide +kernel
theorem dL_told_323 : decode cL_told 323 = .ok (.iload 11, 2) := by decide +kernel
theorem dL_told_325 : decode cL_told 325 = .ok (.iload 6, 2) := by decide +kernel
theorem dL_told_327 : decode cL_told 327 = .ok (.if_icmp .ge 159, 3) := by decide +kernel
theorem dL_told_330 : decode cL_told 330 = .ok (.iload 9, 2) := by decide +kernel
theorem dL_told_332 : decode cL_told 332 = .ok (.ifCond .eq 154, 3) := by decide +kernel
theorem dL_told_335 : decode cL_told 335 = .ok (.aload_n 2, 1) := by decide +kernel
theorem dL_told_336 : decode cL_told 336 = .ok (.iload_n 3, 1) := by decide +kernel
theorem dL_told_337 : decode cL_told 337 = .ok (.iconst 5, 1) := by decide +kernel
theorem dL_told_338 : decode cL_told 338 = .ok (.iadd, 1) := by decide +kernel
theorem dL_told_339 : decode cL_told 339 = .ok (.iload 11, 2) := by decide +kernel
theorem dL_told_341 : decode cL_told 341 = .ok (.iadd, 1) := by decide +kernel
theorem dL_told_342 : decode cL_told 342 = .ok (.invokestatic 107, 3) := by decide +kernel
theorem dL_told_345 : decode cL_told 345 = .ok (.istore 12, 2) := by decide +kernel
theorem dL_told_347 : decode cL_told 347 = .ok (.aload_n 0, 1) := by decide +kernel
theorem dL_told_348 : decode cL_told 348 = .ok (.aload_n 1, 1) := by decide +kernel
theorem dL_told_349 : decode cL_told 349 = .ok (.bipush 115, 2) := by decide +kernel
theorem dL_told_351 : decode cL_told 351 = .ok (.invokestatic 103, 3) := by decide +kernel
theorem dL_told_354 : decode cL_told 354 = .ok (.ifCond .eq 123, 3) := by decide +kernel
theorem dL_told_357 : decode cL_told 357 = .ok (.aload_n 0, 1) := by decide +kernel
theorem dL_told_358 : decode cL_told 358 = .ok (.aload_n 1, 1) := by decide +kernel
theorem dL_told_359 : decode cL_told 359 = .ok (.bipush 10, 2) := by decide +kernel
theorem dL_told_361 : decode cL_told 361 = .ok (.iload 12, 2) := by decide +kernel
theorem dL_told_363 : decode cL_told 363 = .ok (.sipush 150, 3) := by decide +kernel
theorem dL_told_366 : decode cL_told 366 = .ok (.irem, 1) := by decide +kernel
theorem dL_told_367 : decode cL_told 367 = .ok (.iadd, 1) := by decide +kernel
theorem dL_told_368 : decode cL_told 368 = .ok (.bipush 100, 2) := by decide +kernel
theorem dL_told_370 : decode cL_told 370 = .ok (.invokestatic 119, 3) := by decide +kernel
theorem dL_told_373 : decode cL_told 373 = .ok (.ifCond .eq 104, 3) := by decide +kernel
theorem dL_told_376 : decode cL_told 376 = .ok (.aload_n 0, 1) := by decide +kernel
theorem dL_told_377 : decode cL_told 377 = .ok (.aload_n 1, 1) := by decide +kernel
theorem dL_told_378 : decode cL_told 378 = .ok (.iconst 1, 1) := by decide +kernel
theorem dL_told_379 : decode cL_told 379 = .ok (.iload 12, 2) := by decide +kernel
theorem dL_told_381 : decode cL_told 381 = .ok (.sipush 256, 3) := by decide +kernel
theorem dL_told_384 : decode cL_told 384 = .ok (.idiv, 1) := by decide +kernel
theorem dL_told_385 : decode cL_told 385 = .ok (.bipush 20, 2) := by decide +kernel
theorem dL_told_387 : decode cL_told 387 = .ok (.irem, 1) := by decide +kernel
theorem dL_told_388 : decode cL_told 388 = .ok (.iadd, 1) := by decide +kernel
theorem dL_told_389 : decode cL_told 389 = .ok (.bipush 10, 2) := by decide +kernel
theorem dL_told_391 : decode cL_told 391 = .ok (.invokestatic 119, 3) := by decide +kernel
theorem dL_told_394 : decode cL_told 394 = .ok (.ifCond .eq 83, 3) := by decide +kernel
theorem dL_told_397 : decode cL_told 397 = .ok (.aload_n 0, 1) := by decide +kernel
theorem dL_told_398 : decode cL_told 398 = .ok (.aload_n 1, 1) := by decide +kernel
theorem dL_told_399 : decode cL_told 399 = .ok (.bipush 49, 2) := by decide +kernel
theorem dL_told_401 : decode cL_told 401 = .ok (.iload 12, 2) := by decide +kernel
theorem dL_told_403 : decode cL_told 403 = .ok (.sipush 8192, 3) := by decide +kernel
theorem dL_told_406 : decode cL_told 406 = .ok (.idiv, 1) := by decide +kernel
theorem dL_told_407 : decode cL_told 407 = .ok (.bipush 9, 2) := by decide +kernel
theorem dL_told_409 : decode cL_told 409 = .ok (.irem, 1) := by decide +kernel
theorem dL_told_410 : decode cL_told 410 = .ok (.iadd, 1) := by decide +kernel
theorem dL_told_411 : decode cL_told 411 = .ok (.invokestatic 103, 3) := by decide +kernel
theorem dL_told_414 : decode cL_told 414 = .ok (.ifCond .eq 63, 3) := by decide +kernel
theorem dL_told_417 : decode cL_told 417 = .ok (.aload_n 0, 1) := by decide +kernel
theorem dL_told_418 : decode cL_told 418 = .ok (.invokevirtual 115, 3) := by decide +kernel
theorem dL_told_421 : decode cL_told 421 = .ok (.iload 10, 2) := by decide +kernel
theorem dL_told_423 : decode cL_told 423 = .ok (.bipush 7, 2) := by decide +kernel
theorem dL_told_425 : decode cL_told 425 = .ok (.iadd, 1) := by decide +kernel
theorem dL_told_426 : decode cL_told 426 = .ok (.bipush 9, 2) := by decide +kernel
theorem dL_told_428 : decode cL_told 428 = .ok (.iload 11, 2) := by decide +kernel
theorem dL_told_430 : decode cL_told 430 = .ok (.imul, 1) := by decide +kernel
theorem dL_told_431 : decode cL_told 431 = .ok (.iadd, 1) := by decide +kernel
theorem dL_told_432 : decode cL_told 432 = .ok (.if_icmp .ne 45, 3) := by decide +kernel
theorem dL_told_435 : decode cL_told 435 = .ok (.aload_n 0, 1) := by decide +kernel
theorem dL_told_436 : decode cL_told 436 = .ok (.aload_n 1, 1) := by decide +kernel
theorem dL_told_437 : decode cL_told 437 = .ok (.iconst 1, 1) := by decide +kernel
theorem dL_told_438 : decode cL_told 438 = .ok (.iload 12, 2) := by decide +kernel
theorem dL_told_440 : decode cL_told 440 = .ok (.ldc 124, 2) := by decide +kernel
theorem dL_told_442 : decode cL_told 442 = .ok (.idiv, 1) := by decide +kernel
theorem dL_told_443 : decode cL_told 443 = .ok (.bipush 99, 2) := by decide +kernel
theorem dL_told_445 : decode cL_told 445 = .ok (.irem, 1) := by decide +kernel
theorem dL_told_446 : decode cL_told 446 = .ok (.iadd, 1) := by decide +kernel
theorem dL_told_447 : decode cL_told 447 = .ok (.bipush 10, 2) := by decide +kernel
theorem dL_told_449 : decode cL_told 449 = .ok (.invokestatic 119, 3) := by decide +kernel
theorem dL_told_452 : decode cL_told 452 = .ok (.ifCond .eq 25, 3) := by decide +kernel
theorem dL_told_455 : decode cL_told 455 = .ok (.aload_n 0, 1) := by decide +kernel
theorem dL_told_456 : decode cL_told 456 = .ok (.invokevirtual 115, 3) := by decide +kernel
theorem dL_told_459 : decode cL_told 459 = .ok (.iload 10, 2) := by decide +kernel
theorem dL_told_461 : decode cL_told 461 = .ok (.bipush 9, 2) := by decide +kernel
theorem dL_told_463 : decode cL_told 463 = .ok (.iadd, 1) := by decide +kernel
theorem dL_told_464 : decode cL_told 464 = .ok (.bipush 9, 2) := by decide +kernel
theorem dL_told_466 : decode cL_told 466 = .ok (.iload 11, 2) := by decide +kernel
theorem dL_told_468 : decode cL_told 468 = .ok (.imul, 1) := by decide +kernel
theorem dL_told_469 : decode cL_told 469 = .ok (.iadd, 1) := by decide +kernel
theorem dL_told_470 : decode cL_told 470 = .ok (.if_icmp .ne 7, 3) := by decide +kernel
theorem dL_told_473 : decode cL_told 473 = .ok (.iconst 1, 1) := by decide +kernel
theorem dL_told_474 : decode cL_told 474 = .ok (.goto 4, 3) := by decide +kernel
theorem dL_told_477 : decode cL_told 477 = .ok (.iconst 0, 1) := by decide +kernel
theorem dL_told_478 : decode cL_told 478 = .ok (.istore 9, 2) := by decide +kernel
theorem dL_told_480 : decode cL_told 480 = .ok (.iinc 11 1, 3) := by decide +kernel
theorem dL_told_483 : decode cL_told 483 = .ok (.goto (-160), 3) := by decide +kernel
theorem dL_told_486 : decode cL_told 486 = .ok (.iload 10, 2) := by decide +kernel
theorem dL_told_488 : decode cL_told 488 = .ok (.bipush 9, 2) := by decide +kernel
theorem dL_told_490 : decode cL_told 490 = .ok (.iload 6, 2) := by decide +kernel
theorem dL_told_492 : decode cL_told 492 = .ok (.imul, 1) := by decide +kernel
theorem dL_told_493 : decode cL_told 493 = .ok (.iadd, 1) := by decide +kernel
theorem dL_told_494 : decode cL_told 494 = .ok (.istore 10, 2) := by decide +kernel
theorem dL_told_496 : decode cL_told 496 = .ok (.iload 9, 2) := by decide +kernel
theorem dL_told_498 : decode cL_told 498 = .ok (.ifCond .eq 28, 3) := by decide +kernel
theorem dL_told_501 : decode cL_told 501 = .ok (.aload_n 0, 1) := by decide +kernel
theorem dL_told_502 : decode cL_told 502 = .ok (.aload_n 1, 1) := by decide +kernel
theorem dL_told_503 : decode cL_told 503 = .ok (.bipush 119, 2) := by decide +kernel
theorem dL_told_505 : decode cL_told 505 = .ok (.invokestatic 103, 3) := by decide +kernel
theorem dL_told_508 : decode cL_told 508 = .ok (.ifCond .eq 18, 3) := by decide +kernel
theorem dL_told_511 : decode cL_told 511 = .ok (.aload_n 0, 1) := by decide +kernel
theorem dL_told_512 : decode cL_told 512 = .ok (.invokevirtual 115, 3) := by decide +kernel
theorem dL_told_515 : decode cL_told 515 = .ok (.iload 10, 2) := by decide +kernel
theorem dL_told_517 : decode cL_told 517 = .ok (.iconst 1, 1) := by decide +kernel
theorem dL_told_518 : decode cL_told 518 = .ok (.iadd, 1) := by decide +kernel
theorem dL_told_519 : decode cL_told 519 = .ok (.if_icmp .ne 7, 3) := by decide +kernel
theorem dL_told_522 : decode cL_told 522 = .ok (.iconst 1, 1) := by decide +kernel
theorem dL_told_523 : decode cL_told 523 = .ok (.goto 4, 3) := by decide +kernel
theorem dL_told_526 : decode cL_told 526 = .ok (.iconst 0, 1) := by decide +kernel
theorem dL_told_527 : decode cL_told 527 = .ok (.istore 9, 2) := by decide +kernel
theorem dL_told_529 : decode cL_told 529 = .ok (.iconst 0, 1) := by decide +kernel
theorem dL_told_530 : decode cL_told 530 = .ok (.istore 11, 2) := by decide +kernel
theorem dL_told_532 : decode cL_told 532 = .ok (.iload 11, 2) := by decide +kernel
theorem dL_told_534 : decode cL_told 534 = .ok (.iload 7, 2) := by decide +kernel
theorem dL_told_536 : decode cL_told 536 = .ok (.if_icmp .ge 70, 3) := by decide +kernel
theorem dL_told_539 : decode cL_told 539 = .ok (.iload 9, 2) := by decide +kernel
theorem dL_told_541 : decode cL_told 541 = .ok (.ifCond .eq 65, 3) := by decide +kernel
theorem dL_told_544 : decode cL_told 544 = .ok (.aload_n 0, 1) := by decide +kernel
theorem dL_told_545 : decode cL_told 545 = .ok (.aload_n 1, 1) := by decide +kernel
theorem dL_told_546 : decode cL_told 546 = .ok (.bipush 48, 2) := by decide +kernel
theorem dL_told_548 : decode cL_told 548 = .ok (.aload_n 2, 1) := by decide +kernel
theorem dL_told_549 : decode cL_told 549 = .ok (.iload_n 3, 1) := by decide +kernel
theorem dL_told_550 : decode cL_told 550 = .ok (.bipush 9, 2) := by decide +kernel
theorem dL_told_552 : decode cL_told 552 = .ok (.iadd, 1) := by decide +kernel
theorem dL_told_553 : decode cL_told 553 = .ok (.invokestatic 107, 3) := by decide +kernel
theorem dL_told_556 : decode cL_told 556 = .ok (.iconst 1, 1) := by decide +kernel
theorem dL_told_557 : decode cL_told 557 = .ok (.iconst 5, 1) := by decide +kernel
theorem dL_told_558 : decode cL_told 558 = .ok (.iload 11, 2) := by decide +kernel
theorem dL_told_560 : decode cL_told 560 = .ok (.imul, 1) := by decide +kernel
theorem dL_told_561 : decode cL_told 561 = .ok (.iadd, 1) := by decide +kernel
theorem dL_told_562 : decode cL_told 562 = .ok (.idiv, 1) := by decide +kernel
theorem dL_told_563 : decode cL_told 563 = .ok (.iload 11, 2) := by decide +kernel
theorem dL_told_565 : decode cL_told 565 = .ok (.iconst 2, 1) := by decide +kernel
theorem dL_told_566 : decode cL_told 566 = .ok (.irem, 1) := by decide +kernel
theorem dL_told_567 : decode cL_told 567 = .ok (.ifCond .ne 8, 3) := by decide +kernel
theorem dL_told_570 : decode cL_told 570 = .ok (.bipush 10, 2) := by decide +kernel
theorem dL_told_572 : decode cL_told 572 = .ok (.goto 4, 3) := by decide +kernel
theorem dL_told_575 : decode cL_told 575 = .ok (.iconst 4, 1) := by decide +kernel
theorem dL_told_576 : decode cL_told 576 = .ok (.irem, 1) := by decide +kernel
theorem dL_told_577 : decode cL_told 577 = .ok (.iadd, 1) := by decide +kernel
theorem dL_told_578 : decode cL_told 578 = .ok (.invokestatic 103, 3) := by decide +kernel
theorem dL_told_581 : decode cL_told 581 = .ok (.ifCond .eq 16, 3) := by decide +kernel
theorem dL_told_584 : decode cL_told 584 = .ok (.aload_n 0, 1) := by decide +kernel
theorem dL_told_585 : decode cL_told 585 = .ok (.invokevirtual 115, 3) := by decide +kernel
theorem dL_told_588 : decode cL_told 588 = .ok (.bipush (-9), 2) := by decide +kernel
theorem dL_told_590 : decode cL_told 590 = .ok (.if_icmp .ne 7, 3) := by decide +kernel
theorem dL_told_593 : decode cL_told 593 = .ok (.iconst 1, 1) := by decide +kernel
theorem dL_told_594 : decode cL_told 594 = .ok (.goto 4, 3) := by decide +kernel
theorem dL_told_597 : decode cL_told 597 = .ok (.iconst 0, 1) := by decide +kernel
theorem dL_told_598 : decode cL_told 598 = .ok (.istore 9, 2) := by decide +kernel
theorem dL_told_600 : decode cL_told 600 = .ok (.iinc 11 1, 3) := by decide +kernel
theorem dL_told_603 : decode cL_told 603 = .ok (.goto (-71), 3) := by decide +kernel
theorem dL_told_606 : decode cL_told 606 = .ok (.iload 9, 2) := by decide +kernel
theorem dL_told_608 : decode cL_told 608 = .ok (.ifCond .eq 137, 3) := by decide +kernel
theorem dL_told_611 : decode cL_told 611 = .ok (.aload_n 0, 1) := by decide +kernel
theorem dL_told_612 : decode cL_told 612 = .ok (.invokestatic 125, 3) := by decide +kernel
theorem dL_told_615 : decode cL_told 615 = .ok (.iload 5, 2) := by decide +kernel
theorem dL_told_617 : decode cL_told 617 = .ok (.if_icmp .ne 128, 3) := by decide +kernel
theorem dL_told_620 : decode cL_told 620 = .ok (.aload_n 1, 1) := by decide +kernel
theorem dL_told_621 : decode cL_told 621 = .ok (.invokestatic 125, 3) := by decide +kernel
theorem dL_told_624 : decode cL_told 624 = .ok (.iload 5, 2) := by decide +kernel
theorem dL_told_626 : decode cL_told 626 = .ok (.if_icmp .ne 119, 3) := by decide +kernel
theorem dL_told_629 : decode cL_told 629 = .ok (.aload_n 0, 1) := by decide +kernel
theorem dL_told_630 : decode cL_told 630 = .ok (.iconst 0, 1) := by decide +kernel
theorem dL_told_631 : decode cL_told 631 = .ok (.invokestatic 129, 3) := by decide +kernel
theorem dL_told_634 : decode cL_told 634 = .ok (.iload 5, 2) := by decide +kernel
theorem dL_told_636 : decode cL_told 636 = .ok (.if_icmp .ne 109, 3) := by decide +kernel
theorem dL_told_639 : decode cL_told 639 = .ok (.aload_n 0, 1) := by decide +kernel
theorem dL_told_640 : decode cL_told 640 = .ok (.iconst 1, 1) := by decide +kernel
theorem dL_told_641 : decode cL_told 641 = .ok (.invokestatic 129, 3) := by decide +kernel
theorem dL_told_644 : decode cL_told 644 = .ok (.iload 6, 2) := by decide +kernel
theorem dL_told_646 : decode cL_told 646 = .ok (.if_icmp .ne 99, 3) := by decide +kernel
theorem dL_told_649 : decode cL_told 649 = .ok (.aload_n 0, 1) := by decide +kernel
theorem dL_told_650 : decode cL_told 650 = .ok (.iconst 4, 1) := by decide +kernel
theorem dL_told_651 : decode cL_told 651 = .ok (.invokestatic 129, 3) := by decide +kernel
theorem dL_told_654 : decode cL_told 654 = .ok (.iload 8, 2) := by decide +kernel
theorem dL_told_656 : decode cL_told 656 = .ok (.if_icmp .ne 89, 3) := by decide +kernel
theorem dL_told_659 : decode cL_told 659 = .ok (.aload_n 0, 1) := by decide +kernel
theorem dL_told_660 : decode cL_told 660 = .ok (.iconst 0, 1) := by decide +kernel
theorem dL_told_661 : decode cL_told 661 = .ok (.invokestatic 132, 3) := by decide +kernel
theorem dL_told_664 : decode cL_told 664 = .ok (.iload 8, 2) := by decide +kernel
theorem dL_told_666 : decode cL_told 666 = .ok (.if_icmp .ne 79, 3) := by decide +kernel
theorem dL_told_669 : decode cL_told 669 = .ok (.aload_n 0, 1) := by decide +kernel
theorem dL_told_670 : decode cL_told 670 = .ok (.iconst 5, 1) := by decide +kernel
theorem dL_told_671 : decode cL_told 671 = .ok (.invokestatic 129, 3) := by decide +kernel
theorem dL_told_674 : decode cL_told 674 = .ok (.ifCond .ne 71, 3) := by decide +kernel
theorem dL_told_677 : decode cL_told 677 = .ok (.aload_n 0, 1) := by decide +kernel
theorem dL_told_678 : decode cL_told 678 = .ok (.iconst 0, 1) := by decide +kernel
theorem dL_told_679 : decode cL_told 679 = .ok (.iconst 5, 1) := by decide +kernel
theorem dL_told_680 : decode cL_told 680 = .ok (.invokestatic 135, 3) := by decide +kernel
theorem dL_told_683 : decode cL_told 683 = .ok (.ifCond .ne 62, 3) := by decide +kernel
theorem dL_told_686 : decode cL_told 686 = .ok (.aload_n 0, 1) := by decide +kernel
theorem dL_told_687 : decode cL_told 687 = .ok (.invokestatic 139, 3) := by decide +kernel
theorem dL_told_690 : decode cL_told 690 = .ok (.sipush (-1003), 3) := by decide +kernel
theorem dL_told_693 : decode cL_told 693 = .ok (.if_icmp .ne 52, 3) := by decide +kernel
theorem dL_told_696 : decode cL_told 696 = .ok (.aload_n 1, 1) := by decide +kernel
theorem dL_told_697 : decode cL_told 697 = .ok (.iconst 1, 1) := by decide +kernel
theorem dL_told_698 : decode cL_told 698 = .ok (.invokestatic 142, 3) := by decide +kernel
theorem dL_told_701 : decode cL_told 701 = .ok (.sipush (-1003), 3) := by decide +kernel
theorem dL_told_704 : decode cL_told 704 = .ok (.if_icmp .ne 41, 3) := by decide +kernel
theorem dL_told_707 : decode cL_told 707 = .ok (.aload_n 0, 1) := by decide +kernel
theorem dL_told_708 : decode cL_told 708 = .ok (.aload_n 1, 1) := by decide +kernel
theorem dL_told_709 : decode cL_told 709 = .ok (.bipush 119, 2) := by decide +kernel
theorem dL_told_711 : decode cL_told 711 = .ok (.invokestatic 103, 3) := by decide +kernel
theorem dL_told_714 : decode cL_told 714 = .ok (.ifCond .eq 31, 3) := by decide +kernel
theorem dL_told_717 : decode cL_told 717 = .ok (.aload_n 0, 1) := by decide +kernel
theorem dL_told_718 : decode cL_told 718 = .ok (.invokevirtual 115, 3) := by decide +kernel
theorem dL_told_721 : decode cL_told 721 = .ok (.iload 10, 2) := by decide +kernel
theorem dL_told_723 : decode cL_told 723 = .ok (.iconst 1, 1) := by decide +kernel
theorem dL_told_724 : decode cL_told 724 = .ok (.iadd, 1) := by decide +kernel
theorem dL_told_725 : decode cL_told 725 = .ok (.iload 7, 2) := by decide +kernel
theorem dL_told_727 : decode cL_told 727 = .ok (.iadd, 1) := by decide +kernel
theorem dL_told_728 : decode cL_told 728 = .ok (.if_icmp .ne 17, 3) := by decide +kernel
theorem dL_told_731 : decode cL_told 731 = .ok (.aload_n 0, 1) := by decide +kernel
theorem dL_told_732 : decode cL_told 732 = .ok (.invokestatic 125, 3) := by decide +kernel
theorem dL_told_735 : decode cL_told 735 = .ok (.sipush (-1003), 3) := by decide +kernel
theorem dL_told_738 : decode cL_told 738 = .ok (.if_icmp .ne 7, 3) := by decide +kernel
theorem dL_told_741 : decode cL_told 741 = .ok (.iconst 1, 1) := by decide +kernel
theorem dL_told_742 : decode cL_told 742 = .ok (.goto 4, 3) := by decide +kernel
theorem dL_told_745 : decode cL_told 745 = .ok (.iconst 0, 1) := by decide +kernel
theorem dL_told_746 : decode cL_told 746 = .ok (.ireturn, 1) := by decide +kernel
theorem dL_alike_0 : decode cL_alike 0 = .ok (.iconst 1, 1) := by decide +kernel
theorem dL_alike_1 : decode cL_alike 1 = .ok (.istore_n 2, 1) := by decide +kernel
theorem dL_alike_2 : decode cL_alike 2 = .ok (.iconst 0, 1) := by decide +kernel
theorem dL_alike_3 : decode cL_alike 3 = .ok (.istore_n 3, 1) := by decide +kernel
theorem dL_alike_4 : decode cL_alike 4 = .ok (.iload_n 3, 1) := by decide +kernel
theorem dL_alike_5 : decode cL_alike 5 = .ok (.bipush 14, 2) := by decide +kernel
theorem dL_alike_7 : decode cL_alike 7 = .ok (.if_icmp .ge 51, 3) := by decide +kernel
theorem dL_alike_10 : decode cL_alike 10 = .ok (.iload_n 2, 1) := by decide +kernel
theorem dL_alike_11 : decode cL_alike 11 = .ok (.ifCond .eq 39, 3) := by decide +kernel
theorem dL_alike_14 : decode cL_alike 14 = .ok (.aload_n 0, 1) := by decide +kernel
theorem dL_alike_15 : decode cL_alike 15 = .ok (.iload_n 3, 1) := by decide +kernel
theorem dL_alike_16 : decode cL_alike 16 = .ok (.invokestatic 129, 3) := by decide +kernel
theorem dL_alike_19 : decode cL_alike 19 = .ok (.aload_n 1, 1) := by decide +kernel
theorem dL_alike_20 : decode cL_alike 20 = .ok (.iload_n 3, 1) := by decide +kernel
theorem dL_alike_21 : decode cL_alike 21 = .ok (.invokestatic 129, 3) := by decide +kernel
theorem dL_alike_24 : decode cL_alike 24 = .ok (.if_icmp .ne 26, 3) := by decide +kernel
theorem dL_alike_27 : decode cL_alike 27 = .ok (.iload_n 3, 1) := by decide +kernel
theorem dL_alike_28 : decode cL_alike 28 = .ok (.bipush 7, 2) := by decide +kernel
theorem dL_alike_30 : decode cL_alike 30 = .ok (.if_icmp .gt 16, 3) := by decide +kernel
theorem dL_alike_33 : decode cL_alike 33 = .ok (.aload_n 0, 1) := by decide +kernel
theorem dL_alike_34 : decode cL_alike 34 = .ok (.iload_n 3, 1) := by decide +kernel
theorem dL_alike_35 : decode cL_alike 35 = .ok (.invokestatic 132, 3) := by decide +kernel
theorem dL_alike_38 : decode cL_alike 38 = .ok (.aload_n 1, 1) := by decide +kernel
theorem dL_alike_39 : decode cL_alike 39 = .ok (.iload_n 3, 1) := by decide +kernel
theorem dL_alike_40 : decode cL_alike 40 = .ok (.invokestatic 132, 3) := by decide +kernel
theorem dL_alike_43 : decode cL_alike 43 = .ok (.if_icmp .ne 7, 3) := by decide +kernel
theorem dL_alike_46 : decode cL_alike 46 = .ok (.iconst 1, 1) := by decide +kernel
theorem dL_alike_47 : decode cL_alike 47 = .ok (.goto 4, 3) := by decide +kernel
theorem dL_alike_50 : decode cL_alike 50 = .ok (.iconst 0, 1) := by decide +kernel
theorem dL_alike_51 : decode cL_alike 51 = .ok (.istore_n 2, 1) := by decide +kernel
theorem dL_alike_52 : decode cL_alike 52 = .ok (.iinc 3 1, 3) := by decide +kernel
theorem dL_alike_55 : decode cL_alike 55 = .ok (.goto (-51), 3) := by decide +kernel
theorem dL_alike_58 : decode cL_alike 58 = .ok (.iconst 0, 1) := by decide +kernel
theorem dL_alike_59 : decode cL_alike 59 = .ok (.istore_n 3, 1) := by decide +kernel
theorem dL_alike_60 : decode cL_alike 60 = .ok (.iload_n 3, 1) := by decide +kernel
theorem dL_alike_61 : decode cL_alike 61 = .ok (.bipush 8, 2) := by decide +kernel
theorem dL_alike_63 : decode cL_alike 63 = .ok (.aload_n 0, 1) := by decide +kernel
theorem dL_alike_64 : decode cL_alike 64 = .ok (.iconst 1, 1) := by decide +kernel
theorem dL_alike_65 : decode cL_alike 65 = .ok (.invokestatic 129, 3) := by decide +kernel
theorem dL_alike_68 : decode cL_alike 68 = .ok (.imul, 1) := by decide +kernel
theorem dL_alike_69 : decode cL_alike 69 = .ok (.if_icmp .ge 46, 3) := by decide +kernel
theorem dL_alike_72 : decode cL_alike 72 = .ok (.iload_n 2, 1) := by decide +kernel
theorem dL_alike_73 : decode cL_alike 73 = .ok (.ifCond .eq 42, 3) := by decide +kernel
theorem dL_alike_76 : decode cL_alike 76 = .ok (.aload_n 0, 1) := by decide +kernel
theorem dL_alike_77 : decode cL_alike 77 = .ok (.iload_n 3, 1) := by decide +kernel
theorem dL_alike_78 : decode cL_alike 78 = .ok (.bipush 8, 2) := by decide +kernel
theorem dL_alike_80 : decode cL_alike 80 = .ok (.idiv, 1) := by decide +kernel
theorem dL_alike_81 : decode cL_alike 81 = .ok (.iload_n 3, 1) := by decide +kernel
theorem dL_alike_82 : decode cL_alike 82 = .ok (.bipush 8, 2) := by decide +kernel
theorem dL_alike_84 : decode cL_alike 84 = .ok (.irem, 1) := by decide +kernel
theorem dL_alike_85 : decode cL_alike 85 = .ok (.invokestatic 135, 3) := by decide +kernel
theorem dL_alike_88 : decode cL_alike 88 = .ok (.aload_n 1, 1) := by decide +kernel
theorem dL_alike_89 : decode cL_alike 89 = .ok (.iload_n 3, 1) := by decide +kernel
theorem dL_alike_90 : decode cL_alike 90 = .ok (.bipush 8, 2) := by decide +kernel
theorem dL_alike_92 : decode cL_alike 92 = .ok (.idiv, 1) := by decide +kernel
theorem dL_alike_93 : decode cL_alike 93 = .ok (.iload_n 3, 1) := by decide +kernel
theorem dL_alike_94 : decode cL_alike 94 = .ok (.bipush 8, 2) := by decide +kernel
theorem dL_alike_96 : decode cL_alike 96 = .ok (.irem, 1) := by decide +kernel
theorem dL_alike_97 : decode cL_alike 97 = .ok (.invokestatic 135, 3) := by decide +kernel
theorem dL_alike_100 : decode cL_alike 100 = .ok (.if_icmp .ne 7, 3) := by decide +kernel
theorem dL_alike_103 : decode cL_alike 103 = .ok (.iconst 1, 1) := by decide +kernel
theorem dL_alike_104 : decode cL_alike 104 = .ok (.goto 4, 3) := by decide +kernel
theorem dL_alike_107 : decode cL_alike 107 = .ok (.iconst 0, 1) := by decide +kernel
theorem dL_alike_108 : decode cL_alike 108 = .ok (.istore_n 2, 1) := by decide +kernel
theorem dL_alike_109 : decode cL_alike 109 = .ok (.iinc 3 1, 3) := by decide +kernel
theorem dL_alike_112 : decode cL_alike 112 = .ok (.goto (-52), 3) := by decide +kernel
theorem dL_alike_115 : decode cL_alike 115 = .ok (.iconst 0, 1) := by decide +kernel
theorem dL_alike_116 : decode cL_alike 116 = .ok (.istore_n 3, 1) := by decide +kernel
theorem dL_alike_117 : decode cL_alike 117 = .ok (.iload_n 3, 1) := by decide +kernel
theorem dL_alike_118 : decode cL_alike 118 = .ok (.iconst 5, 1) := by decide +kernel
theorem dL_alike_119 : decode cL_alike 119 = .ok (.aload_n 0, 1) := by decide +kernel
theorem dL_alike_120 : decode cL_alike 120 = .ok (.iconst 0, 1) := by decide +kernel
theorem dL_alike_121 : decode cL_alike 121 = .ok (.invokestatic 129, 3) := by decide +kernel
theorem dL_alike_124 : decode cL_alike 124 = .ok (.imul, 1) := by decide +kernel
theorem dL_alike_125 : decode cL_alike 125 = .ok (.if_icmp .ge 42, 3) := by decide +kernel
theorem dL_alike_128 : decode cL_alike 128 = .ok (.iload_n 2, 1) := by decide +kernel
theorem dL_alike_129 : decode cL_alike 129 = .ok (.ifCond .eq 38, 3) := by decide +kernel
theorem dL_alike_132 : decode cL_alike 132 = .ok (.aload_n 0, 1) := by decide +kernel
theorem dL_alike_133 : decode cL_alike 133 = .ok (.iload_n 3, 1) := by decide +kernel
theorem dL_alike_134 : decode cL_alike 134 = .ok (.iconst 5, 1) := by decide +kernel
theorem dL_alike_135 : decode cL_alike 135 = .ok (.idiv, 1) := by decide +kernel
theorem dL_alike_136 : decode cL_alike 136 = .ok (.iload_n 3, 1) := by decide +kernel
theorem dL_alike_137 : decode cL_alike 137 = .ok (.iconst 5, 1) := by decide +kernel
theorem dL_alike_138 : decode cL_alike 138 = .ok (.irem, 1) := by decide +kernel
theorem dL_alike_139 : decode cL_alike 139 = .ok (.invokestatic 145, 3) := by decide +kernel
theorem dL_alike_142 : decode cL_alike 142 = .ok (.aload_n 1, 1) := by decide +kernel
theorem dL_alike_143 : decode cL_alike 143 = .ok (.iload_n 3, 1) := by decide +kernel
theorem dL_alike_144 : decode cL_alike 144 = .ok (.iconst 5, 1) := by decide +kernel
theorem dL_alike_145 : decode cL_alike 145 = .ok (.idiv, 1) := by decide +kernel
theorem dL_alike_146 : decode cL_alike 146 = .ok (.iload_n 3, 1) := by decide +kernel
theorem dL_alike_147 : decode cL_alike 147 = .ok (.iconst 5, 1) := by decide +kernel
theorem dL_alike_148 : decode cL_alike 148 = .ok (.irem, 1) := by decide +kernel
theorem dL_alike_149 : decode cL_alike 149 = .ok (.invokestatic 145, 3) := by decide +kernel
theorem dL_alike_152 : decode cL_alike 152 = .ok (.if_icmp .ne 7, 3) := by decide +kernel
theorem dL_alike_155 : decode cL_alike 155 = .ok (.iconst 1, 1) := by decide +kernel
theorem dL_alike_156 : decode cL_alike 156 = .ok (.goto 4, 3) := by decide +kernel
theorem dL_alike_159 : decode cL_alike 159 = .ok (.iconst 0, 1) := by decide +kernel
theorem dL_alike_160 : decode cL_alike 160 = .ok (.istore_n 2, 1) := by decide +kernel
theorem dL_alike_161 : decode cL_alike 161 = .ok (.iinc 3 1, 3) := by decide +kernel
theorem dL_alike_164 : decode cL_alike 164 = .ok (.goto (-47), 3) := by decide +kernel
theorem dL_alike_167 : decode cL_alike 167 = .ok (.iconst 0, 1) := by decide +kernel
theorem dL_alike_168 : decode cL_alike 168 = .ok (.istore_n 3, 1) := by decide +kernel
theorem dL_alike_169 : decode cL_alike 169 = .ok (.iload_n 3, 1) := by decide +kernel
theorem dL_alike_170 : decode cL_alike 170 = .ok (.bipush 12, 2) := by decide +kernel
theorem dL_alike_172 : decode cL_alike 172 = .ok (.if_icmp .ge 32, 3) := by decide +kernel
theorem dL_alike_175 : decode cL_alike 175 = .ok (.iload_n 2, 1) := by decide +kernel
theorem dL_alike_176 : decode cL_alike 176 = .ok (.ifCond .eq 28, 3) := by decide +kernel
theorem dL_alike_179 : decode cL_alike 179 = .ok (.aload_n 0, 1) := by decide +kernel
theorem dL_alike_180 : decode cL_alike 180 = .ok (.iload_n 3, 1) := by decide +kernel
theorem dL_alike_181 : decode cL_alike 181 = .ok (.invokestatic 148, 3) := by decide +kernel
theorem dL_alike_184 : decode cL_alike 184 = .ok (.aload_n 1, 1) := by decide +kernel
theorem dL_alike_185 : decode cL_alike 185 = .ok (.iload_n 3, 1) := by decide +kernel
theorem dL_alike_186 : decode cL_alike 186 = .ok (.invokestatic 148, 3) := by decide +kernel
theorem dL_alike_189 : decode cL_alike 189 = .ok (.if_icmp .ne 7, 3) := by decide +kernel
theorem dL_alike_192 : decode cL_alike 192 = .ok (.iconst 1, 1) := by decide +kernel
theorem dL_alike_193 : decode cL_alike 193 = .ok (.goto 4, 3) := by decide +kernel
theorem dL_alike_196 : decode cL_alike 196 = .ok (.iconst 0, 1) := by decide +kernel
theorem dL_alike_197 : decode cL_alike 197 = .ok (.istore_n 2, 1) := by decide +kernel
theorem dL_alike_198 : decode cL_alike 198 = .ok (.iinc 3 1, 3) := by decide +kernel
theorem dL_alike_201 : decode cL_alike 201 = .ok (.goto (-32), 3) := by decide +kernel
theorem dL_alike_204 : decode cL_alike 204 = .ok (.iload_n 2, 1) := by decide +kernel
theorem dL_alike_205 : decode cL_alike 205 = .ok (.ireturn, 1) := by decide +kernel
theorem dL_refuses_0 : decode cL_refuses 0 = .ok (.aload_n 0, 1) := by decide +kernel
theorem dL_refuses_1 : decode cL_refuses 1 = .ok (.iconst 0, 1) := by decide +kernel
theorem dL_refuses_2 : decode cL_refuses 2 = .ok (.invokestatic 129, 3) := by decide +kernel
theorem dL_refuses_5 : decode cL_refuses 5 = .ok (.istore_n 1, 1) := by decide +kernel
theorem dL_refuses_6 : decode cL_refuses 6 = .ok (.aload_n 0, 1) := by decide +kernel
theorem dL_refuses_7 : decode cL_refuses 7 = .ok (.iconst 1, 1) := by decide +kernel
theorem dL_refuses_8 : decode cL_refuses 8 = .ok (.invokestatic 129, 3) := by decide +kernel
theorem dL_refuses_11 : decode cL_refuses 11 = .ok (.istore_n 2, 1) := by decide +kernel
theorem dL_refuses_12 : decode cL_refuses 12 = .ok (.aload_n 0, 1) := by decide +kernel
theorem dL_refuses_13 : decode cL_refuses 13 = .ok (.iconst 0, 1) := by decide +kernel
theorem dL_refuses_14 : decode cL_refuses 14 = .ok (.iconst 5, 1) := by decide +kernel
theorem dL_refuses_15 : decode cL_refuses 15 = .ok (.invokestatic 135, 3) := by decide +kernel
theorem dL_refuses_18 : decode cL_refuses 18 = .ok (.istore_n 3, 1) := by decide +kernel
theorem dL_refuses_19 : decode cL_refuses 19 = .ok (.aload_n 0, 1) := by decide +kernel
theorem dL_refuses_20 : decode cL_refuses 20 = .ok (.bipush 6, 2) := by decide +kernel
theorem dL_refuses_22 : decode cL_refuses 22 = .ok (.invokestatic 129, 3) := by decide +kernel
theorem dL_refuses_25 : decode cL_refuses 25 = .ok (.iload_n 1, 1) := by decide +kernel
theorem dL_refuses_26 : decode cL_refuses 26 = .ok (.if_icmp .ne 7, 3) := by decide +kernel
theorem dL_refuses_29 : decode cL_refuses 29 = .ok (.iconst 1, 1) := by decide +kernel
theorem dL_refuses_30 : decode cL_refuses 30 = .ok (.goto 4, 3) := by decide +kernel
theorem dL_refuses_33 : decode cL_refuses 33 = .ok (.iconst 0, 1) := by decide +kernel
theorem dL_refuses_34 : decode cL_refuses 34 = .ok (.istore 4, 2) := by decide +kernel
theorem dL_refuses_36 : decode cL_refuses 36 = .ok (.aload_n 0, 1) := by decide +kernel
theorem dL_refuses_37 : decode cL_refuses 37 = .ok (.bipush 14, 2) := by decide +kernel
theorem dL_refuses_39 : decode cL_refuses 39 = .ok (.invokestatic 129, 3) := by decide +kernel
theorem dL_refuses_42 : decode cL_refuses 42 = .ok (.sipush (-1002), 3) := by decide +kernel
theorem dL_refuses_45 : decode cL_refuses 45 = .ok (.if_icmp .ne 341, 3) := by decide +kernel
theorem dL_refuses_48 : decode cL_refuses 48 = .ok (.aload_n 0, 1) := by decide +kernel
theorem dL_refuses_49 : decode cL_refuses 49 = .ok (.iload_n 1, 1) := by decide +kernel
theorem dL_refuses_50 : decode cL_refuses 50 = .ok (.iconst 5, 1) := by decide +kernel
theorem dL_refuses_51 : decode cL_refuses 51 = .ok (.invokestatic 145, 3) := by decide +kernel
theorem dL_refuses_54 : decode cL_refuses 54 = .ok (.sipush (-1001), 3) := by decide +kernel
theorem dL_refuses_57 : decode cL_refuses 57 = .ok (.if_icmp .ne 329, 3) := by decide +kernel
theorem dL_refuses_60 : decode cL_refuses 60 = .ok (.aload_n 0, 1) := by decide +kernel
theorem dL_refuses_61 : decode cL_refuses 61 = .ok (.iconst 0, 1) := by decide +kernel
theorem dL_refuses_62 : decode cL_refuses 62 = .ok (.iconst 5, 1) := by decide +kernel
theorem dL_refuses_63 : decode cL_refuses 63 = .ok (.invokestatic 145, 3) := by decide +kernel
theorem dL_refuses_66 : decode cL_refuses 66 = .ok (.sipush (-1002), 3) := by decide +kernel
theorem dL_refuses_69 : decode cL_refuses 69 = .ok (.if_icmp .ne 317, 3) := by decide +kernel
theorem dL_refuses_72 : decode cL_refuses 72 = .ok (.aload_n 0, 1) := by decide +kernel
theorem dL_refuses_73 : decode cL_refuses 73 = .ok (.iload_n 2, 1) := by decide +kernel
theorem dL_refuses_74 : decode cL_refuses 74 = .ok (.bipush 8, 2) := by decide +kernel
theorem dL_refuses_76 : decode cL_refuses 76 = .ok (.invokestatic 135, 3) := by decide +kernel
theorem dL_refuses_79 : decode cL_refuses 79 = .ok (.sipush (-1001), 3) := by decide +kernel
theorem dL_refuses_82 : decode cL_refuses 82 = .ok (.if_icmp .ne 304, 3) := by decide +kernel
theorem dL_refuses_85 : decode cL_refuses 85 = .ok (.aload_n 0, 1) := by decide +kernel
theorem dL_refuses_86 : decode cL_refuses 86 = .ok (.iconst 0, 1) := by decide +kernel
theorem dL_refuses_87 : decode cL_refuses 87 = .ok (.bipush 8, 2) := by decide +kernel
theorem dL_refuses_89 : decode cL_refuses 89 = .ok (.invokestatic 135, 3) := by decide +kernel
theorem dL_refuses_92 : decode cL_refuses 92 = .ok (.sipush (-1002), 3) := by decide +kernel
theorem dL_refuses_95 : decode cL_refuses 95 = .ok (.if_icmp .ne 291, 3) := by decide +kernel
theorem dL_refuses_98 : decode cL_refuses 98 = .ok (.aload_n 0, 1) := by decide +kernel
theorem dL_refuses_99 : decode cL_refuses 99 = .ok (.iconst (-1), 1) := by decide +kernel
theorem dL_refuses_100 : decode cL_refuses 100 = .ok (.invokestatic 148, 3) := by decide +kernel
theorem dL_refuses_103 : decode cL_refuses 103 = .ok (.sipush (-1002), 3) := by decide +kernel
theorem dL_refuses_106 : decode cL_refuses 106 = .ok (.if_icmp .ne 280, 3) := by decide +kernel
theorem dL_refuses_109 : decode cL_refuses 109 = .ok (.aload_n 0, 1) := by decide +kernel
theorem dL_refuses_110 : decode cL_refuses 110 = .ok (.sipush 10000, 3) := by decide +kernel
theorem dL_refuses_113 : decode cL_refuses 113 = .ok (.invokestatic 148, 3) := by decide +kernel
theorem dL_refuses_116 : decode cL_refuses 116 = .ok (.sipush (-1002), 3) := by decide +kernel
theorem dL_refuses_119 : decode cL_refuses 119 = .ok (.if_icmp .ne 267, 3) := by decide +kernel
theorem dL_refuses_122 : decode cL_refuses 122 = .ok (.aload_n 0, 1) := by decide +kernel
theorem dL_refuses_123 : decode cL_refuses 123 = .ok (.bipush 8, 2) := by decide +kernel
theorem dL_refuses_125 : decode cL_refuses 125 = .ok (.invokestatic 132, 3) := by decide +kernel
theorem dL_refuses_128 : decode cL_refuses 128 = .ok (.sipush (-1002), 3) := by decide +kernel
theorem dL_refuses_131 : decode cL_refuses 131 = .ok (.if_icmp .ne 255, 3) := by decide +kernel
theorem dL_refuses_134 : decode cL_refuses 134 = .ok (.aload_n 0, 1) := by decide +kernel
theorem dL_refuses_135 : decode cL_refuses 135 = .ok (.iload_n 2, 1) := by decide +kernel
theorem dL_refuses_136 : decode cL_refuses 136 = .ok (.iconst 0, 1) := by decide +kernel
theorem dL_refuses_137 : decode cL_refuses 137 = .ok (.invokestatic 151, 3) := by decide +kernel
theorem dL_refuses_140 : decode cL_refuses 140 = .ok (.sipush (-1001), 3) := by decide +kernel
theorem dL_refuses_143 : decode cL_refuses 143 = .ok (.if_icmp .ne 243, 3) := by decide +kernel
theorem dL_refuses_146 : decode cL_refuses 146 = .ok (.aload_n 0, 1) := by decide +kernel
theorem dL_refuses_147 : decode cL_refuses 147 = .ok (.iconst 0, 1) := by decide +kernel
theorem dL_refuses_148 : decode cL_refuses 148 = .ok (.iconst 0, 1) := by decide +kernel
theorem dL_refuses_149 : decode cL_refuses 149 = .ok (.invokestatic 151, 3) := by decide +kernel
theorem dL_refuses_152 : decode cL_refuses 152 = .ok (.sipush (-1002), 3) := by decide +kernel
theorem dL_refuses_155 : decode cL_refuses 155 = .ok (.if_icmp .ne 231, 3) := by decide +kernel
theorem dL_refuses_158 : decode cL_refuses 158 = .ok (.aload_n 0, 1) := by decide +kernel
theorem dL_refuses_159 : decode cL_refuses 159 = .ok (.iconst 0, 1) := by decide +kernel
theorem dL_refuses_160 : decode cL_refuses 160 = .ok (.sipush 1000, 3) := by decide +kernel
theorem dL_refuses_163 : decode cL_refuses 163 = .ok (.invokestatic 151, 3) := by decide +kernel
theorem dL_refuses_166 : decode cL_refuses 166 = .ok (.sipush (-1002), 3) := by decide +kernel
theorem dL_refuses_169 : decode cL_refuses 169 = .ok (.if_icmp .ne 217, 3) := by decide +kernel
theorem dL_refuses_172 : decode cL_refuses 172 = .ok (.iload_n 3, 1) := by decide +kernel
theorem dL_refuses_173 : decode cL_refuses 173 = .ok (.ifCond .eq 26, 3) := by decide +kernel
theorem dL_refuses_176 : decode cL_refuses 176 = .ok (.aload_n 0, 1) := by decide +kernel
theorem dL_refuses_177 : decode cL_refuses 177 = .ok (.iconst 0, 1) := by decide +kernel
theorem dL_refuses_178 : decode cL_refuses 178 = .ok (.iconst 1, 1) := by decide +kernel
theorem dL_refuses_179 : decode cL_refuses 179 = .ok (.invokestatic 151, 3) := by decide +kernel
theorem dL_refuses_182 : decode cL_refuses 182 = .ok (.sipush (-1003), 3) := by decide +kernel
theorem dL_refuses_185 : decode cL_refuses 185 = .ok (.if_icmp .ne 201, 3) := by decide +kernel
theorem dL_refuses_188 : decode cL_refuses 188 = .ok (.aload_n 0, 1) := by decide +kernel
theorem dL_refuses_189 : decode cL_refuses 189 = .ok (.iconst 0, 1) := by decide +kernel
theorem dL_refuses_190 : decode cL_refuses 190 = .ok (.invokestatic 154, 3) := by decide +kernel
theorem dL_refuses_193 : decode cL_refuses 193 = .ok (.sipush (-1003), 3) := by decide +kernel
theorem dL_refuses_196 : decode cL_refuses 196 = .ok (.if_icmp .ne 190, 3) := by decide +kernel
theorem dL_refuses_199 : decode cL_refuses 199 = .ok (.aload_n 0, 1) := by decide +kernel
theorem dL_refuses_200 : decode cL_refuses 200 = .ok (.iconst 0, 1) := by decide +kernel
theorem dL_refuses_201 : decode cL_refuses 201 = .ok (.sipush 999, 3) := by decide +kernel
theorem dL_refuses_204 : decode cL_refuses 204 = .ok (.invokestatic 151, 3) := by decide +kernel
theorem dL_refuses_207 : decode cL_refuses 207 = .ok (.sipush (-1003), 3) := by decide +kernel
theorem dL_refuses_210 : decode cL_refuses 210 = .ok (.if_icmp .ne 176, 3) := by decide +kernel
theorem dL_refuses_213 : decode cL_refuses 213 = .ok (.aload_n 0, 1) := by decide +kernel
theorem dL_refuses_214 : decode cL_refuses 214 = .ok (.iload_n 2, 1) := by decide +kernel
theorem dL_refuses_215 : decode cL_refuses 215 = .ok (.invokestatic 154, 3) := by decide +kernel
theorem dL_refuses_218 : decode cL_refuses 218 = .ok (.sipush (-1001), 3) := by decide +kernel
theorem dL_refuses_221 : decode cL_refuses 221 = .ok (.if_icmp .ne 165, 3) := by decide +kernel
theorem dL_refuses_224 : decode cL_refuses 224 = .ok (.iload 4, 2) := by decide +kernel
theorem dL_refuses_226 : decode cL_refuses 226 = .ok (.ifCond .eq 14, 3) := by decide +kernel
theorem dL_refuses_229 : decode cL_refuses 229 = .ok (.aload_n 0, 1) := by decide +kernel
theorem dL_refuses_230 : decode cL_refuses 230 = .ok (.iconst 0, 1) := by decide +kernel
theorem dL_refuses_231 : decode cL_refuses 231 = .ok (.invokestatic 154, 3) := by decide +kernel
theorem dL_refuses_234 : decode cL_refuses 234 = .ok (.sipush (-1003), 3) := by decide +kernel
theorem dL_refuses_237 : decode cL_refuses 237 = .ok (.if_icmp .ne 149, 3) := by decide +kernel
theorem dL_refuses_240 : decode cL_refuses 240 = .ok (.aload_n 0, 1) := by decide +kernel
theorem dL_refuses_241 : decode cL_refuses 241 = .ok (.iconst (-1), 1) := by decide +kernel
theorem dL_refuses_242 : decode cL_refuses 242 = .ok (.invokestatic 157, 3) := by decide +kernel
theorem dL_refuses_245 : decode cL_refuses 245 = .ok (.sipush (-1001), 3) := by decide +kernel
theorem dL_refuses_248 : decode cL_refuses 248 = .ok (.if_icmp .ne 138, 3) := by decide +kernel
theorem dL_refuses_251 : decode cL_refuses 251 = .ok (.iload_n 3, 1) := by decide +kernel
theorem dL_refuses_252 : decode cL_refuses 252 = .ok (.iconst 2, 1) := by decide +kernel
theorem dL_refuses_253 : decode cL_refuses 253 = .ok (.if_icmp .eq 19, 3) := by decide +kernel
theorem dL_refuses_256 : decode cL_refuses 256 = .ok (.iload_n 3, 1) := by decide +kernel
theorem dL_refuses_257 : decode cL_refuses 257 = .ok (.iconst 3, 1) := by decide +kernel
theorem dL_refuses_258 : decode cL_refuses 258 = .ok (.if_icmp .eq 14, 3) := by decide +kernel
theorem dL_refuses_261 : decode cL_refuses 261 = .ok (.aload_n 0, 1) := by decide +kernel
theorem dL_refuses_262 : decode cL_refuses 262 = .ok (.iconst 0, 1) := by decide +kernel
theorem dL_refuses_263 : decode cL_refuses 263 = .ok (.invokestatic 157, 3) := by decide +kernel
theorem dL_refuses_266 : decode cL_refuses 266 = .ok (.sipush (-1003), 3) := by decide +kernel
theorem dL_refuses_269 : decode cL_refuses 269 = .ok (.if_icmp .ne 117, 3) := by decide +kernel
theorem dL_refuses_272 : decode cL_refuses 272 = .ok (.aload_n 0, 1) := by decide +kernel
theorem dL_refuses_273 : decode cL_refuses 273 = .ok (.iload_n 1, 1) := by decide +kernel
theorem dL_refuses_274 : decode cL_refuses 274 = .ok (.iconst 0, 1) := by decide +kernel
theorem dL_refuses_275 : decode cL_refuses 275 = .ok (.invokestatic 160, 3) := by decide +kernel
theorem dL_refuses_278 : decode cL_refuses 278 = .ok (.sipush (-1001), 3) := by decide +kernel
theorem dL_refuses_281 : decode cL_refuses 281 = .ok (.if_icmp .ne 105, 3) := by decide +kernel
theorem dL_refuses_284 : decode cL_refuses 284 = .ok (.aload_n 0, 1) := by decide +kernel
theorem dL_refuses_285 : decode cL_refuses 285 = .ok (.iconst 0, 1) := by decide +kernel
theorem dL_refuses_286 : decode cL_refuses 286 = .ok (.iconst 0, 1) := by decide +kernel
theorem dL_refuses_287 : decode cL_refuses 287 = .ok (.invokestatic 160, 3) := by decide +kernel
theorem dL_refuses_290 : decode cL_refuses 290 = .ok (.sipush (-1002), 3) := by decide +kernel
theorem dL_refuses_293 : decode cL_refuses 293 = .ok (.if_icmp .ne 93, 3) := by decide +kernel
theorem dL_refuses_296 : decode cL_refuses 296 = .ok (.aload_n 0, 1) := by decide +kernel
theorem dL_refuses_297 : decode cL_refuses 297 = .ok (.iconst 0, 1) := by decide +kernel
theorem dL_refuses_298 : decode cL_refuses 298 = .ok (.bipush 100, 2) := by decide +kernel
theorem dL_refuses_300 : decode cL_refuses 300 = .ok (.invokestatic 160, 3) := by decide +kernel
theorem dL_refuses_303 : decode cL_refuses 303 = .ok (.sipush (-1002), 3) := by decide +kernel
theorem dL_refuses_306 : decode cL_refuses 306 = .ok (.if_icmp .ne 80, 3) := by decide +kernel
theorem dL_refuses_309 : decode cL_refuses 309 = .ok (.aload_n 0, 1) := by decide +kernel
theorem dL_refuses_310 : decode cL_refuses 310 = .ok (.iconst 0, 1) := by decide +kernel
theorem dL_refuses_311 : decode cL_refuses 311 = .ok (.invokestatic 163, 3) := by decide +kernel
theorem dL_refuses_314 : decode cL_refuses 314 = .ok (.sipush (-1002), 3) := by decide +kernel
theorem dL_refuses_317 : decode cL_refuses 317 = .ok (.if_icmp .ne 69, 3) := by decide +kernel
theorem dL_refuses_320 : decode cL_refuses 320 = .ok (.aload_n 0, 1) := by decide +kernel
theorem dL_refuses_321 : decode cL_refuses 321 = .ok (.sipush 1000, 3) := by decide +kernel
theorem dL_refuses_324 : decode cL_refuses 324 = .ok (.invokestatic 163, 3) := by decide +kernel
theorem dL_refuses_327 : decode cL_refuses 327 = .ok (.sipush (-1002), 3) := by decide +kernel
theorem dL_refuses_330 : decode cL_refuses 330 = .ok (.if_icmp .ne 56, 3) := by decide +kernel
theorem dL_refuses_333 : decode cL_refuses 333 = .ok (.aload_n 0, 1) := by decide +kernel
theorem dL_refuses_334 : decode cL_refuses 334 = .ok (.bipush 30, 2) := by decide +kernel
theorem dL_refuses_336 : decode cL_refuses 336 = .ok (.iconst 0, 1) := by decide +kernel
theorem dL_refuses_337 : decode cL_refuses 337 = .ok (.invokestatic 166, 3) := by decide +kernel
theorem dL_refuses_340 : decode cL_refuses 340 = .ok (.sipush (-1002), 3) := by decide +kernel
theorem dL_refuses_343 : decode cL_refuses 343 = .ok (.if_icmp .ne 43, 3) := by decide +kernel
theorem dL_refuses_346 : decode cL_refuses 346 = .ok (.aload_n 0, 1) := by decide +kernel
theorem dL_refuses_347 : decode cL_refuses 347 = .ok (.iconst 0, 1) := by decide +kernel
theorem dL_refuses_348 : decode cL_refuses 348 = .ok (.bipush 10, 2) := by decide +kernel
theorem dL_refuses_350 : decode cL_refuses 350 = .ok (.invokestatic 166, 3) := by decide +kernel
theorem dL_refuses_353 : decode cL_refuses 353 = .ok (.sipush (-1002), 3) := by decide +kernel
theorem dL_refuses_356 : decode cL_refuses 356 = .ok (.if_icmp .ne 30, 3) := by decide +kernel
theorem dL_refuses_359 : decode cL_refuses 359 = .ok (.aload_n 0, 1) := by decide +kernel
theorem dL_refuses_360 : decode cL_refuses 360 = .ok (.iconst 0, 1) := by decide +kernel
theorem dL_refuses_361 : decode cL_refuses 361 = .ok (.invokestatic 169, 3) := by decide +kernel
theorem dL_refuses_364 : decode cL_refuses 364 = .ok (.sipush (-1002), 3) := by decide +kernel
theorem dL_refuses_367 : decode cL_refuses 367 = .ok (.if_icmp .ne 19, 3) := by decide +kernel
theorem dL_refuses_370 : decode cL_refuses 370 = .ok (.aload_n 0, 1) := by decide +kernel
theorem dL_refuses_371 : decode cL_refuses 371 = .ok (.bipush 100, 2) := by decide +kernel
theorem dL_refuses_373 : decode cL_refuses 373 = .ok (.invokestatic 169, 3) := by decide +kernel
theorem dL_refuses_376 : decode cL_refuses 376 = .ok (.sipush (-1002), 3) := by decide +kernel
theorem dL_refuses_379 : decode cL_refuses 379 = .ok (.if_icmp .ne 7, 3) := by decide +kernel
theorem dL_refuses_382 : decode cL_refuses 382 = .ok (.iconst 1, 1) := by decide +kernel
theorem dL_refuses_383 : decode cL_refuses 383 = .ok (.goto 4, 3) := by decide +kernel
theorem dL_refuses_386 : decode cL_refuses 386 = .ok (.iconst 0, 1) := by decide +kernel
theorem dL_refuses_387 : decode cL_refuses 387 = .ok (.istore 5, 2) := by decide +kernel
theorem dL_refuses_389 : decode cL_refuses 389 = .ok (.iload 5, 2) := by decide +kernel
theorem dL_refuses_391 : decode cL_refuses 391 = .ok (.ifCond .eq 190, 3) := by decide +kernel
theorem dL_refuses_394 : decode cL_refuses 394 = .ok (.aload_n 0, 1) := by decide +kernel
theorem dL_refuses_395 : decode cL_refuses 395 = .ok (.iload_n 1, 1) := by decide +kernel
theorem dL_refuses_396 : decode cL_refuses 396 = .ok (.bipush 100, 2) := by decide +kernel
theorem dL_refuses_398 : decode cL_refuses 398 = .ok (.invokestatic 172, 3) := by decide +kernel
theorem dL_refuses_401 : decode cL_refuses 401 = .ok (.sipush (-1001), 3) := by decide +kernel
theorem dL_refuses_404 : decode cL_refuses 404 = .ok (.if_icmp .ne 177, 3) := by decide +kernel
theorem dL_refuses_407 : decode cL_refuses 407 = .ok (.aload_n 0, 1) := by decide +kernel
theorem dL_refuses_408 : decode cL_refuses 408 = .ok (.iconst 0, 1) := by decide +kernel
theorem dL_refuses_409 : decode cL_refuses 409 = .ok (.bipush 100, 2) := by decide +kernel
theorem dL_refuses_411 : decode cL_refuses 411 = .ok (.invokestatic 172, 3) := by decide +kernel
theorem dL_refuses_414 : decode cL_refuses 414 = .ok (.sipush (-1002), 3) := by decide +kernel
theorem dL_refuses_417 : decode cL_refuses 417 = .ok (.if_icmp .ne 164, 3) := by decide +kernel
theorem dL_refuses_420 : decode cL_refuses 420 = .ok (.aload_n 0, 1) := by decide +kernel
theorem dL_refuses_421 : decode cL_refuses 421 = .ok (.iload_n 2, 1) := by decide +kernel
theorem dL_refuses_422 : decode cL_refuses 422 = .ok (.iconst 0, 1) := by decide +kernel
theorem dL_refuses_423 : decode cL_refuses 423 = .ok (.invokestatic 175, 3) := by decide +kernel
theorem dL_refuses_426 : decode cL_refuses 426 = .ok (.sipush (-1001), 3) := by decide +kernel
theorem dL_refuses_429 : decode cL_refuses 429 = .ok (.if_icmp .ne 152, 3) := by decide +kernel
theorem dL_refuses_432 : decode cL_refuses 432 = .ok (.aload_n 0, 1) := by decide +kernel
theorem dL_refuses_433 : decode cL_refuses 433 = .ok (.iconst 0, 1) := by decide +kernel
theorem dL_refuses_434 : decode cL_refuses 434 = .ok (.iload_n 1, 1) := by decide +kernel
theorem dL_refuses_435 : decode cL_refuses 435 = .ok (.invokestatic 175, 3) := by decide +kernel
theorem dL_refuses_438 : decode cL_refuses 438 = .ok (.sipush (-1001), 3) := by decide +kernel
theorem dL_refuses_441 : decode cL_refuses 441 = .ok (.if_icmp .ne 140, 3) := by decide +kernel
theorem dL_refuses_444 : decode cL_refuses 444 = .ok (.aload_n 0, 1) := by decide +kernel
theorem dL_refuses_445 : decode cL_refuses 445 = .ok (.iconst 0, 1) := by decide +kernel
theorem dL_refuses_446 : decode cL_refuses 446 = .ok (.iload_n 1, 1) := by decide +kernel
theorem dL_refuses_447 : decode cL_refuses 447 = .ok (.invokestatic 178, 3) := by decide +kernel
theorem dL_refuses_450 : decode cL_refuses 450 = .ok (.sipush (-1001), 3) := by decide +kernel
theorem dL_refuses_453 : decode cL_refuses 453 = .ok (.if_icmp .ne 128, 3) := by decide +kernel
theorem dL_refuses_456 : decode cL_refuses 456 = .ok (.aload_n 0, 1) := by decide +kernel
theorem dL_refuses_457 : decode cL_refuses 457 = .ok (.bipush 100, 2) := by decide +kernel
theorem dL_refuses_459 : decode cL_refuses 459 = .ok (.iconst 0, 1) := by decide +kernel
theorem dL_refuses_460 : decode cL_refuses 460 = .ok (.invokestatic 181, 3) := by decide +kernel
theorem dL_refuses_463 : decode cL_refuses 463 = .ok (.sipush (-1002), 3) := by decide +kernel
theorem dL_refuses_466 : decode cL_refuses 466 = .ok (.if_icmp .ne 115, 3) := by decide +kernel
theorem dL_refuses_469 : decode cL_refuses 469 = .ok (.aload_n 0, 1) := by decide +kernel
theorem dL_refuses_470 : decode cL_refuses 470 = .ok (.iconst 0, 1) := by decide +kernel
theorem dL_refuses_471 : decode cL_refuses 471 = .ok (.iconst 5, 1) := by decide +kernel
theorem dL_refuses_472 : decode cL_refuses 472 = .ok (.invokestatic 181, 3) := by decide +kernel
theorem dL_refuses_475 : decode cL_refuses 475 = .ok (.sipush (-1002), 3) := by decide +kernel
theorem dL_refuses_478 : decode cL_refuses 478 = .ok (.if_icmp .ne 103, 3) := by decide +kernel
theorem dL_refuses_481 : decode cL_refuses 481 = .ok (.aload_n 0, 1) := by decide +kernel
theorem dL_refuses_482 : decode cL_refuses 482 = .ok (.iload_n 1, 1) := by decide +kernel
theorem dL_refuses_483 : decode cL_refuses 483 = .ok (.invokestatic 184, 3) := by decide +kernel
theorem dL_refuses_486 : decode cL_refuses 486 = .ok (.sipush (-1001), 3) := by decide +kernel
theorem dL_refuses_489 : decode cL_refuses 489 = .ok (.if_icmp .ne 92, 3) := by decide +kernel
theorem dL_refuses_492 : decode cL_refuses 492 = .ok (.aload_n 0, 1) := by decide +kernel
theorem dL_refuses_493 : decode cL_refuses 493 = .ok (.iconst (-1), 1) := by decide +kernel
theorem dL_refuses_494 : decode cL_refuses 494 = .ok (.invokestatic 187, 3) := by decide +kernel
theorem dL_refuses_497 : decode cL_refuses 497 = .ok (.sipush (-1001), 3) := by decide +kernel
theorem dL_refuses_500 : decode cL_refuses 500 = .ok (.if_icmp .ne 81, 3) := by decide +kernel
theorem dL_refuses_503 : decode cL_refuses 503 = .ok (.aload_n 0, 1) := by decide +kernel
theorem dL_refuses_504 : decode cL_refuses 504 = .ok (.iconst 4, 1) := by decide +kernel
theorem dL_refuses_505 : decode cL_refuses 505 = .ok (.lconst 0, 1) := by decide +kernel
theorem dL_refuses_506 : decode cL_refuses 506 = .ok (.invokestatic 190, 3) := by decide +kernel
theorem dL_refuses_509 : decode cL_refuses 509 = .ok (.sipush (-1002), 3) := by decide +kernel
theorem dL_refuses_512 : decode cL_refuses 512 = .ok (.if_icmp .ne 69, 3) := by decide +kernel
theorem dL_refuses_515 : decode cL_refuses 515 = .ok (.aload_n 0, 1) := by decide +kernel
theorem dL_refuses_516 : decode cL_refuses 516 = .ok (.iconst 1, 1) := by decide +kernel
theorem dL_refuses_517 : decode cL_refuses 517 = .ok (.ldc2_w 194, 3) := by decide +kernel
theorem dL_refuses_520 : decode cL_refuses 520 = .ok (.invokestatic 190, 3) := by decide +kernel
theorem dL_refuses_523 : decode cL_refuses 523 = .ok (.sipush (-1002), 3) := by decide +kernel
theorem dL_refuses_526 : decode cL_refuses 526 = .ok (.if_icmp .ne 55, 3) := by decide +kernel
theorem dL_refuses_529 : decode cL_refuses 529 = .ok (.aload_n 0, 1) := by decide +kernel
theorem dL_refuses_530 : decode cL_refuses 530 = .ok (.lconst 1, 1) := by decide +kernel
theorem dL_refuses_531 : decode cL_refuses 531 = .ok (.bipush 100, 2) := by decide +kernel
theorem dL_refuses_533 : decode cL_refuses 533 = .ok (.invokestatic 196, 3) := by decide +kernel
theorem dL_refuses_536 : decode cL_refuses 536 = .ok (.sipush (-1002), 3) := by decide +kernel
theorem dL_refuses_539 : decode cL_refuses 539 = .ok (.if_icmp .ne 42, 3) := by decide +kernel
theorem dL_refuses_542 : decode cL_refuses 542 = .ok (.aload_n 0, 1) := by decide +kernel
theorem dL_refuses_543 : decode cL_refuses 543 = .ok (.iconst 2, 1) := by decide +kernel
theorem dL_refuses_544 : decode cL_refuses 544 = .ok (.invokestatic 200, 3) := by decide +kernel
theorem dL_refuses_547 : decode cL_refuses 547 = .ok (.sipush (-1001), 3) := by decide +kernel
theorem dL_refuses_550 : decode cL_refuses 550 = .ok (.if_icmp .ne 31, 3) := by decide +kernel
theorem dL_refuses_553 : decode cL_refuses 553 = .ok (.aload_n 0, 1) := by decide +kernel
theorem dL_refuses_554 : decode cL_refuses 554 = .ok (.iconst (-1), 1) := by decide +kernel
theorem dL_refuses_555 : decode cL_refuses 555 = .ok (.invokestatic 142, 3) := by decide +kernel
theorem dL_refuses_558 : decode cL_refuses 558 = .ok (.sipush (-1001), 3) := by decide +kernel
theorem dL_refuses_561 : decode cL_refuses 561 = .ok (.if_icmp .ne 20, 3) := by decide +kernel
theorem dL_refuses_564 : decode cL_refuses 564 = .ok (.aload_n 0, 1) := by decide +kernel
theorem dL_refuses_565 : decode cL_refuses 565 = .ok (.sipush 256, 3) := by decide +kernel
theorem dL_refuses_568 : decode cL_refuses 568 = .ok (.invokestatic 97, 3) := by decide +kernel
theorem dL_refuses_571 : decode cL_refuses 571 = .ok (.sipush (-1002), 3) := by decide +kernel
theorem dL_refuses_574 : decode cL_refuses 574 = .ok (.if_icmp .ne 7, 3) := by decide +kernel
theorem dL_refuses_577 : decode cL_refuses 577 = .ok (.iconst 1, 1) := by decide +kernel
theorem dL_refuses_578 : decode cL_refuses 578 = .ok (.goto 4, 3) := by decide +kernel
theorem dL_refuses_581 : decode cL_refuses 581 = .ok (.iconst 0, 1) := by decide +kernel
theorem dL_refuses_582 : decode cL_refuses 582 = .ok (.ireturn, 1) := by decide +kernel
theorem dL_sound_0 : decode cL_sound 0 = .ok (.iconst 0, 1) := by decide +kernel
theorem dL_sound_1 : decode cL_sound 1 = .ok (.istore_n 1, 1) := by decide +kernel
theorem dL_sound_2 : decode cL_sound 2 = .ok (.iconst 0, 1) := by decide +kernel
theorem dL_sound_3 : decode cL_sound 3 = .ok (.istore_n 2, 1) := by decide +kernel
theorem dL_sound_4 : decode cL_sound 4 = .ok (.iconst 0, 1) := by decide +kernel
theorem dL_sound_5 : decode cL_sound 5 = .ok (.istore_n 3, 1) := by decide +kernel
theorem dL_sound_6 : decode cL_sound 6 = .ok (.iconst 1, 1) := by decide +kernel
theorem dL_sound_7 : decode cL_sound 7 = .ok (.istore 4, 2) := by decide +kernel
theorem dL_sound_9 : decode cL_sound 9 = .ok (.iconst 0, 1) := by decide +kernel
theorem dL_sound_10 : decode cL_sound 10 = .ok (.istore 5, 2) := by decide +kernel
theorem dL_sound_12 : decode cL_sound 12 = .ok (.iload 5, 2) := by decide +kernel
theorem dL_sound_14 : decode cL_sound 14 = .ok (.aload_n 0, 1) := by decide +kernel
theorem dL_sound_15 : decode cL_sound 15 = .ok (.iconst 1, 1) := by decide +kernel
theorem dL_sound_16 : decode cL_sound 16 = .ok (.invokestatic 129, 3) := by decide +kernel
theorem dL_sound_19 : decode cL_sound 19 = .ok (.if_icmp .ge 145, 3) := by decide +kernel
theorem dL_sound_22 : decode cL_sound 22 = .ok (.iload 4, 2) := by decide +kernel
theorem dL_sound_24 : decode cL_sound 24 = .ok (.ifCond .eq 140, 3) := by decide +kernel
theorem dL_sound_27 : decode cL_sound 27 = .ok (.aload_n 0, 1) := by decide +kernel
theorem dL_sound_28 : decode cL_sound 28 = .ok (.iload 5, 2) := by decide +kernel
theorem dL_sound_30 : decode cL_sound 30 = .ok (.iconst 5, 1) := by decide +kernel
theorem dL_sound_31 : decode cL_sound 31 = .ok (.invokestatic 135, 3) := by decide +kernel
theorem dL_sound_34 : decode cL_sound 34 = .ok (.istore 6, 2) := by decide +kernel
theorem dL_sound_36 : decode cL_sound 36 = .ok (.iload_n 1, 1) := by decide +kernel
theorem dL_sound_37 : decode cL_sound 37 = .ok (.aload_n 0, 1) := by decide +kernel
theorem dL_sound_38 : decode cL_sound 38 = .ok (.iload 5, 2) := by decide +kernel
theorem dL_sound_40 : decode cL_sound 40 = .ok (.iconst 4, 1) := by decide +kernel
theorem dL_sound_41 : decode cL_sound 41 = .ok (.invokestatic 135, 3) := by decide +kernel
theorem dL_sound_44 : decode cL_sound 44 = .ok (.iadd, 1) := by decide +kernel
theorem dL_sound_45 : decode cL_sound 45 = .ok (.istore_n 1, 1) := by decide +kernel
theorem dL_sound_46 : decode cL_sound 46 = .ok (.iload_n 2, 1) := by decide +kernel
theorem dL_sound_47 : decode cL_sound 47 = .ok (.aload_n 0, 1) := by decide +kernel
theorem dL_sound_48 : decode cL_sound 48 = .ok (.iload 5, 2) := by decide +kernel
theorem dL_sound_50 : decode cL_sound 50 = .ok (.bipush 7, 2) := by decide +kernel
theorem dL_sound_52 : decode cL_sound 52 = .ok (.invokestatic 135, 3) := by decide +kernel
theorem dL_sound_55 : decode cL_sound 55 = .ok (.iadd, 1) := by decide +kernel
theorem dL_sound_56 : decode cL_sound 56 = .ok (.istore_n 2, 1) := by decide +kernel
theorem dL_sound_57 : decode cL_sound 57 = .ok (.iload_n 3, 1) := by decide +kernel
theorem dL_sound_58 : decode cL_sound 58 = .ok (.iload 6, 2) := by decide +kernel
theorem dL_sound_60 : decode cL_sound 60 = .ok (.iconst 3, 1) := by decide +kernel
theorem dL_sound_61 : decode cL_sound 61 = .ok (.if_icmp .ne 7, 3) := by decide +kernel
theorem dL_sound_64 : decode cL_sound 64 = .ok (.iconst 1, 1) := by decide +kernel
theorem dL_sound_65 : decode cL_sound 65 = .ok (.goto 4, 3) := by decide +kernel
theorem dL_sound_68 : decode cL_sound 68 = .ok (.iconst 0, 1) := by decide +kernel
theorem dL_sound_69 : decode cL_sound 69 = .ok (.iadd, 1) := by decide +kernel
theorem dL_sound_70 : decode cL_sound 70 = .ok (.istore_n 3, 1) := by decide +kernel
theorem dL_sound_71 : decode cL_sound 71 = .ok (.aload_n 0, 1) := by decide +kernel
theorem dL_sound_72 : decode cL_sound 72 = .ok (.iload 5, 2) := by decide +kernel
theorem dL_sound_74 : decode cL_sound 74 = .ok (.iconst 4, 1) := by decide +kernel
theorem dL_sound_75 : decode cL_sound 75 = .ok (.invokestatic 135, 3) := by decide +kernel
theorem dL_sound_78 : decode cL_sound 78 = .ok (.ifCond .lt 77, 3) := by decide +kernel
theorem dL_sound_81 : decode cL_sound 81 = .ok (.aload_n 0, 1) := by decide +kernel
theorem dL_sound_82 : decode cL_sound 82 = .ok (.iload 5, 2) := by decide +kernel
theorem dL_sound_84 : decode cL_sound 84 = .ok (.iconst 4, 1) := by decide +kernel
theorem dL_sound_85 : decode cL_sound 85 = .ok (.invokestatic 135, 3) := by decide +kernel
theorem dL_sound_88 : decode cL_sound 88 = .ok (.aload_n 0, 1) := by decide +kernel
theorem dL_sound_89 : decode cL_sound 89 = .ok (.iload 5, 2) := by decide +kernel
theorem dL_sound_91 : decode cL_sound 91 = .ok (.iconst 0, 1) := by decide +kernel
theorem dL_sound_92 : decode cL_sound 92 = .ok (.invokestatic 135, 3) := by decide +kernel
theorem dL_sound_95 : decode cL_sound 95 = .ok (.if_icmp .gt 60, 3) := by decide +kernel
theorem dL_sound_98 : decode cL_sound 98 = .ok (.aload_n 0, 1) := by decide +kernel
theorem dL_sound_99 : decode cL_sound 99 = .ok (.iload 5, 2) := by decide +kernel
theorem dL_sound_101 : decode cL_sound 101 = .ok (.bipush 6, 2) := by decide +kernel
theorem dL_sound_103 : decode cL_sound 103 = .ok (.invokestatic 135, 3) := by decide +kernel
theorem dL_sound_106 : decode cL_sound 106 = .ok (.ifCond .le 7, 3) := by decide +kernel
theorem dL_sound_109 : decode cL_sound 109 = .ok (.iconst 1, 1) := by decide +kernel
theorem dL_sound_110 : decode cL_sound 110 = .ok (.goto 4, 3) := by decide +kernel
theorem dL_sound_113 : decode cL_sound 113 = .ok (.iconst 0, 1) := by decide +kernel
theorem dL_sound_114 : decode cL_sound 114 = .ok (.iload 6, 2) := by decide +kernel
theorem dL_sound_116 : decode cL_sound 116 = .ok (.iconst 1, 1) := by decide +kernel
theorem dL_sound_117 : decode cL_sound 117 = .ok (.if_icmp .eq 9, 3) := by decide +kernel
theorem dL_sound_120 : decode cL_sound 120 = .ok (.iload 6, 2) := by decide +kernel
theorem dL_sound_122 : decode cL_sound 122 = .ok (.iconst 4, 1) := by decide +kernel
theorem dL_sound_123 : decode cL_sound 123 = .ok (.if_icmp .ne 7, 3) := by decide +kernel
theorem dL_sound_126 : decode cL_sound 126 = .ok (.iconst 1, 1) := by decide +kernel
theorem dL_sound_127 : decode cL_sound 127 = .ok (.goto 4, 3) := by decide +kernel
theorem dL_sound_130 : decode cL_sound 130 = .ok (.iconst 0, 1) := by decide +kernel
theorem dL_sound_131 : decode cL_sound 131 = .ok (.if_icmp .ne 24, 3) := by decide +kernel
theorem dL_sound_134 : decode cL_sound 134 = .ok (.iload 6, 2) := by decide +kernel
theorem dL_sound_136 : decode cL_sound 136 = .ok (.iconst 3, 1) := by decide +kernel
theorem dL_sound_137 : decode cL_sound 137 = .ok (.if_icmp .ne 14, 3) := by decide +kernel
theorem dL_sound_140 : decode cL_sound 140 = .ok (.aload_n 0, 1) := by decide +kernel
theorem dL_sound_141 : decode cL_sound 141 = .ok (.bipush 8, 2) := by decide +kernel
theorem dL_sound_143 : decode cL_sound 143 = .ok (.invokestatic 129, 3) := by decide +kernel
theorem dL_sound_146 : decode cL_sound 146 = .ok (.iload 5, 2) := by decide +kernel
theorem dL_sound_148 : decode cL_sound 148 = .ok (.if_icmp .ne 7, 3) := by decide +kernel
theorem dL_sound_151 : decode cL_sound 151 = .ok (.iconst 1, 1) := by decide +kernel
theorem dL_sound_152 : decode cL_sound 152 = .ok (.goto 4, 3) := by decide +kernel
theorem dL_sound_155 : decode cL_sound 155 = .ok (.iconst 0, 1) := by decide +kernel
theorem dL_sound_156 : decode cL_sound 156 = .ok (.istore 4, 2) := by decide +kernel
theorem dL_sound_158 : decode cL_sound 158 = .ok (.iinc 5 1, 3) := by decide +kernel
theorem dL_sound_161 : decode cL_sound 161 = .ok (.goto (-149), 3) := by decide +kernel
theorem dL_sound_164 : decode cL_sound 164 = .ok (.aload_n 0, 1) := by decide +kernel
theorem dL_sound_165 : decode cL_sound 165 = .ok (.bipush 6, 2) := by decide +kernel
theorem dL_sound_167 : decode cL_sound 167 = .ok (.invokestatic 129, 3) := by decide +kernel
theorem dL_sound_170 : decode cL_sound 170 = .ok (.istore 5, 2) := by decide +kernel
theorem dL_sound_172 : decode cL_sound 172 = .ok (.iconst 0, 1) := by decide +kernel
theorem dL_sound_173 : decode cL_sound 173 = .ok (.istore 6, 2) := by decide +kernel
theorem dL_sound_175 : decode cL_sound 175 = .ok (.iconst 0, 1) := by decide +kernel
theorem dL_sound_176 : decode cL_sound 176 = .ok (.istore 7, 2) := by decide +kernel
theorem dL_sound_178 : decode cL_sound 178 = .ok (.iload 7, 2) := by decide +kernel
theorem dL_sound_180 : decode cL_sound 180 = .ok (.aload_n 0, 1) := by decide +kernel
theorem dL_sound_181 : decode cL_sound 181 = .ok (.iconst 0, 1) := by decide +kernel
theorem dL_sound_182 : decode cL_sound 182 = .ok (.invokestatic 129, 3) := by decide +kernel
theorem dL_sound_185 : decode cL_sound 185 = .ok (.if_icmp .ge 126, 3) := by decide +kernel
theorem dL_sound_188 : decode cL_sound 188 = .ok (.iload 4, 2) := by decide +kernel
theorem dL_sound_190 : decode cL_sound 190 = .ok (.ifCond .eq 121, 3) := by decide +kernel
theorem dL_sound_193 : decode cL_sound 193 = .ok (.iload 6, 2) := by decide +kernel
theorem dL_sound_195 : decode cL_sound 195 = .ok (.aload_n 0, 1) := by decide +kernel
theorem dL_sound_196 : decode cL_sound 196 = .ok (.iload 7, 2) := by decide +kernel
theorem dL_sound_198 : decode cL_sound 198 = .ok (.iconst 0, 1) := by decide +kernel
theorem dL_sound_199 : decode cL_sound 199 = .ok (.invokestatic 145, 3) := by decide +kernel
theorem dL_sound_202 : decode cL_sound 202 = .ok (.aload_n 0, 1) := by decide +kernel
theorem dL_sound_203 : decode cL_sound 203 = .ok (.iload 7, 2) := by decide +kernel
theorem dL_sound_205 : decode cL_sound 205 = .ok (.iconst 4, 1) := by decide +kernel
theorem dL_sound_206 : decode cL_sound 206 = .ok (.invokestatic 145, 3) := by decide +kernel
theorem dL_sound_209 : decode cL_sound 209 = .ok (.isub, 1) := by decide +kernel
theorem dL_sound_210 : decode cL_sound 210 = .ok (.iadd, 1) := by decide +kernel
theorem dL_sound_211 : decode cL_sound 211 = .ok (.istore 6, 2) := by decide +kernel
end
section
theorem dL_sound_213 : decode cL_sound 213 = .ok (.aload_n 0, 1) := by decide +kernel
theorem dL_sound_214 : decode cL_sound 214 = .ok (.iload 7, 2) := by decide +kernel
theorem dL_sound_216 : decode cL_sound 216 = .ok (.iconst 4, 1) := by decide +kernel
theorem dL_sound_217 : decode cL_sound 217 = .ok (.invokestatic 145, 3) := by decide +kernel
theorem dL_sound_220 : decode cL_sound 220 = .ok (.ifCond .ne 7, 3) := by decide +kernel
theorem dL_sound_223 : decode cL_sound 223 = .ok (.iconst 1, 1) := by decide +kernel
theorem dL_sound_224 : decode cL_sound 224 = .ok (.goto 4, 3) := by decide +kernel
theorem dL_sound_227 : decode cL_sound 227 = .ok (.iconst 0, 1) := by decide +kernel
theorem dL_sound_228 : decode cL_sound 228 = .ok (.iload 7, 2) := by decide +kernel
theorem dL_sound_230 : decode cL_sound 230 = .ok (.iload 5, 2) := by decide +kernel
theorem dL_sound_232 : decode cL_sound 232 = .ok (.if_icmp .ge 7, 3) := by decide +kernel
theorem dL_sound_235 : decode cL_sound 235 = .ok (.iconst 1, 1) := by decide +kernel
theorem dL_sound_236 : decode cL_sound 236 = .ok (.goto 4, 3) := by decide +kernel
theorem dL_sound_239 : decode cL_sound 239 = .ok (.iconst 0, 1) := by decide +kernel
theorem dL_sound_240 : decode cL_sound 240 = .ok (.if_icmp .ne 62, 3) := by decide +kernel
theorem dL_sound_243 : decode cL_sound 243 = .ok (.iload 7, 2) := by decide +kernel
theorem dL_sound_245 : decode cL_sound 245 = .ok (.iload 5, 2) := by decide +kernel
theorem dL_sound_247 : decode cL_sound 247 = .ok (.if_icmp .le 20, 3) := by decide +kernel
theorem dL_sound_250 : decode cL_sound 250 = .ok (.aload_n 0, 1) := by decide +kernel
theorem dL_sound_251 : decode cL_sound 251 = .ok (.iload 7, 2) := by decide +kernel
theorem dL_sound_253 : decode cL_sound 253 = .ok (.iconst 4, 1) := by decide +kernel
theorem dL_sound_254 : decode cL_sound 254 = .ok (.invokestatic 145, 3) := by decide +kernel
theorem dL_sound_257 : decode cL_sound 257 = .ok (.aload_n 0, 1) := by decide +kernel
theorem dL_sound_258 : decode cL_sound 258 = .ok (.iload 7, 2) := by decide +kernel
theorem dL_sound_260 : decode cL_sound 260 = .ok (.iconst 0, 1) := by decide +kernel
theorem dL_sound_261 : decode cL_sound 261 = .ok (.invokestatic 145, 3) := by decide +kernel
theorem dL_sound_264 : decode cL_sound 264 = .ok (.if_icmp .ne 38, 3) := by decide +kernel
theorem dL_sound_267 : decode cL_sound 267 = .ok (.iload 7, 2) := by decide +kernel
theorem dL_sound_269 : decode cL_sound 269 = .ok (.iload 5, 2) := by decide +kernel
theorem dL_sound_271 : decode cL_sound 271 = .ok (.if_icmp .ne 27, 3) := by decide +kernel
theorem dL_sound_274 : decode cL_sound 274 = .ok (.aload_n 0, 1) := by decide +kernel
theorem dL_sound_275 : decode cL_sound 275 = .ok (.bipush 7, 2) := by decide +kernel
theorem dL_sound_277 : decode cL_sound 277 = .ok (.invokestatic 129, 3) := by decide +kernel
theorem dL_sound_280 : decode cL_sound 280 = .ok (.aload_n 0, 1) := by decide +kernel
theorem dL_sound_281 : decode cL_sound 281 = .ok (.iload 7, 2) := by decide +kernel
theorem dL_sound_283 : decode cL_sound 283 = .ok (.iconst 0, 1) := by decide +kernel
theorem dL_sound_284 : decode cL_sound 284 = .ok (.invokestatic 145, 3) := by decide +kernel
theorem dL_sound_287 : decode cL_sound 287 = .ok (.aload_n 0, 1) := by decide +kernel
theorem dL_sound_288 : decode cL_sound 288 = .ok (.iload 7, 2) := by decide +kernel
theorem dL_sound_290 : decode cL_sound 290 = .ok (.iconst 4, 1) := by decide +kernel
theorem dL_sound_291 : decode cL_sound 291 = .ok (.invokestatic 145, 3) := by decide +kernel
theorem dL_sound_294 : decode cL_sound 294 = .ok (.isub, 1) := by decide +kernel
theorem dL_sound_295 : decode cL_sound 295 = .ok (.if_icmp .ne 7, 3) := by decide +kernel
theorem dL_sound_298 : decode cL_sound 298 = .ok (.iconst 1, 1) := by decide +kernel
theorem dL_sound_299 : decode cL_sound 299 = .ok (.goto 4, 3) := by decide +kernel
theorem dL_sound_302 : decode cL_sound 302 = .ok (.iconst 0, 1) := by decide +kernel
theorem dL_sound_303 : decode cL_sound 303 = .ok (.istore 4, 2) := by decide +kernel
theorem dL_sound_305 : decode cL_sound 305 = .ok (.iinc 7 1, 3) := by decide +kernel
theorem dL_sound_308 : decode cL_sound 308 = .ok (.goto (-130), 3) := by decide +kernel
theorem dL_sound_311 : decode cL_sound 311 = .ok (.aload_n 0, 1) := by decide +kernel
theorem dL_sound_312 : decode cL_sound 312 = .ok (.bipush 10, 2) := by decide +kernel
theorem dL_sound_314 : decode cL_sound 314 = .ok (.invokestatic 129, 3) := by decide +kernel
theorem dL_sound_317 : decode cL_sound 317 = .ok (.istore 7, 2) := by decide +kernel
theorem dL_sound_319 : decode cL_sound 319 = .ok (.iload 4, 2) := by decide +kernel
theorem dL_sound_321 : decode cL_sound 321 = .ok (.ifCond .eq 190, 3) := by decide +kernel
theorem dL_sound_324 : decode cL_sound 324 = .ok (.iload_n 3, 1) := by decide +kernel
theorem dL_sound_325 : decode cL_sound 325 = .ok (.iconst 1, 1) := by decide +kernel
theorem dL_sound_326 : decode cL_sound 326 = .ok (.if_icmp .gt 185, 3) := by decide +kernel
theorem dL_sound_329 : decode cL_sound 329 = .ok (.iload_n 3, 1) := by decide +kernel
theorem dL_sound_330 : decode cL_sound 330 = .ok (.iconst 1, 1) := by decide +kernel
theorem dL_sound_331 : decode cL_sound 331 = .ok (.if_icmp .ne 7, 3) := by decide +kernel
theorem dL_sound_334 : decode cL_sound 334 = .ok (.iconst 1, 1) := by decide +kernel
theorem dL_sound_335 : decode cL_sound 335 = .ok (.goto 4, 3) := by decide +kernel
theorem dL_sound_338 : decode cL_sound 338 = .ok (.iconst 0, 1) := by decide +kernel
theorem dL_sound_339 : decode cL_sound 339 = .ok (.aload_n 0, 1) := by decide +kernel
theorem dL_sound_340 : decode cL_sound 340 = .ok (.bipush 8, 2) := by decide +kernel
theorem dL_sound_342 : decode cL_sound 342 = .ok (.invokestatic 129, 3) := by decide +kernel
theorem dL_sound_345 : decode cL_sound 345 = .ok (.bipush (-9), 2) := by decide +kernel
theorem dL_sound_347 : decode cL_sound 347 = .ok (.if_icmp .eq 7, 3) := by decide +kernel
theorem dL_sound_350 : decode cL_sound 350 = .ok (.iconst 1, 1) := by decide +kernel
theorem dL_sound_351 : decode cL_sound 351 = .ok (.goto 4, 3) := by decide +kernel
theorem dL_sound_354 : decode cL_sound 354 = .ok (.iconst 0, 1) := by decide +kernel
theorem dL_sound_355 : decode cL_sound 355 = .ok (.if_icmp .ne 156, 3) := by decide +kernel
theorem dL_sound_358 : decode cL_sound 358 = .ok (.iload 6, 2) := by decide +kernel
theorem dL_sound_360 : decode cL_sound 360 = .ok (.aload_n 0, 1) := by decide +kernel
theorem dL_sound_361 : decode cL_sound 361 = .ok (.iconst 1, 1) := by decide +kernel
theorem dL_sound_362 : decode cL_sound 362 = .ok (.invokestatic 132, 3) := by decide +kernel
theorem dL_sound_365 : decode cL_sound 365 = .ok (.if_icmp .ne 146, 3) := by decide +kernel
theorem dL_sound_368 : decode cL_sound 368 = .ok (.iload_n 2, 1) := by decide +kernel
theorem dL_sound_369 : decode cL_sound 369 = .ok (.iload 6, 2) := by decide +kernel
theorem dL_sound_371 : decode cL_sound 371 = .ok (.if_icmp .ne 140, 3) := by decide +kernel
theorem dL_sound_374 : decode cL_sound 374 = .ok (.iload_n 1, 1) := by decide +kernel
theorem dL_sound_375 : decode cL_sound 375 = .ok (.aload_n 0, 1) := by decide +kernel
theorem dL_sound_376 : decode cL_sound 376 = .ok (.iconst 3, 1) := by decide +kernel
theorem dL_sound_377 : decode cL_sound 377 = .ok (.invokestatic 132, 3) := by decide +kernel
theorem dL_sound_380 : decode cL_sound 380 = .ok (.if_icmp .ne 131, 3) := by decide +kernel
theorem dL_sound_383 : decode cL_sound 383 = .ok (.aload_n 0, 1) := by decide +kernel
theorem dL_sound_384 : decode cL_sound 384 = .ok (.iconst 0, 1) := by decide +kernel
theorem dL_sound_385 : decode cL_sound 385 = .ok (.invokestatic 132, 3) := by decide +kernel
theorem dL_sound_388 : decode cL_sound 388 = .ok (.aload_n 0, 1) := by decide +kernel
theorem dL_sound_389 : decode cL_sound 389 = .ok (.iconst 4, 1) := by decide +kernel
theorem dL_sound_390 : decode cL_sound 390 = .ok (.invokestatic 129, 3) := by decide +kernel
theorem dL_sound_393 : decode cL_sound 393 = .ok (.iload_n 1, 1) := by decide +kernel
theorem dL_sound_394 : decode cL_sound 394 = .ok (.iadd, 1) := by decide +kernel
theorem dL_sound_395 : decode cL_sound 395 = .ok (.iload 6, 2) := by decide +kernel
theorem dL_sound_397 : decode cL_sound 397 = .ok (.iadd, 1) := by decide +kernel
theorem dL_sound_398 : decode cL_sound 398 = .ok (.aload_n 0, 1) := by decide +kernel
theorem dL_sound_399 : decode cL_sound 399 = .ok (.iconst 2, 1) := by decide +kernel
theorem dL_sound_400 : decode cL_sound 400 = .ok (.invokestatic 132, 3) := by decide +kernel
theorem dL_sound_403 : decode cL_sound 403 = .ok (.iadd, 1) := by decide +kernel
theorem dL_sound_404 : decode cL_sound 404 = .ok (.if_icmp .ne 107, 3) := by decide +kernel
theorem dL_sound_407 : decode cL_sound 407 = .ok (.iload 7, 2) := by decide +kernel
theorem dL_sound_409 : decode cL_sound 409 = .ok (.ifCond .eq 8, 3) := by decide +kernel
theorem dL_sound_412 : decode cL_sound 412 = .ok (.iload_n 3, 1) := by decide +kernel
theorem dL_sound_413 : decode cL_sound 413 = .ok (.iconst 1, 1) := by decide +kernel
theorem dL_sound_414 : decode cL_sound 414 = .ok (.if_icmp .ne 97, 3) := by decide +kernel
theorem dL_sound_417 : decode cL_sound 417 = .ok (.iload 7, 2) := by decide +kernel
theorem dL_sound_419 : decode cL_sound 419 = .ok (.iconst 2, 1) := by decide +kernel
theorem dL_sound_420 : decode cL_sound 420 = .ok (.if_icmp .ne 7, 3) := by decide +kernel
theorem dL_sound_423 : decode cL_sound 423 = .ok (.iconst 1, 1) := by decide +kernel
theorem dL_sound_424 : decode cL_sound 424 = .ok (.goto 4, 3) := by decide +kernel
theorem dL_sound_427 : decode cL_sound 427 = .ok (.iconst 0, 1) := by decide +kernel
theorem dL_sound_428 : decode cL_sound 428 = .ok (.aload_n 0, 1) := by decide +kernel
theorem dL_sound_429 : decode cL_sound 429 = .ok (.bipush 11, 2) := by decide +kernel
theorem dL_sound_431 : decode cL_sound 431 = .ok (.invokestatic 129, 3) := by decide +kernel
theorem dL_sound_434 : decode cL_sound 434 = .ok (.ifCond .le 7, 3) := by decide +kernel
theorem dL_sound_437 : decode cL_sound 437 = .ok (.iconst 1, 1) := by decide +kernel
theorem dL_sound_438 : decode cL_sound 438 = .ok (.goto 4, 3) := by decide +kernel
theorem dL_sound_441 : decode cL_sound 441 = .ok (.iconst 0, 1) := by decide +kernel
theorem dL_sound_442 : decode cL_sound 442 = .ok (.if_icmp .ne 69, 3) := by decide +kernel
theorem dL_sound_445 : decode cL_sound 445 = .ok (.aload_n 0, 1) := by decide +kernel
theorem dL_sound_446 : decode cL_sound 446 = .ok (.bipush 13, 2) := by decide +kernel
theorem dL_sound_448 : decode cL_sound 448 = .ok (.invokestatic 129, 3) := by decide +kernel
theorem dL_sound_451 : decode cL_sound 451 = .ok (.ifCond .lt 60, 3) := by decide +kernel
theorem dL_sound_454 : decode cL_sound 454 = .ok (.aload_n 0, 1) := by decide +kernel
theorem dL_sound_455 : decode cL_sound 455 = .ok (.bipush 13, 2) := by decide +kernel
theorem dL_sound_457 : decode cL_sound 457 = .ok (.invokestatic 129, 3) := by decide +kernel
theorem dL_sound_460 : decode cL_sound 460 = .ok (.aload_n 0, 1) := by decide +kernel
theorem dL_sound_461 : decode cL_sound 461 = .ok (.iconst 2, 1) := by decide +kernel
theorem dL_sound_462 : decode cL_sound 462 = .ok (.invokestatic 129, 3) := by decide +kernel
theorem dL_sound_465 : decode cL_sound 465 = .ok (.iload 7, 2) := by decide +kernel
theorem dL_sound_467 : decode cL_sound 467 = .ok (.iconst 2, 1) := by decide +kernel
theorem dL_sound_468 : decode cL_sound 468 = .ok (.if_icmp .ne 7, 3) := by decide +kernel
theorem dL_sound_471 : decode cL_sound 471 = .ok (.iconst 1, 1) := by decide +kernel
theorem dL_sound_472 : decode cL_sound 472 = .ok (.goto 4, 3) := by decide +kernel
theorem dL_sound_475 : decode cL_sound 475 = .ok (.iconst 0, 1) := by decide +kernel
theorem dL_sound_476 : decode cL_sound 476 = .ok (.isub, 1) := by decide +kernel
theorem dL_sound_477 : decode cL_sound 477 = .ok (.if_icmp .gt 34, 3) := by decide +kernel
theorem dL_sound_480 : decode cL_sound 480 = .ok (.aload_n 0, 1) := by decide +kernel
theorem dL_sound_481 : decode cL_sound 481 = .ok (.iconst 5, 1) := by decide +kernel
theorem dL_sound_482 : decode cL_sound 482 = .ok (.invokestatic 132, 3) := by decide +kernel
theorem dL_sound_485 : decode cL_sound 485 = .ok (.aload_n 0, 1) := by decide +kernel
theorem dL_sound_486 : decode cL_sound 486 = .ok (.iconst 4, 1) := by decide +kernel
theorem dL_sound_487 : decode cL_sound 487 = .ok (.invokestatic 132, 3) := by decide +kernel
theorem dL_sound_490 : decode cL_sound 490 = .ok (.if_icmp .gt 21, 3) := by decide +kernel
theorem dL_sound_493 : decode cL_sound 493 = .ok (.iload 5, 2) := by decide +kernel
theorem dL_sound_495 : decode cL_sound 495 = .ok (.aload_n 0, 1) := by decide +kernel
theorem dL_sound_496 : decode cL_sound 496 = .ok (.iconst 0, 1) := by decide +kernel
theorem dL_sound_497 : decode cL_sound 497 = .ok (.invokestatic 129, 3) := by decide +kernel
theorem dL_sound_500 : decode cL_sound 500 = .ok (.if_icmp .lt 7, 3) := by decide +kernel
theorem dL_sound_503 : decode cL_sound 503 = .ok (.iload_n 3, 1) := by decide +kernel
theorem dL_sound_504 : decode cL_sound 504 = .ok (.ifCond .ne 7, 3) := by decide +kernel
theorem dL_sound_507 : decode cL_sound 507 = .ok (.iconst 1, 1) := by decide +kernel
theorem dL_sound_508 : decode cL_sound 508 = .ok (.goto 4, 3) := by decide +kernel
theorem dL_sound_511 : decode cL_sound 511 = .ok (.iconst 0, 1) := by decide +kernel
theorem dL_sound_512 : decode cL_sound 512 = .ok (.ireturn, 1) := by decide +kernel
theorem dL_days_0 : decode cL_days 0 = .ok (.iconst 1, 1) := by decide +kernel
theorem dL_days_1 : decode cL_days 1 = .ok (.iload_n 1, 1) := by decide +kernel
theorem dL_days_2 : decode cL_days 2 = .ok (.bipush 25, 2) := by decide +kernel
theorem dL_days_4 : decode cL_days 4 = .ok (.irem, 1) := by decide +kernel
theorem dL_days_5 : decode cL_days 5 = .ok (.iadd, 1) := by decide +kernel
theorem dL_days_6 : decode cL_days 6 = .ok (.istore_n 2, 1) := by decide +kernel
theorem dL_days_7 : decode cL_days 7 = .ok (.aload_n 0, 1) := by decide +kernel
theorem dL_days_8 : decode cL_days 8 = .ok (.iload_n 2, 1) := by decide +kernel
theorem dL_days_9 : decode cL_days 9 = .ok (.iconst 0, 1) := by decide +kernel
theorem dL_days_10 : decode cL_days 10 = .ok (.invokestatic 181, 3) := by decide +kernel
theorem dL_days_13 : decode cL_days 13 = .ok (.istore_n 3, 1) := by decide +kernel
theorem dL_days_14 : decode cL_days 14 = .ok (.aload_n 0, 1) := by decide +kernel
theorem dL_days_15 : decode cL_days 15 = .ok (.iload_n 2, 1) := by decide +kernel
theorem dL_days_16 : decode cL_days 16 = .ok (.iconst 1, 1) := by decide +kernel
theorem dL_days_17 : decode cL_days 17 = .ok (.invokestatic 181, 3) := by decide +kernel
theorem dL_days_20 : decode cL_days 20 = .ok (.istore 4, 2) := by decide +kernel
theorem dL_days_22 : decode cL_days 22 = .ok (.aload_n 0, 1) := by decide +kernel
theorem dL_days_23 : decode cL_days 23 = .ok (.iload_n 2, 1) := by decide +kernel
theorem dL_days_24 : decode cL_days 24 = .ok (.iconst 2, 1) := by decide +kernel
theorem dL_days_25 : decode cL_days 25 = .ok (.invokestatic 181, 3) := by decide +kernel
theorem dL_days_28 : decode cL_days 28 = .ok (.aload_n 0, 1) := by decide +kernel
theorem dL_days_29 : decode cL_days 29 = .ok (.iconst 4, 1) := by decide +kernel
theorem dL_days_30 : decode cL_days 30 = .ok (.invokestatic 132, 3) := by decide +kernel
theorem dL_days_33 : decode cL_days 33 = .ok (.iadd, 1) := by decide +kernel
theorem dL_days_34 : decode cL_days 34 = .ok (.istore 5, 2) := by decide +kernel
theorem dL_days_36 : decode cL_days 36 = .ok (.aload_n 0, 1) := by decide +kernel
theorem dL_days_37 : decode cL_days 37 = .ok (.iload_n 2, 1) := by decide +kernel
theorem dL_days_38 : decode cL_days 38 = .ok (.iconst 3, 1) := by decide +kernel
theorem dL_days_39 : decode cL_days 39 = .ok (.invokestatic 181, 3) := by decide +kernel
theorem dL_days_42 : decode cL_days 42 = .ok (.aload_n 0, 1) := by decide +kernel
theorem dL_days_43 : decode cL_days 43 = .ok (.iconst 5, 1) := by decide +kernel
theorem dL_days_44 : decode cL_days 44 = .ok (.invokestatic 132, 3) := by decide +kernel
theorem dL_days_47 : decode cL_days 47 = .ok (.iadd, 1) := by decide +kernel
theorem dL_days_48 : decode cL_days 48 = .ok (.istore 6, 2) := by decide +kernel
theorem dL_days_50 : decode cL_days 50 = .ok (.aload_n 0, 1) := by decide +kernel
theorem dL_days_51 : decode cL_days 51 = .ok (.iload_n 2, 1) := by decide +kernel
theorem dL_days_52 : decode cL_days 52 = .ok (.iconst 4, 1) := by decide +kernel
theorem dL_days_53 : decode cL_days 53 = .ok (.invokestatic 181, 3) := by decide +kernel
theorem dL_days_56 : decode cL_days 56 = .ok (.istore 7, 2) := by decide +kernel
theorem dL_days_58 : decode cL_days 58 = .ok (.aload_n 0, 1) := by decide +kernel
theorem dL_days_59 : decode cL_days 59 = .ok (.iconst 0, 1) := by decide +kernel
theorem dL_days_60 : decode cL_days 60 = .ok (.iconst 0, 1) := by decide +kernel
theorem dL_days_61 : decode cL_days 61 = .ok (.invokestatic 181, 3) := by decide +kernel
theorem dL_days_64 : decode cL_days 64 = .ok (.ifCond .ne 22, 3) := by decide +kernel
theorem dL_days_67 : decode cL_days 67 = .ok (.aload_n 0, 1) := by decide +kernel
theorem dL_days_68 : decode cL_days 68 = .ok (.iconst 0, 1) := by decide +kernel
theorem dL_days_69 : decode cL_days 69 = .ok (.iconst 4, 1) := by decide +kernel
theorem dL_days_70 : decode cL_days 70 = .ok (.invokestatic 181, 3) := by decide +kernel
theorem dL_days_73 : decode cL_days 73 = .ok (.aload_n 0, 1) := by decide +kernel
theorem dL_days_74 : decode cL_days 74 = .ok (.bipush 9, 2) := by decide +kernel
theorem dL_days_76 : decode cL_days 76 = .ok (.invokestatic 129, 3) := by decide +kernel
theorem dL_days_79 : decode cL_days 79 = .ok (.if_icmp .ne 7, 3) := by decide +kernel
theorem dL_days_82 : decode cL_days 82 = .ok (.iconst 1, 1) := by decide +kernel
theorem dL_days_83 : decode cL_days 83 = .ok (.goto 4, 3) := by decide +kernel
theorem dL_days_86 : decode cL_days 86 = .ok (.iconst 0, 1) := by decide +kernel
theorem dL_days_87 : decode cL_days 87 = .ok (.istore 8, 2) := by decide +kernel
theorem dL_days_89 : decode cL_days 89 = .ok (.iconst 0, 1) := by decide +kernel
theorem dL_days_90 : decode cL_days 90 = .ok (.istore 9, 2) := by decide +kernel
theorem dL_days_92 : decode cL_days 92 = .ok (.iload 9, 2) := by decide +kernel
theorem dL_days_94 : decode cL_days 94 = .ok (.iload_n 2, 1) := by decide +kernel
theorem dL_days_95 : decode cL_days 95 = .ok (.if_icmp .ge 809, 3) := by decide +kernel
theorem dL_days_98 : decode cL_days 98 = .ok (.iload 8, 2) := by decide +kernel
theorem dL_days_100 : decode cL_days 100 = .ok (.ifCond .eq 804, 3) := by decide +kernel
theorem dL_days_103 : decode cL_days 103 = .ok (.aload_n 0, 1) := by decide +kernel
theorem dL_days_104 : decode cL_days 104 = .ok (.iconst 5, 1) := by decide +kernel
theorem dL_days_105 : decode cL_days 105 = .ok (.invokestatic 129, 3) := by decide +kernel
theorem dL_days_108 : decode cL_days 108 = .ok (.istore 10, 2) := by decide +kernel
theorem dL_days_110 : decode cL_days 110 = .ok (.aload_n 0, 1) := by decide +kernel
theorem dL_days_111 : decode cL_days 111 = .ok (.bipush 6, 2) := by decide +kernel
theorem dL_days_113 : decode cL_days 113 = .ok (.invokestatic 129, 3) := by decide +kernel
theorem dL_days_116 : decode cL_days 116 = .ok (.istore 11, 2) := by decide +kernel
theorem dL_days_118 : decode cL_days 118 = .ok (.iload 11, 2) := by decide +kernel
theorem dL_days_120 : decode cL_days 120 = .ok (.aload_n 0, 1) := by decide +kernel
theorem dL_days_121 : decode cL_days 121 = .ok (.iconst 0, 1) := by decide +kernel
theorem dL_days_122 : decode cL_days 122 = .ok (.invokestatic 129, 3) := by decide +kernel
theorem dL_days_125 : decode cL_days 125 = .ok (.if_icmp .ne 7, 3) := by decide +kernel
theorem dL_days_128 : decode cL_days 128 = .ok (.iconst 1, 1) := by decide +kernel
theorem dL_days_129 : decode cL_days 129 = .ok (.goto 4, 3) := by decide +kernel
theorem dL_days_132 : decode cL_days 132 = .ok (.iconst 0, 1) := by decide +kernel
theorem dL_days_133 : decode cL_days 133 = .ok (.istore 12, 2) := by decide +kernel
theorem dL_days_135 : decode cL_days 135 = .ok (.aload_n 0, 1) := by decide +kernel
theorem dL_days_136 : decode cL_days 136 = .ok (.bipush 7, 2) := by decide +kernel
theorem dL_days_138 : decode cL_days 138 = .ok (.invokestatic 129, 3) := by decide +kernel
theorem dL_days_141 : decode cL_days 141 = .ok (.istore 13, 2) := by decide +kernel
theorem dL_days_143 : decode cL_days 143 = .ok (.aload_n 0, 1) := by decide +kernel
theorem dL_days_144 : decode cL_days 144 = .ok (.bipush 8, 2) := by decide +kernel
theorem dL_days_146 : decode cL_days 146 = .ok (.invokestatic 129, 3) := by decide +kernel
theorem dL_days_149 : decode cL_days 149 = .ok (.istore 14, 2) := by decide +kernel
theorem dL_days_151 : decode cL_days 151 = .ok (.aload_n 0, 1) := by decide +kernel
theorem dL_days_152 : decode cL_days 152 = .ok (.bipush 10, 2) := by decide +kernel
theorem dL_days_154 : decode cL_days 154 = .ok (.invokestatic 129, 3) := by decide +kernel
theorem dL_days_157 : decode cL_days 157 = .ok (.istore 15, 2) := by decide +kernel
theorem dL_days_159 : decode cL_days 159 = .ok (.aload_n 0, 1) := by decide +kernel
theorem dL_days_160 : decode cL_days 160 = .ok (.bipush 11, 2) := by decide +kernel
theorem dL_days_162 : decode cL_days 162 = .ok (.invokestatic 129, 3) := by decide +kernel
theorem dL_days_165 : decode cL_days 165 = .ok (.istore 16, 2) := by decide +kernel
theorem dL_days_167 : decode cL_days 167 = .ok (.aload_n 0, 1) := by decide +kernel
theorem dL_days_168 : decode cL_days 168 = .ok (.bipush 12, 2) := by decide +kernel
theorem dL_days_170 : decode cL_days 170 = .ok (.invokestatic 129, 3) := by decide +kernel
theorem dL_days_173 : decode cL_days 173 = .ok (.istore 17, 2) := by decide +kernel
theorem dL_days_175 : decode cL_days 175 = .ok (.aload_n 0, 1) := by decide +kernel
theorem dL_days_176 : decode cL_days 176 = .ok (.iconst 4, 1) := by decide +kernel
theorem dL_days_177 : decode cL_days 177 = .ok (.invokestatic 132, 3) := by decide +kernel
theorem dL_days_180 : decode cL_days 180 = .ok (.istore 18, 2) := by decide +kernel
theorem dL_days_182 : decode cL_days 182 = .ok (.aload_n 0, 1) := by decide +kernel
theorem dL_days_183 : decode cL_days 183 = .ok (.iload 10, 2) := by decide +kernel
theorem dL_days_185 : decode cL_days 185 = .ok (.invokestatic 148, 3) := by decide +kernel
theorem dL_days_188 : decode cL_days 188 = .ok (.istore 19, 2) := by decide +kernel
theorem dL_days_190 : decode cL_days 190 = .ok (.aload_n 0, 1) := by decide +kernel
theorem dL_days_191 : decode cL_days 191 = .ok (.iconst 1, 1) := by decide +kernel
theorem dL_days_192 : decode cL_days 192 = .ok (.invokestatic 132, 3) := by decide +kernel
theorem dL_days_195 : decode cL_days 195 = .ok (.istore 20, 2) := by decide +kernel
theorem dL_days_197 : decode cL_days 197 = .ok (.iconst 0, 1) := by decide +kernel
theorem dL_days_198 : decode cL_days 198 = .ok (.istore 21, 2) := by decide +kernel
theorem dL_days_200 : decode cL_days 200 = .ok (.iconst 0, 1) := by decide +kernel
theorem dL_days_201 : decode cL_days 201 = .ok (.istore 22, 2) := by decide +kernel
theorem dL_days_203 : decode cL_days 203 = .ok (.iconst 0, 1) := by decide +kernel
theorem dL_days_204 : decode cL_days 204 = .ok (.istore 23, 2) := by decide +kernel
theorem dL_days_206 : decode cL_days 206 = .ok (.iload 23, 2) := by decide +kernel
theorem dL_days_208 : decode cL_days 208 = .ok (.aload_n 0, 1) := by decide +kernel
theorem dL_days_209 : decode cL_days 209 = .ok (.iconst 1, 1) := by decide +kernel
theorem dL_days_210 : decode cL_days 210 = .ok (.invokestatic 129, 3) := by decide +kernel
theorem dL_days_213 : decode cL_days 213 = .ok (.if_icmp .ge 96, 3) := by decide +kernel
theorem dL_days_216 : decode cL_days 216 = .ok (.aload_n 0, 1) := by decide +kernel
theorem dL_days_217 : decode cL_days 217 = .ok (.iload 23, 2) := by decide +kernel
theorem dL_days_219 : decode cL_days 219 = .ok (.iconst 5, 1) := by decide +kernel
theorem dL_days_220 : decode cL_days 220 = .ok (.invokestatic 135, 3) := by decide +kernel
theorem dL_days_223 : decode cL_days 223 = .ok (.istore 24, 2) := by decide +kernel
theorem dL_days_225 : decode cL_days 225 = .ok (.aload_n 0, 1) := by decide +kernel
theorem dL_days_226 : decode cL_days 226 = .ok (.iload 23, 2) := by decide +kernel
theorem dL_days_228 : decode cL_days 228 = .ok (.bipush 6, 2) := by decide +kernel
theorem dL_days_230 : decode cL_days 230 = .ok (.invokestatic 135, 3) := by decide +kernel
theorem dL_days_233 : decode cL_days 233 = .ok (.iconst 1, 1) := by decide +kernel
theorem dL_days_234 : decode cL_days 234 = .ok (.if_icmp .ne 7, 3) := by decide +kernel
theorem dL_days_237 : decode cL_days 237 = .ok (.iconst 1, 1) := by decide +kernel
theorem dL_days_238 : decode cL_days 238 = .ok (.goto 4, 3) := by decide +kernel
theorem dL_days_241 : decode cL_days 241 = .ok (.iconst 0, 1) := by decide +kernel
theorem dL_days_242 : decode cL_days 242 = .ok (.istore 25, 2) := by decide +kernel
theorem dL_days_244 : decode cL_days 244 = .ok (.iload 21, 2) := by decide +kernel
theorem dL_days_246 : decode cL_days 246 = .ok (.iload 24, 2) := by decide +kernel
theorem dL_days_248 : decode cL_days 248 = .ok (.ifCond .le 24, 3) := by decide +kernel
theorem dL_days_251 : decode cL_days 251 = .ok (.iload 24, 2) := by decide +kernel
theorem dL_days_253 : decode cL_days 253 = .ok (.iconst 4, 1) := by decide +kernel
theorem dL_days_254 : decode cL_days 254 = .ok (.if_icmp .ne 8, 3) := by decide +kernel
theorem dL_days_257 : decode cL_days 257 = .ok (.iload 25, 2) := by decide +kernel
theorem dL_days_259 : decode cL_days 259 = .ok (.ifCond .ne 13, 3) := by decide +kernel
theorem dL_days_262 : decode cL_days 262 = .ok (.aload_n 0, 1) := by decide +kernel
theorem dL_days_263 : decode cL_days 263 = .ok (.iload 23, 2) := by decide +kernel
theorem dL_days_265 : decode cL_days 265 = .ok (.iconst 3, 1) := by decide +kernel
theorem dL_days_266 : decode cL_days 266 = .ok (.invokestatic 135, 3) := by decide +kernel
theorem dL_days_269 : decode cL_days 269 = .ok (.goto 4, 3) := by decide +kernel
theorem dL_days_272 : decode cL_days 272 = .ok (.iconst 0, 1) := by decide +kernel
theorem dL_days_273 : decode cL_days 273 = .ok (.iadd, 1) := by decide +kernel
theorem dL_days_274 : decode cL_days 274 = .ok (.istore 21, 2) := by decide +kernel
theorem dL_days_276 : decode cL_days 276 = .ok (.iload 22, 2) := by decide +kernel
theorem dL_days_278 : decode cL_days 278 = .ok (.iload 24, 2) := by decide +kernel
theorem dL_days_280 : decode cL_days 280 = .ok (.iconst 2, 1) := by decide +kernel
theorem dL_days_281 : decode cL_days 281 = .ok (.if_icmp .eq 14, 3) := by decide +kernel
theorem dL_days_284 : decode cL_days 284 = .ok (.iload 24, 2) := by decide +kernel
theorem dL_days_286 : decode cL_days 286 = .ok (.iconst 1, 1) := by decide +kernel
theorem dL_days_287 : decode cL_days 287 = .ok (.if_icmp .ne 12, 3) := by decide +kernel
theorem dL_days_290 : decode cL_days 290 = .ok (.iload 25, 2) := by decide +kernel
theorem dL_days_292 : decode cL_days 292 = .ok (.ifCond .eq 7, 3) := by decide +kernel
theorem dL_days_295 : decode cL_days 295 = .ok (.iconst 1, 1) := by decide +kernel
theorem dL_days_296 : decode cL_days 296 = .ok (.goto 4, 3) := by decide +kernel
theorem dL_days_299 : decode cL_days 299 = .ok (.iconst 0, 1) := by decide +kernel
theorem dL_days_300 : decode cL_days 300 = .ok (.ior, 1) := by decide +kernel
theorem dL_days_301 : decode cL_days 301 = .ok (.istore 22, 2) := by decide +kernel
theorem dL_days_303 : decode cL_days 303 = .ok (.iinc 23 1, 3) := by decide +kernel
theorem dL_days_306 : decode cL_days 306 = .ok (.goto (-100), 3) := by decide +kernel
theorem dL_days_309 : decode cL_days 309 = .ok (.aload_n 0, 1) := by decide +kernel
theorem dL_days_310 : decode cL_days 310 = .ok (.iconst 1, 1) := by decide +kernel
theorem dL_days_311 : decode cL_days 311 = .ok (.invokestatic 169, 3) := by decide +kernel
theorem dL_days_314 : decode cL_days 314 = .ok (.istore 23, 2) := by decide +kernel
theorem dL_days_316 : decode cL_days 316 = .ok (.aload_n 0, 1) := by decide +kernel
theorem dL_days_317 : decode cL_days 317 = .ok (.bipush 9, 2) := by decide +kernel
theorem dL_days_319 : decode cL_days 319 = .ok (.invokestatic 129, 3) := by decide +kernel
theorem dL_days_322 : decode cL_days 322 = .ok (.istore 24, 2) := by decide +kernel
theorem dL_days_324 : decode cL_days 324 = .ok (.aload_n 0, 1) := by decide +kernel
theorem dL_days_325 : decode cL_days 325 = .ok (.iconst 5, 1) := by decide +kernel
theorem dL_days_326 : decode cL_days 326 = .ok (.invokestatic 129, 3) := by decide +kernel
theorem dL_days_329 : decode cL_days 329 = .ok (.iload 10, 2) := by decide +kernel
theorem dL_days_331 : decode cL_days 331 = .ok (.iconst 1, 1) := by decide +kernel
theorem dL_days_332 : decode cL_days 332 = .ok (.iadd, 1) := by decide +kernel
theorem dL_days_333 : decode cL_days 333 = .ok (.if_icmp .ne 40, 3) := by decide +kernel
theorem dL_days_336 : decode cL_days 336 = .ok (.aload_n 0, 1) := by decide +kernel
theorem dL_days_337 : decode cL_days 337 = .ok (.iconst 4, 1) := by decide +kernel
theorem dL_days_338 : decode cL_days 338 = .ok (.invokestatic 132, 3) := by decide +kernel
theorem dL_days_341 : decode cL_days 341 = .ok (.iload 18, 2) := by decide +kernel
theorem dL_days_343 : decode cL_days 343 = .ok (.iload 21, 2) := by decide +kernel
theorem dL_days_345 : decode cL_days 345 = .ok (.iadd, 1) := by decide +kernel
theorem dL_days_346 : decode cL_days 346 = .ok (.if_icmp .ne 27, 3) := by decide +kernel
theorem dL_days_349 : decode cL_days 349 = .ok (.iload 23, 2) := by decide +kernel
theorem dL_days_351 : decode cL_days 351 = .ok (.aload_n 0, 1) := by decide +kernel
theorem dL_days_352 : decode cL_days 352 = .ok (.iconst 1, 1) := by decide +kernel
theorem dL_days_353 : decode cL_days 353 = .ok (.invokestatic 132, 3) := by decide +kernel
theorem dL_days_356 : decode cL_days 356 = .ok (.iload 20, 2) := by decide +kernel
theorem dL_days_358 : decode cL_days 358 = .ok (.isub, 1) := by decide +kernel
theorem dL_days_359 : decode cL_days 359 = .ok (.if_icmp .ne 14, 3) := by decide +kernel
theorem dL_days_362 : decode cL_days 362 = .ok (.aload_n 0, 1) := by decide +kernel
theorem dL_days_363 : decode cL_days 363 = .ok (.invokestatic 203, 3) := by decide +kernel
theorem dL_days_366 : decode cL_days 366 = .ok (.ifCond .eq 7, 3) := by decide +kernel
theorem dL_days_369 : decode cL_days 369 = .ok (.iconst 1, 1) := by decide +kernel
theorem dL_days_370 : decode cL_days 370 = .ok (.goto 4, 3) := by decide +kernel
theorem dL_days_373 : decode cL_days 373 = .ok (.iconst 0, 1) := by decide +kernel
theorem dL_days_374 : decode cL_days 374 = .ok (.istore 8, 2) := by decide +kernel
theorem dL_days_376 : decode cL_days 376 = .ok (.iload 12, 2) := by decide +kernel
theorem dL_days_378 : decode cL_days 378 = .ok (.ifCond .eq 28, 3) := by decide +kernel
theorem dL_days_381 : decode cL_days 381 = .ok (.iload 8, 2) := by decide +kernel
theorem dL_days_383 : decode cL_days 383 = .ok (.ifCond .eq 17, 3) := by decide +kernel
theorem dL_days_386 : decode cL_days 386 = .ok (.iload 24, 2) := by decide +kernel
theorem dL_days_388 : decode cL_days 388 = .ok (.ifCond .ne 12, 3) := by decide +kernel
theorem dL_days_391 : decode cL_days 391 = .ok (.iload 23, 2) := by decide +kernel
theorem dL_days_393 : decode cL_days 393 = .ok (.ifCond .ne 7, 3) := by decide +kernel
theorem dL_days_396 : decode cL_days 396 = .ok (.iconst 1, 1) := by decide +kernel
theorem dL_days_397 : decode cL_days 397 = .ok (.goto 4, 3) := by decide +kernel
theorem dL_days_400 : decode cL_days 400 = .ok (.iconst 0, 1) := by decide +kernel
theorem dL_days_401 : decode cL_days 401 = .ok (.istore 8, 2) := by decide +kernel
theorem dL_days_403 : decode cL_days 403 = .ok (.goto 495, 3) := by decide +kernel
theorem dL_days_406 : decode cL_days 406 = .ok (.iload 14, 2) := by decide +kernel
theorem dL_days_408 : decode cL_days 408 = .ok (.bipush (-9), 2) := by decide +kernel
theorem dL_days_410 : decode cL_days 410 = .ok (.if_icmp .ne 66, 3) := by decide +kernel
theorem dL_days_413 : decode cL_days 413 = .ok (.iload 8, 2) := by decide +kernel
theorem dL_days_415 : decode cL_days 415 = .ok (.ifCond .eq 55, 3) := by decide +kernel
theorem dL_days_418 : decode cL_days 418 = .ok (.iload 24, 2) := by decide +kernel
theorem dL_days_420 : decode cL_days 420 = .ok (.bipush 6, 2) := by decide +kernel
theorem dL_days_422 : decode cL_days 422 = .ok (.if_icmp .ne 7, 3) := by decide +kernel
theorem dL_days_425 : decode cL_days 425 = .ok (.iconst 1, 1) := by decide +kernel
theorem dL_days_426 : decode cL_days 426 = .ok (.goto 4, 3) := by decide +kernel
theorem dL_days_429 : decode cL_days 429 = .ok (.iconst 0, 1) := by decide +kernel
theorem dL_days_430 : decode cL_days 430 = .ok (.iload 22, 2) := by decide +kernel
theorem dL_days_432 : decode cL_days 432 = .ok (.ifCond .ne 7, 3) := by decide +kernel
theorem dL_days_435 : decode cL_days 435 = .ok (.iconst 1, 1) := by decide +kernel
theorem dL_days_436 : decode cL_days 436 = .ok (.goto 4, 3) := by decide +kernel
theorem dL_days_439 : decode cL_days 439 = .ok (.iconst 0, 1) := by decide +kernel
theorem dL_days_440 : decode cL_days 440 = .ok (.if_icmp .ne 30, 3) := by decide +kernel
theorem dL_days_443 : decode cL_days 443 = .ok (.iload 24, 2) := by decide +kernel
theorem dL_days_445 : decode cL_days 445 = .ok (.bipush 6, 2) := by decide +kernel
theorem dL_days_447 : decode cL_days 447 = .ok (.if_icmp .ne 19, 3) := by decide +kernel
theorem dL_days_450 : decode cL_days 450 = .ok (.iload 23, 2) := by decide +kernel
theorem dL_days_452 : decode cL_days 452 = .ok (.ifCond .ne 18, 3) := by decide +kernel
theorem dL_days_455 : decode cL_days 455 = .ok (.aload_n 0, 1) := by decide +kernel
theorem dL_days_456 : decode cL_days 456 = .ok (.bipush 8, 2) := by decide +kernel
theorem dL_days_458 : decode cL_days 458 = .ok (.invokestatic 129, 3) := by decide +kernel
theorem dL_days_461 : decode cL_days 461 = .ok (.bipush (-9), 2) := by decide +kernel
theorem dL_days_463 : decode cL_days 463 = .ok (.if_icmp .ne 7, 3) := by decide +kernel
theorem dL_days_466 : decode cL_days 466 = .ok (.iconst 1, 1) := by decide +kernel
theorem dL_days_467 : decode cL_days 467 = .ok (.goto 4, 3) := by decide +kernel
theorem dL_days_470 : decode cL_days 470 = .ok (.iconst 0, 1) := by decide +kernel
theorem dL_days_471 : decode cL_days 471 = .ok (.istore 8, 2) := by decide +kernel
theorem dL_days_473 : decode cL_days 473 = .ok (.goto 425, 3) := by decide +kernel
theorem dL_days_476 : decode cL_days 476 = .ok (.iload 15, 2) := by decide +kernel
theorem dL_days_478 : decode cL_days 478 = .ok (.iconst 2, 1) := by decide +kernel
theorem dL_days_479 : decode cL_days 479 = .ok (.if_icmp .ne 64, 3) := by decide +kernel
theorem dL_days_482 : decode cL_days 482 = .ok (.iload 8, 2) := by decide +kernel
theorem dL_days_484 : decode cL_days 484 = .ok (.ifCond .eq 53, 3) := by decide +kernel
theorem dL_days_487 : decode cL_days 487 = .ok (.iload 24, 2) := by decide +kernel
theorem dL_days_489 : decode cL_days 489 = .ok (.ifCond .ne 48, 3) := by decide +kernel
theorem dL_days_492 : decode cL_days 492 = .ok (.iload 23, 2) := by decide +kernel
theorem dL_days_494 : decode cL_days 494 = .ok (.ifCond .ne 43, 3) := by decide +kernel
theorem dL_days_497 : decode cL_days 497 = .ok (.aload_n 0, 1) := by decide +kernel
theorem dL_days_498 : decode cL_days 498 = .ok (.bipush 11, 2) := by decide +kernel
theorem dL_days_500 : decode cL_days 500 = .ok (.invokestatic 129, 3) := by decide +kernel
theorem dL_days_503 : decode cL_days 503 = .ok (.iload 16, 2) := by decide +kernel
theorem dL_days_505 : decode cL_days 505 = .ok (.iconst 1, 1) := by decide +kernel
theorem dL_days_506 : decode cL_days 506 = .ok (.isub, 1) := by decide +kernel
theorem dL_days_507 : decode cL_days 507 = .ok (.if_icmp .ne 30, 3) := by decide +kernel
theorem dL_days_510 : decode cL_days 510 = .ok (.aload_n 0, 1) := by decide +kernel
theorem dL_days_511 : decode cL_days 511 = .ok (.bipush 12, 2) := by decide +kernel
theorem dL_days_513 : decode cL_days 513 = .ok (.invokestatic 129, 3) := by decide +kernel
theorem dL_days_516 : decode cL_days 516 = .ok (.iload 17, 2) := by decide +kernel
theorem dL_days_518 : decode cL_days 518 = .ok (.iload 16, 2) := by decide +kernel
theorem dL_days_520 : decode cL_days 520 = .ok (.iconst 1, 1) := by decide +kernel
theorem dL_days_521 : decode cL_days 521 = .ok (.if_icmp .ne 7, 3) := by decide +kernel
theorem dL_days_524 : decode cL_days 524 = .ok (.iconst 1, 1) := by decide +kernel
theorem dL_days_525 : decode cL_days 525 = .ok (.goto 4, 3) := by decide +kernel
theorem dL_days_528 : decode cL_days 528 = .ok (.iconst 0, 1) := by decide +kernel
theorem dL_days_529 : decode cL_days 529 = .ok (.iadd, 1) := by decide +kernel
theorem dL_days_530 : decode cL_days 530 = .ok (.if_icmp .ne 7, 3) := by decide +kernel
theorem dL_days_533 : decode cL_days 533 = .ok (.iconst 1, 1) := by decide +kernel
theorem dL_days_534 : decode cL_days 534 = .ok (.goto 4, 3) := by decide +kernel
theorem dL_days_537 : decode cL_days 537 = .ok (.iconst 0, 1) := by decide +kernel
theorem dL_days_538 : decode cL_days 538 = .ok (.istore 8, 2) := by decide +kernel
theorem dL_days_540 : decode cL_days 540 = .ok (.goto 358, 3) := by decide +kernel
theorem dL_days_543 : decode cL_days 543 = .ok (.iload 15, 2) := by decide +kernel
theorem dL_days_545 : decode cL_days 545 = .ok (.iconst 1, 1) := by decide +kernel
theorem dL_days_546 : decode cL_days 546 = .ok (.if_icmp .ne 111, 3) := by decide +kernel
theorem dL_days_549 : decode cL_days 549 = .ok (.iload 8, 2) := by decide +kernel
theorem dL_days_551 : decode cL_days 551 = .ok (.ifCond .eq 100, 3) := by decide +kernel
theorem dL_days_554 : decode cL_days 554 = .ok (.iload 23, 2) := by decide +kernel
theorem dL_days_556 : decode cL_days 556 = .ok (.ifCond .ne 95, 3) := by decide +kernel
theorem dL_days_559 : decode cL_days 559 = .ok (.iload 24, 2) := by decide +kernel
theorem dL_days_561 : decode cL_days 561 = .ok (.iconst 5, 1) := by decide +kernel
theorem dL_days_562 : decode cL_days 562 = .ok (.if_icmp .eq 14, 3) := by decide +kernel
theorem dL_days_565 : decode cL_days 565 = .ok (.iload 24, 2) := by decide +kernel
theorem dL_days_567 : decode cL_days 567 = .ok (.ifCond .ne 84, 3) := by decide +kernel
theorem dL_days_570 : decode cL_days 570 = .ok (.iload 19, 2) := by decide +kernel
theorem dL_days_572 : decode cL_days 572 = .ok (.iconst 3, 1) := by decide +kernel
theorem dL_days_573 : decode cL_days 573 = .ok (.if_icmp .gt 78, 3) := by decide +kernel
theorem dL_days_576 : decode cL_days 576 = .ok (.iload 24, 2) := by decide +kernel
theorem dL_days_578 : decode cL_days 578 = .ok (.iconst 5, 1) := by decide +kernel
theorem dL_days_579 : decode cL_days 579 = .ok (.if_icmp .ne 13, 3) := by decide +kernel
theorem dL_days_582 : decode cL_days 582 = .ok (.aload_n 0, 1) := by decide +kernel
theorem dL_days_583 : decode cL_days 583 = .ok (.bipush 10, 2) := by decide +kernel
theorem dL_days_585 : decode cL_days 585 = .ok (.invokestatic 129, 3) := by decide +kernel
theorem dL_days_588 : decode cL_days 588 = .ok (.iconst 1, 1) := by decide +kernel
theorem dL_days_589 : decode cL_days 589 = .ok (.if_icmp .ne 62, 3) := by decide +kernel
theorem dL_days_592 : decode cL_days 592 = .ok (.iload 24, 2) := by decide +kernel
theorem dL_days_594 : decode cL_days 594 = .ok (.ifCond .ne 53, 3) := by decide +kernel
theorem dL_days_597 : decode cL_days 597 = .ok (.aload_n 0, 1) := by decide +kernel
theorem dL_days_598 : decode cL_days 598 = .ok (.iconst 3, 1) := by decide +kernel
theorem dL_days_599 : decode cL_days 599 = .ok (.invokestatic 129, 3) := by decide +kernel
theorem dL_days_602 : decode cL_days 602 = .ok (.iconst 1, 1) := by decide +kernel
theorem dL_days_603 : decode cL_days 603 = .ok (.if_icmp .ne 28, 3) := by decide +kernel
theorem dL_days_606 : decode cL_days 606 = .ok (.aload_n 0, 1) := by decide +kernel
theorem dL_days_607 : decode cL_days 607 = .ok (.bipush 12, 2) := by decide +kernel
theorem dL_days_609 : decode cL_days 609 = .ok (.invokestatic 129, 3) := by decide +kernel
theorem dL_days_612 : decode cL_days 612 = .ok (.iload 17, 2) := by decide +kernel
theorem dL_days_614 : decode cL_days 614 = .ok (.iconst 1, 1) := by decide +kernel
theorem dL_days_615 : decode cL_days 615 = .ok (.iadd, 1) := by decide +kernel
theorem dL_days_616 : decode cL_days 616 = .ok (.if_icmp .ne 35, 3) := by decide +kernel
theorem dL_days_619 : decode cL_days 619 = .ok (.aload_n 0, 1) := by decide +kernel
theorem dL_days_620 : decode cL_days 620 = .ok (.bipush 10, 2) := by decide +kernel
theorem dL_days_622 : decode cL_days 622 = .ok (.invokestatic 129, 3) := by decide +kernel
theorem dL_days_625 : decode cL_days 625 = .ok (.ifCond .ne 26, 3) := by decide +kernel
theorem dL_days_628 : decode cL_days 628 = .ok (.goto 19, 3) := by decide +kernel
theorem dL_days_631 : decode cL_days 631 = .ok (.aload_n 0, 1) := by decide +kernel
theorem dL_days_632 : decode cL_days 632 = .ok (.bipush 11, 2) := by decide +kernel
theorem dL_days_634 : decode cL_days 634 = .ok (.invokestatic 129, 3) := by decide +kernel
theorem dL_days_637 : decode cL_days 637 = .ok (.aload_n 0, 1) := by decide +kernel
theorem dL_days_638 : decode cL_days 638 = .ok (.iconst 3, 1) := by decide +kernel
theorem dL_days_639 : decode cL_days 639 = .ok (.invokestatic 129, 3) := by decide +kernel
theorem dL_days_642 : decode cL_days 642 = .ok (.iconst 1, 1) := by decide +kernel
theorem dL_days_643 : decode cL_days 643 = .ok (.isub, 1) := by decide +kernel
theorem dL_days_644 : decode cL_days 644 = .ok (.if_icmp .ne 7, 3) := by decide +kernel
theorem dL_days_647 : decode cL_days 647 = .ok (.iconst 1, 1) := by decide +kernel
theorem dL_days_648 : decode cL_days 648 = .ok (.goto 4, 3) := by decide +kernel
theorem dL_days_651 : decode cL_days 651 = .ok (.iconst 0, 1) := by decide +kernel
theorem dL_days_652 : decode cL_days 652 = .ok (.istore 8, 2) := by decide +kernel
theorem dL_days_654 : decode cL_days 654 = .ok (.goto 244, 3) := by decide +kernel
theorem dL_days_657 : decode cL_days 657 = .ok (.aload_n 0, 1) := by decide +kernel
theorem dL_days_658 : decode cL_days 658 = .ok (.iload 11, 2) := by decide +kernel
theorem dL_days_660 : decode cL_days 660 = .ok (.iconst 1, 1) := by decide +kernel
theorem dL_days_661 : decode cL_days 661 = .ok (.invokestatic 145, 3) := by decide +kernel
theorem dL_days_664 : decode cL_days 664 = .ok (.istore 25, 2) := by decide +kernel
theorem dL_days_666 : decode cL_days 666 = .ok (.aload_n 0, 1) := by decide +kernel
theorem dL_days_667 : decode cL_days 667 = .ok (.iload 11, 2) := by decide +kernel
theorem dL_days_669 : decode cL_days 669 = .ok (.iconst 2, 1) := by decide +kernel
theorem dL_days_670 : decode cL_days 670 = .ok (.invokestatic 145, 3) := by decide +kernel
theorem dL_days_673 : decode cL_days 673 = .ok (.istore 26, 2) := by decide +kernel
theorem dL_days_675 : decode cL_days 675 = .ok (.iload 10, 2) := by decide +kernel
theorem dL_days_677 : decode cL_days 677 = .ok (.iload 25, 2) := by decide +kernel
theorem dL_days_679 : decode cL_days 679 = .ok (.if_icmp .lt 26, 3) := by decide +kernel
theorem dL_days_682 : decode cL_days 682 = .ok (.iload 10, 2) := by decide +kernel
theorem dL_days_684 : decode cL_days 684 = .ok (.iload 26, 2) := by decide +kernel
theorem dL_days_686 : decode cL_days 686 = .ok (.if_icmp .gt 19, 3) := by decide +kernel
theorem dL_days_689 : decode cL_days 689 = .ok (.iload 19, 2) := by decide +kernel
theorem dL_days_691 : decode cL_days 691 = .ok (.aload_n 0, 1) := by decide +kernel
theorem dL_days_692 : decode cL_days 692 = .ok (.iload 14, 2) := by decide +kernel
theorem dL_days_694 : decode cL_days 694 = .ok (.iconst 2, 1) := by decide +kernel
theorem dL_days_695 : decode cL_days 695 = .ok (.invokestatic 135, 3) := by decide +kernel
theorem dL_days_698 : decode cL_days 698 = .ok (.if_icmp .gt 7, 3) := by decide +kernel
theorem dL_days_701 : decode cL_days 701 = .ok (.iconst 1, 1) := by decide +kernel
theorem dL_days_702 : decode cL_days 702 = .ok (.goto 4, 3) := by decide +kernel
theorem dL_days_705 : decode cL_days 705 = .ok (.iconst 0, 1) := by decide +kernel
theorem dL_days_706 : decode cL_days 706 = .ok (.istore 27, 2) := by decide +kernel
theorem dL_days_708 : decode cL_days 708 = .ok (.iload 8, 2) := by decide +kernel
theorem dL_days_710 : decode cL_days 710 = .ok (.ifCond .eq 185, 3) := by decide +kernel
theorem dL_days_713 : decode cL_days 713 = .ok (.iload 24, 2) := by decide +kernel
theorem dL_days_715 : decode cL_days 715 = .ok (.iconst 1, 1) := by decide +kernel
theorem dL_days_716 : decode cL_days 716 = .ok (.if_icmp .ne 7, 3) := by decide +kernel
theorem dL_days_719 : decode cL_days 719 = .ok (.iconst 1, 1) := by decide +kernel
theorem dL_days_720 : decode cL_days 720 = .ok (.goto 4, 3) := by decide +kernel
theorem dL_days_723 : decode cL_days 723 = .ok (.iconst 0, 1) := by decide +kernel
theorem dL_days_724 : decode cL_days 724 = .ok (.iload 10, 2) := by decide +kernel
theorem dL_days_726 : decode cL_days 726 = .ok (.iload 25, 2) := by decide +kernel
theorem dL_days_728 : decode cL_days 728 = .ok (.if_icmp .ge 7, 3) := by decide +kernel
theorem dL_days_731 : decode cL_days 731 = .ok (.iconst 1, 1) := by decide +kernel
theorem dL_days_732 : decode cL_days 732 = .ok (.goto 4, 3) := by decide +kernel
theorem dL_days_735 : decode cL_days 735 = .ok (.iconst 0, 1) := by decide +kernel
theorem dL_days_736 : decode cL_days 736 = .ok (.if_icmp .ne 159, 3) := by decide +kernel
theorem dL_days_739 : decode cL_days 739 = .ok (.iload 24, 2) := by decide +kernel
theorem dL_days_741 : decode cL_days 741 = .ok (.iconst 2, 1) := by decide +kernel
theorem dL_days_742 : decode cL_days 742 = .ok (.if_icmp .ne 7, 3) := by decide +kernel
theorem dL_days_745 : decode cL_days 745 = .ok (.iconst 1, 1) := by decide +kernel
theorem dL_days_746 : decode cL_days 746 = .ok (.goto 4, 3) := by decide +kernel
theorem dL_days_749 : decode cL_days 749 = .ok (.iconst 0, 1) := by decide +kernel
theorem dL_days_750 : decode cL_days 750 = .ok (.iload 10, 2) := by decide +kernel
theorem dL_days_752 : decode cL_days 752 = .ok (.iload 26, 2) := by decide +kernel
theorem dL_days_754 : decode cL_days 754 = .ok (.if_icmp .le 7, 3) := by decide +kernel
theorem dL_days_757 : decode cL_days 757 = .ok (.iconst 1, 1) := by decide +kernel
theorem dL_days_758 : decode cL_days 758 = .ok (.goto 4, 3) := by decide +kernel
theorem dL_days_761 : decode cL_days 761 = .ok (.iconst 0, 1) := by decide +kernel
theorem dL_days_762 : decode cL_days 762 = .ok (.if_icmp .ne 133, 3) := by decide +kernel
theorem dL_days_765 : decode cL_days 765 = .ok (.iload 24, 2) := by decide +kernel
theorem dL_days_767 : decode cL_days 767 = .ok (.iconst 3, 1) := by decide +kernel
theorem dL_days_768 : decode cL_days 768 = .ok (.if_icmp .ne 7, 3) := by decide +kernel
theorem dL_days_771 : decode cL_days 771 = .ok (.iconst 1, 1) := by decide +kernel
theorem dL_days_772 : decode cL_days 772 = .ok (.goto 4, 3) := by decide +kernel
theorem dL_days_775 : decode cL_days 775 = .ok (.iconst 0, 1) := by decide +kernel
theorem dL_days_776 : decode cL_days 776 = .ok (.iload 10, 2) := by decide +kernel
theorem dL_days_778 : decode cL_days 778 = .ok (.iload 25, 2) := by decide +kernel
theorem dL_days_780 : decode cL_days 780 = .ok (.if_icmp .lt 19, 3) := by decide +kernel
theorem dL_days_783 : decode cL_days 783 = .ok (.iload 10, 2) := by decide +kernel
theorem dL_days_785 : decode cL_days 785 = .ok (.iload 26, 2) := by decide +kernel
theorem dL_days_787 : decode cL_days 787 = .ok (.if_icmp .gt 12, 3) := by decide +kernel
theorem dL_days_790 : decode cL_days 790 = .ok (.iload 27, 2) := by decide +kernel
theorem dL_days_792 : decode cL_days 792 = .ok (.ifCond .ne 7, 3) := by decide +kernel
theorem dL_days_795 : decode cL_days 795 = .ok (.iconst 1, 1) := by decide +kernel
theorem dL_days_796 : decode cL_days 796 = .ok (.goto 4, 3) := by decide +kernel
theorem dL_days_799 : decode cL_days 799 = .ok (.iconst 0, 1) := by decide +kernel
theorem dL_days_800 : decode cL_days 800 = .ok (.if_icmp .ne 95, 3) := by decide +kernel
theorem dL_days_803 : decode cL_days 803 = .ok (.iload 23, 2) := by decide +kernel
theorem dL_days_805 : decode cL_days 805 = .ok (.ifCond .le 7, 3) := by decide +kernel
theorem dL_days_808 : decode cL_days 808 = .ok (.iconst 1, 1) := by decide +kernel
theorem dL_days_809 : decode cL_days 809 = .ok (.goto 4, 3) := by decide +kernel
theorem dL_days_812 : decode cL_days 812 = .ok (.iconst 0, 1) := by decide +kernel
theorem dL_days_813 : decode cL_days 813 = .ok (.iload 27, 2) := by decide +kernel
theorem dL_days_815 : decode cL_days 815 = .ok (.ifCond .eq 12, 3) := by decide +kernel
theorem dL_days_818 : decode cL_days 818 = .ok (.iload 24, 2) := by decide +kernel
theorem dL_days_820 : decode cL_days 820 = .ok (.ifCond .ne 7, 3) := by decide +kernel
theorem dL_days_823 : decode cL_days 823 = .ok (.iconst 1, 1) := by decide +kernel
theorem dL_days_824 : decode cL_days 824 = .ok (.goto 4, 3) := by decide +kernel
theorem dL_days_827 : decode cL_days 827 = .ok (.iconst 0, 1) := by decide +kernel
theorem dL_days_828 : decode cL_days 828 = .ok (.if_icmp .ne 67, 3) := by decide +kernel
theorem dL_days_831 : decode cL_days 831 = .ok (.iload 23, 2) := by decide +kernel
theorem dL_days_833 : decode cL_days 833 = .ok (.aload_n 0, 1) := by decide +kernel
theorem dL_days_834 : decode cL_days 834 = .ok (.iload 14, 2) := by decide +kernel
theorem dL_days_836 : decode cL_days 836 = .ok (.iconst 1, 1) := by decide +kernel
theorem dL_days_837 : decode cL_days 837 = .ok (.invokestatic 135, 3) := by decide +kernel
theorem dL_days_840 : decode cL_days 840 = .ok (.if_icmp .gt 55, 3) := by decide +kernel
theorem dL_days_843 : decode cL_days 843 = .ok (.iload 23, 2) := by decide +kernel
theorem dL_days_845 : decode cL_days 845 = .ok (.aload_n 0, 1) := by decide +kernel
theorem dL_days_846 : decode cL_days 846 = .ok (.iload 11, 2) := by decide +kernel
theorem dL_days_848 : decode cL_days 848 = .ok (.iconst 0, 1) := by decide +kernel
theorem dL_days_849 : decode cL_days 849 = .ok (.invokestatic 145, 3) := by decide +kernel
theorem dL_days_852 : decode cL_days 852 = .ok (.iload 13, 2) := by decide +kernel
theorem dL_days_854 : decode cL_days 854 = .ok (.isub, 1) := by decide +kernel
theorem dL_days_855 : decode cL_days 855 = .ok (.if_icmp .gt 40, 3) := by decide +kernel
theorem dL_days_858 : decode cL_days 858 = .ok (.iload 24, 2) := by decide +kernel
theorem dL_days_860 : decode cL_days 860 = .ok (.iconst 4, 1) := by decide +kernel
theorem dL_days_861 : decode cL_days 861 = .ok (.if_icmp .ne 30, 3) := by decide +kernel
theorem dL_days_864 : decode cL_days 864 = .ok (.iload 27, 2) := by decide +kernel
theorem dL_days_866 : decode cL_days 866 = .ok (.ifCond .eq 29, 3) := by decide +kernel
theorem dL_days_869 : decode cL_days 869 = .ok (.aload_n 0, 1) := by decide +kernel
theorem dL_days_870 : decode cL_days 870 = .ok (.iload 14, 2) := by decide +kernel
theorem dL_days_872 : decode cL_days 872 = .ok (.iconst 5, 1) := by decide +kernel
theorem dL_days_873 : decode cL_days 873 = .ok (.invokestatic 135, 3) := by decide +kernel
theorem dL_days_876 : decode cL_days 876 = .ok (.iconst 4, 1) := by decide +kernel
theorem dL_days_877 : decode cL_days 877 = .ok (.if_icmp .ne 18, 3) := by decide +kernel
theorem dL_days_880 : decode cL_days 880 = .ok (.aload_n 0, 1) := by decide +kernel
theorem dL_days_881 : decode cL_days 881 = .ok (.iload 14, 2) := by decide +kernel
theorem dL_days_883 : decode cL_days 883 = .ok (.iload 11, 2) := by decide +kernel
theorem dL_days_885 : decode cL_days 885 = .ok (.invokestatic 175, 3) := by decide +kernel
theorem dL_days_888 : decode cL_days 888 = .ok (.ifCond .ne 7, 3) := by decide +kernel
theorem dL_days_891 : decode cL_days 891 = .ok (.iconst 1, 1) := by decide +kernel
theorem dL_days_892 : decode cL_days 892 = .ok (.goto 4, 3) := by decide +kernel
theorem dL_days_895 : decode cL_days 895 = .ok (.iconst 0, 1) := by decide +kernel
theorem dL_days_896 : decode cL_days 896 = .ok (.istore 8, 2) := by decide +kernel
theorem dL_days_898 : decode cL_days 898 = .ok (.iinc 9 1, 3) := by decide +kernel
theorem dL_days_901 : decode cL_days 901 = .ok (.goto (-809), 3) := by decide +kernel
theorem dL_days_904 : decode cL_days 904 = .ok (.iload 8, 2) := by decide +kernel
theorem dL_days_906 : decode cL_days 906 = .ok (.ifCond .eq 53, 3) := by decide +kernel
theorem dL_days_909 : decode cL_days 909 = .ok (.aload_n 0, 1) := by decide +kernel
theorem dL_days_910 : decode cL_days 910 = .ok (.iconst 4, 1) := by decide +kernel
theorem dL_days_911 : decode cL_days 911 = .ok (.invokestatic 132, 3) := by decide +kernel
theorem dL_days_914 : decode cL_days 914 = .ok (.iload 5, 2) := by decide +kernel
theorem dL_days_916 : decode cL_days 916 = .ok (.if_icmp .ne 43, 3) := by decide +kernel
theorem dL_days_919 : decode cL_days 919 = .ok (.aload_n 0, 1) := by decide +kernel
theorem dL_days_920 : decode cL_days 920 = .ok (.iconst 5, 1) := by decide +kernel
theorem dL_days_921 : decode cL_days 921 = .ok (.invokestatic 132, 3) := by decide +kernel
theorem dL_days_924 : decode cL_days 924 = .ok (.iload 6, 2) := by decide +kernel
theorem dL_days_926 : decode cL_days 926 = .ok (.if_icmp .ne 33, 3) := by decide +kernel
theorem dL_days_929 : decode cL_days 929 = .ok (.aload_n 0, 1) := by decide +kernel
theorem dL_days_930 : decode cL_days 930 = .ok (.bipush 6, 2) := by decide +kernel
theorem dL_days_932 : decode cL_days 932 = .ok (.invokestatic 129, 3) := by decide +kernel
theorem dL_days_935 : decode cL_days 935 = .ok (.iload 4, 2) := by decide +kernel
theorem dL_days_937 : decode cL_days 937 = .ok (.if_icmp .ne 22, 3) := by decide +kernel
theorem dL_days_940 : decode cL_days 940 = .ok (.aload_n 0, 1) := by decide +kernel
theorem dL_days_941 : decode cL_days 941 = .ok (.bipush 9, 2) := by decide +kernel
theorem dL_days_943 : decode cL_days 943 = .ok (.invokestatic 129, 3) := by decide +kernel
theorem dL_days_946 : decode cL_days 946 = .ok (.iload 7, 2) := by decide +kernel
theorem dL_days_948 : decode cL_days 948 = .ok (.if_icmp .ne 11, 3) := by decide +kernel
theorem dL_days_951 : decode cL_days 951 = .ok (.iload_n 3, 1) := by decide +kernel
theorem dL_days_952 : decode cL_days 952 = .ok (.ifCond .lt 7, 3) := by decide +kernel
theorem dL_days_955 : decode cL_days 955 = .ok (.iconst 1, 1) := by decide +kernel
theorem dL_days_956 : decode cL_days 956 = .ok (.goto 4, 3) := by decide +kernel
theorem dL_days_959 : decode cL_days 959 = .ok (.iconst 0, 1) := by decide +kernel
theorem dL_days_960 : decode cL_days 960 = .ok (.ireturn, 1) := by decide +kernel
theorem dL_hands_0 : decode cL_hands 0 = .ok (.aload_n 0, 1) := by decide +kernel
theorem dL_hands_1 : decode cL_hands 1 = .ok (.iconst 5, 1) := by decide +kernel
theorem dL_hands_2 : decode cL_hands 2 = .ok (.invokestatic 129, 3) := by decide +kernel
theorem dL_hands_5 : decode cL_hands 5 = .ok (.istore_n 2, 1) := by decide +kernel
theorem dL_hands_6 : decode cL_hands 6 = .ok (.aload_n 0, 1) := by decide +kernel
theorem dL_hands_7 : decode cL_hands 7 = .ok (.iconst 1, 1) := by decide +kernel
theorem dL_hands_8 : decode cL_hands 8 = .ok (.invokestatic 129, 3) := by decide +kernel
theorem dL_hands_11 : decode cL_hands 11 = .ok (.istore_n 3, 1) := by decide +kernel
theorem dL_hands_12 : decode cL_hands 12 = .ok (.aload_n 0, 1) := by decide +kernel
theorem dL_hands_13 : decode cL_hands 13 = .ok (.iconst 0, 1) := by decide +kernel
theorem dL_hands_14 : decode cL_hands 14 = .ok (.invokestatic 129, 3) := by decide +kernel
theorem dL_hands_17 : decode cL_hands 17 = .ok (.istore 4, 2) := by decide +kernel
theorem dL_hands_19 : decode cL_hands 19 = .ok (.iload_n 1, 1) := by decide +kernel
theorem dL_hands_20 : decode cL_hands 20 = .ok (.iload_n 3, 1) := by decide +kernel
theorem dL_hands_21 : decode cL_hands 21 = .ok (.irem, 1) := by decide +kernel
theorem dL_hands_22 : decode cL_hands 22 = .ok (.istore 5, 2) := by decide +kernel
theorem dL_hands_24 : decode cL_hands 24 = .ok (.iload_n 1, 1) := by decide +kernel
theorem dL_hands_25 : decode cL_hands 25 = .ok (.iconst 4, 1) := by decide +kernel
theorem dL_hands_26 : decode cL_hands 26 = .ok (.idiv, 1) := by decide +kernel
theorem dL_hands_27 : decode cL_hands 27 = .ok (.iload 4, 2) := by decide +kernel
theorem dL_hands_29 : decode cL_hands 29 = .ok (.irem, 1) := by decide +kernel
theorem dL_hands_30 : decode cL_hands 30 = .ok (.istore 6, 2) := by decide +kernel
theorem dL_hands_32 : decode cL_hands 32 = .ok (.aload_n 0, 1) := by decide +kernel
theorem dL_hands_33 : decode cL_hands 33 = .ok (.bipush 6, 2) := by decide +kernel
theorem dL_hands_35 : decode cL_hands 35 = .ok (.invokestatic 129, 3) := by decide +kernel
theorem dL_hands_38 : decode cL_hands 38 = .ok (.istore 7, 2) := by decide +kernel
theorem dL_hands_40 : decode cL_hands 40 = .ok (.iload 7, 2) := by decide +kernel
theorem dL_hands_42 : decode cL_hands 42 = .ok (.iload 4, 2) := by decide +kernel
theorem dL_hands_44 : decode cL_hands 44 = .ok (.if_icmp .ne 8, 3) := by decide +kernel
theorem dL_hands_47 : decode cL_hands 47 = .ok (.iload 4, 2) := by decide +kernel
theorem dL_hands_49 : decode cL_hands 49 = .ok (.goto 7, 3) := by decide +kernel
theorem dL_hands_52 : decode cL_hands 52 = .ok (.iload 7, 2) := by decide +kernel
theorem dL_hands_54 : decode cL_hands 54 = .ok (.iconst 1, 1) := by decide +kernel
theorem dL_hands_55 : decode cL_hands 55 = .ok (.iadd, 1) := by decide +kernel
theorem dL_hands_56 : decode cL_hands 56 = .ok (.istore 8, 2) := by decide +kernel
theorem dL_hands_58 : decode cL_hands 58 = .ok (.aload_n 0, 1) := by decide +kernel
theorem dL_hands_59 : decode cL_hands 59 = .ok (.iload 5, 2) := by decide +kernel
theorem dL_hands_61 : decode cL_hands 61 = .ok (.iconst 5, 1) := by decide +kernel
theorem dL_hands_62 : decode cL_hands 62 = .ok (.invokestatic 135, 3) := by decide +kernel
theorem dL_hands_65 : decode cL_hands 65 = .ok (.istore 9, 2) := by decide +kernel
theorem dL_hands_67 : decode cL_hands 67 = .ok (.aload_n 0, 1) := by decide +kernel
theorem dL_hands_68 : decode cL_hands 68 = .ok (.iconst 4, 1) := by decide +kernel
theorem dL_hands_69 : decode cL_hands 69 = .ok (.invokestatic 129, 3) := by decide +kernel
theorem dL_hands_72 : decode cL_hands 72 = .ok (.istore 10, 2) := by decide +kernel
theorem dL_hands_74 : decode cL_hands 74 = .ok (.aload_n 0, 1) := by decide +kernel
theorem dL_hands_75 : decode cL_hands 75 = .ok (.iconst 0, 1) := by decide +kernel
theorem dL_hands_76 : decode cL_hands 76 = .ok (.invokestatic 200, 3) := by decide +kernel
theorem dL_hands_79 : decode cL_hands 79 = .ok (.iload_n 2, 1) := by decide +kernel
theorem dL_hands_80 : decode cL_hands 80 = .ok (.if_icmp .ne 7, 3) := by decide +kernel
theorem dL_hands_83 : decode cL_hands 83 = .ok (.iconst 1, 1) := by decide +kernel
theorem dL_hands_84 : decode cL_hands 84 = .ok (.goto 4, 3) := by decide +kernel
theorem dL_hands_87 : decode cL_hands 87 = .ok (.iconst 0, 1) := by decide +kernel
theorem dL_hands_88 : decode cL_hands 88 = .ok (.istore 11, 2) := by decide +kernel
theorem dL_hands_90 : decode cL_hands 90 = .ok (.aload_n 0, 1) := by decide +kernel
theorem dL_hands_91 : decode cL_hands 91 = .ok (.iload 5, 2) := by decide +kernel
theorem dL_hands_93 : decode cL_hands 93 = .ok (.iconst 0, 1) := by decide +kernel
theorem dL_hands_94 : decode cL_hands 94 = .ok (.invokestatic 135, 3) := by decide +kernel
theorem dL_hands_97 : decode cL_hands 97 = .ok (.aload_n 0, 1) := by decide +kernel
theorem dL_hands_98 : decode cL_hands 98 = .ok (.iload 5, 2) := by decide +kernel
theorem dL_hands_100 : decode cL_hands 100 = .ok (.iconst 4, 1) := by decide +kernel
theorem dL_hands_101 : decode cL_hands 101 = .ok (.invokestatic 135, 3) := by decide +kernel
theorem dL_hands_104 : decode cL_hands 104 = .ok (.isub, 1) := by decide +kernel
theorem dL_hands_105 : decode cL_hands 105 = .ok (.istore 12, 2) := by decide +kernel
theorem dL_hands_107 : decode cL_hands 107 = .ok (.iconst 1, 1) := by decide +kernel
theorem dL_hands_108 : decode cL_hands 108 = .ok (.iload_n 1, 1) := by decide +kernel
theorem dL_hands_109 : decode cL_hands 109 = .ok (.bipush 64, 2) := by decide +kernel
theorem dL_hands_111 : decode cL_hands 111 = .ok (.idiv, 1) := by decide +kernel
theorem dL_hands_112 : decode cL_hands 112 = .ok (.sipush 160, 3) := by decide +kernel
theorem dL_hands_115 : decode cL_hands 115 = .ok (.irem, 1) := by decide +kernel
theorem dL_hands_116 : decode cL_hands 116 = .ok (.iadd, 1) := by decide +kernel
theorem dL_hands_117 : decode cL_hands 117 = .ok (.istore 13, 2) := by decide +kernel
theorem dL_hands_119 : decode cL_hands 119 = .ok (.iload 9, 2) := by decide +kernel
theorem dL_hands_121 : decode cL_hands 121 = .ok (.ifCond .ne 21, 3) := by decide +kernel
theorem dL_hands_124 : decode cL_hands 124 = .ok (.iload 13, 2) := by decide +kernel
theorem dL_hands_126 : decode cL_hands 126 = .ok (.iload 12, 2) := by decide +kernel
theorem dL_hands_128 : decode cL_hands 128 = .ok (.if_icmp .gt 14, 3) := by decide +kernel
theorem dL_hands_131 : decode cL_hands 131 = .ok (.iload 13, 2) := by decide +kernel
theorem dL_hands_133 : decode cL_hands 133 = .ok (.iload 10, 2) := by decide +kernel
theorem dL_hands_135 : decode cL_hands 135 = .ok (.if_icmp .gt 7, 3) := by decide +kernel
theorem dL_hands_138 : decode cL_hands 138 = .ok (.iconst 1, 1) := by decide +kernel
theorem dL_hands_139 : decode cL_hands 139 = .ok (.goto 4, 3) := by decide +kernel
theorem dL_hands_142 : decode cL_hands 142 = .ok (.iconst 0, 1) := by decide +kernel
theorem dL_hands_143 : decode cL_hands 143 = .ok (.istore 14, 2) := by decide +kernel
theorem dL_hands_145 : decode cL_hands 145 = .ok (.iload 11, 2) := by decide +kernel
theorem dL_hands_147 : decode cL_hands 147 = .ok (.ifCond .eq 131, 3) := by decide +kernel
theorem dL_hands_150 : decode cL_hands 150 = .ok (.aload_n 0, 1) := by decide +kernel
theorem dL_hands_151 : decode cL_hands 151 = .ok (.iload 5, 2) := by decide +kernel
theorem dL_hands_153 : decode cL_hands 153 = .ok (.iload 13, 2) := by decide +kernel
theorem dL_hands_155 : decode cL_hands 155 = .ok (.invokestatic 151, 3) := by decide +kernel
theorem dL_hands_158 : decode cL_hands 158 = .ok (.ifCond .lt 7, 3) := by decide +kernel
theorem dL_hands_161 : decode cL_hands 161 = .ok (.iconst 1, 1) := by decide +kernel
theorem dL_hands_162 : decode cL_hands 162 = .ok (.goto 4, 3) := by decide +kernel
theorem dL_hands_165 : decode cL_hands 165 = .ok (.iconst 0, 1) := by decide +kernel
theorem dL_hands_166 : decode cL_hands 166 = .ok (.iload 14, 2) := by decide +kernel
theorem dL_hands_168 : decode cL_hands 168 = .ok (.if_icmp .ne 110, 3) := by decide +kernel
theorem dL_hands_171 : decode cL_hands 171 = .ok (.aload_n 0, 1) := by decide +kernel
theorem dL_hands_172 : decode cL_hands 172 = .ok (.iconst 4, 1) := by decide +kernel
theorem dL_hands_173 : decode cL_hands 173 = .ok (.invokestatic 129, 3) := by decide +kernel
theorem dL_hands_176 : decode cL_hands 176 = .ok (.iload 10, 2) := by decide +kernel
theorem dL_hands_178 : decode cL_hands 178 = .ok (.iload 14, 2) := by decide +kernel
theorem dL_hands_180 : decode cL_hands 180 = .ok (.ifCond .eq 8, 3) := by decide +kernel
theorem dL_hands_183 : decode cL_hands 183 = .ok (.iload 13, 2) := by decide +kernel
theorem dL_hands_185 : decode cL_hands 185 = .ok (.goto 4, 3) := by decide +kernel
theorem dL_hands_188 : decode cL_hands 188 = .ok (.iconst 0, 1) := by decide +kernel
theorem dL_hands_189 : decode cL_hands 189 = .ok (.isub, 1) := by decide +kernel
theorem dL_hands_190 : decode cL_hands 190 = .ok (.if_icmp .ne 88, 3) := by decide +kernel
theorem dL_hands_193 : decode cL_hands 193 = .ok (.aload_n 0, 1) := by decide +kernel
theorem dL_hands_194 : decode cL_hands 194 = .ok (.invokestatic 203, 3) := by decide +kernel
theorem dL_hands_197 : decode cL_hands 197 = .ok (.ifCond .eq 81, 3) := by decide +kernel
theorem dL_hands_200 : decode cL_hands 200 = .ok (.aload_n 0, 1) := by decide +kernel
theorem dL_hands_201 : decode cL_hands 201 = .ok (.iload 5, 2) := by decide +kernel
theorem dL_hands_203 : decode cL_hands 203 = .ok (.invokestatic 154, 3) := by decide +kernel
theorem dL_hands_206 : decode cL_hands 206 = .ok (.iload 9, 2) := by decide +kernel
theorem dL_hands_208 : decode cL_hands 208 = .ok (.ifCond .ne 15, 3) := by decide +kernel
theorem dL_hands_211 : decode cL_hands 211 = .ok (.iload 7, 2) := by decide +kernel
theorem dL_hands_213 : decode cL_hands 213 = .ok (.iload 4, 2) := by decide +kernel
theorem dL_hands_215 : decode cL_hands 215 = .ok (.if_icmp .ge 8, 3) := by decide +kernel
theorem dL_hands_218 : decode cL_hands 218 = .ok (.iload 8, 2) := by decide +kernel
theorem dL_hands_220 : decode cL_hands 220 = .ok (.goto 6, 3) := by decide +kernel
theorem dL_hands_223 : decode cL_hands 223 = .ok (.sipush (-1003), 3) := by decide +kernel
theorem dL_hands_226 : decode cL_hands 226 = .ok (.if_icmp .ne 52, 3) := by decide +kernel
theorem dL_hands_229 : decode cL_hands 229 = .ok (.iload 9, 2) := by decide +kernel
theorem dL_hands_231 : decode cL_hands 231 = .ok (.ifCond .ne 34, 3) := by decide +kernel
theorem dL_hands_234 : decode cL_hands 234 = .ok (.iload 7, 2) := by decide +kernel
theorem dL_hands_236 : decode cL_hands 236 = .ok (.iload 4, 2) := by decide +kernel
theorem dL_hands_238 : decode cL_hands 238 = .ok (.if_icmp .eq 27, 3) := by decide +kernel
theorem dL_hands_241 : decode cL_hands 241 = .ok (.aload_n 0, 1) := by decide +kernel
theorem dL_hands_242 : decode cL_hands 242 = .ok (.iload 5, 2) := by decide +kernel
theorem dL_hands_244 : decode cL_hands 244 = .ok (.iconst 5, 1) := by decide +kernel
theorem dL_hands_245 : decode cL_hands 245 = .ok (.invokestatic 135, 3) := by decide +kernel
theorem dL_hands_248 : decode cL_hands 248 = .ok (.iconst 1, 1) := by decide +kernel
theorem dL_hands_249 : decode cL_hands 249 = .ok (.if_icmp .ne 29, 3) := by decide +kernel
theorem dL_hands_252 : decode cL_hands 252 = .ok (.aload_n 0, 1) := by decide +kernel
theorem dL_hands_253 : decode cL_hands 253 = .ok (.iload 5, 2) := by decide +kernel
theorem dL_hands_255 : decode cL_hands 255 = .ok (.bipush 6, 2) := by decide +kernel
theorem dL_hands_257 : decode cL_hands 257 = .ok (.invokestatic 135, 3) := by decide +kernel
theorem dL_hands_260 : decode cL_hands 260 = .ok (.iload 8, 2) := by decide +kernel
theorem dL_hands_262 : decode cL_hands 262 = .ok (.if_icmp .ne 16, 3) := by decide +kernel
theorem dL_hands_265 : decode cL_hands 265 = .ok (.aload_n 0, 1) := by decide +kernel
theorem dL_hands_266 : decode cL_hands 266 = .ok (.iconst 0, 1) := by decide +kernel
theorem dL_hands_267 : decode cL_hands 267 = .ok (.invokestatic 142, 3) := by decide +kernel
theorem dL_hands_270 : decode cL_hands 270 = .ok (.iload_n 2, 1) := by decide +kernel
theorem dL_hands_271 : decode cL_hands 271 = .ok (.if_icmp .ne 7, 3) := by decide +kernel
theorem dL_hands_274 : decode cL_hands 274 = .ok (.iconst 1, 1) := by decide +kernel
theorem dL_hands_275 : decode cL_hands 275 = .ok (.goto 4, 3) := by decide +kernel
theorem dL_hands_278 : decode cL_hands 278 = .ok (.iconst 0, 1) := by decide +kernel
theorem dL_hands_279 : decode cL_hands 279 = .ok (.istore 11, 2) := by decide +kernel
theorem dL_hands_281 : decode cL_hands 281 = .ok (.iload 9, 2) := by decide +kernel
theorem dL_hands_283 : decode cL_hands 283 = .ok (.iconst 2, 1) := by decide +kernel
theorem dL_hands_284 : decode cL_hands 284 = .ok (.if_icmp .eq 9, 3) := by decide +kernel
theorem dL_hands_287 : decode cL_hands 287 = .ok (.iload 9, 2) := by decide +kernel
theorem dL_hands_289 : decode cL_hands 289 = .ok (.iconst 3, 1) := by decide +kernel
theorem dL_hands_290 : decode cL_hands 290 = .ok (.if_icmp .ne 7, 3) := by decide +kernel
theorem dL_hands_293 : decode cL_hands 293 = .ok (.iconst 1, 1) := by decide +kernel
theorem dL_hands_294 : decode cL_hands 294 = .ok (.goto 4, 3) := by decide +kernel
theorem dL_hands_297 : decode cL_hands 297 = .ok (.iconst 0, 1) := by decide +kernel
theorem dL_hands_298 : decode cL_hands 298 = .ok (.istore 15, 2) := by decide +kernel
theorem dL_hands_300 : decode cL_hands 300 = .ok (.aload_n 0, 1) := by decide +kernel
theorem dL_hands_301 : decode cL_hands 301 = .ok (.bipush 10, 2) := by decide +kernel
theorem dL_hands_303 : decode cL_hands 303 = .ok (.invokestatic 129, 3) := by decide +kernel
theorem dL_hands_306 : decode cL_hands 306 = .ok (.istore 16, 2) := by decide +kernel
theorem dL_hands_308 : decode cL_hands 308 = .ok (.aload_n 0, 1) := by decide +kernel
theorem dL_hands_309 : decode cL_hands 309 = .ok (.bipush 13, 2) := by decide +kernel
theorem dL_hands_311 : decode cL_hands 311 = .ok (.invokestatic 129, 3) := by decide +kernel
theorem dL_hands_314 : decode cL_hands 314 = .ok (.istore 17, 2) := by decide +kernel
theorem dL_hands_316 : decode cL_hands 316 = .ok (.iload 11, 2) := by decide +kernel
theorem dL_hands_318 : decode cL_hands 318 = .ok (.ifCond .eq 103, 3) := by decide +kernel
theorem dL_hands_321 : decode cL_hands 321 = .ok (.aload_n 0, 1) := by decide +kernel
theorem dL_hands_322 : decode cL_hands 322 = .ok (.iload 5, 2) := by decide +kernel
theorem dL_hands_324 : decode cL_hands 324 = .ok (.invokestatic 157, 3) := by decide +kernel
theorem dL_hands_327 : decode cL_hands 327 = .ok (.iload 15, 2) := by decide +kernel
theorem dL_hands_329 : decode cL_hands 329 = .ok (.ifCond .eq 8, 3) := by decide +kernel
theorem dL_hands_332 : decode cL_hands 332 = .ok (.iload 8, 2) := by decide +kernel
theorem dL_hands_334 : decode cL_hands 334 = .ok (.goto 6, 3) := by decide +kernel
theorem dL_hands_337 : decode cL_hands 337 = .ok (.sipush (-1003), 3) := by decide +kernel
theorem dL_hands_340 : decode cL_hands 340 = .ok (.if_icmp .ne 81, 3) := by decide +kernel
theorem dL_hands_343 : decode cL_hands 343 = .ok (.iload 15, 2) := by decide +kernel
theorem dL_hands_345 : decode cL_hands 345 = .ok (.ifCond .eq 51, 3) := by decide +kernel
theorem dL_hands_348 : decode cL_hands 348 = .ok (.aload_n 0, 1) := by decide +kernel
theorem dL_hands_349 : decode cL_hands 349 = .ok (.iload 5, 2) := by decide +kernel
theorem dL_hands_351 : decode cL_hands 351 = .ok (.iconst 5, 1) := by decide +kernel
theorem dL_hands_352 : decode cL_hands 352 = .ok (.invokestatic 135, 3) := by decide +kernel
theorem dL_hands_355 : decode cL_hands 355 = .ok (.iconst 4, 1) := by decide +kernel
theorem dL_hands_356 : decode cL_hands 356 = .ok (.if_icmp .ne 65, 3) := by decide +kernel
theorem dL_hands_359 : decode cL_hands 359 = .ok (.iload 9, 2) := by decide +kernel
theorem dL_hands_361 : decode cL_hands 361 = .ok (.iconst 3, 1) := by decide +kernel
theorem dL_hands_362 : decode cL_hands 362 = .ok (.if_icmp .ne 23, 3) := by decide +kernel
theorem dL_hands_365 : decode cL_hands 365 = .ok (.aload_n 0, 1) := by decide +kernel
theorem dL_hands_366 : decode cL_hands 366 = .ok (.bipush 8, 2) := by decide +kernel
theorem dL_hands_368 : decode cL_hands 368 = .ok (.invokestatic 129, 3) := by decide +kernel
theorem dL_hands_371 : decode cL_hands 371 = .ok (.bipush (-9), 2) := by decide +kernel
theorem dL_hands_373 : decode cL_hands 373 = .ok (.if_icmp .ne 48, 3) := by decide +kernel
theorem dL_hands_376 : decode cL_hands 376 = .ok (.aload_n 0, 1) := by decide +kernel
theorem dL_hands_377 : decode cL_hands 377 = .ok (.bipush 10, 2) := by decide +kernel
theorem dL_hands_379 : decode cL_hands 379 = .ok (.invokestatic 129, 3) := by decide +kernel
theorem dL_hands_382 : decode cL_hands 382 = .ok (.ifCond .ne 39, 3) := by decide +kernel
theorem dL_hands_385 : decode cL_hands 385 = .ok (.aload_n 0, 1) := by decide +kernel
theorem dL_hands_386 : decode cL_hands 386 = .ok (.bipush 13, 2) := by decide +kernel
theorem dL_hands_388 : decode cL_hands 388 = .ok (.invokestatic 129, 3) := by decide +kernel
theorem dL_hands_391 : decode cL_hands 391 = .ok (.iload 17, 2) := by decide +kernel
theorem dL_hands_393 : decode cL_hands 393 = .ok (.if_icmp .ne 28, 3) := by decide +kernel
theorem dL_hands_396 : decode cL_hands 396 = .ok (.aload_n 0, 1) := by decide +kernel
theorem dL_hands_397 : decode cL_hands 397 = .ok (.invokestatic 203, 3) := by decide +kernel
theorem dL_hands_400 : decode cL_hands 400 = .ok (.ifCond .eq 21, 3) := by decide +kernel
theorem dL_hands_403 : decode cL_hands 403 = .ok (.iload 16, 2) := by decide +kernel
theorem dL_hands_405 : decode cL_hands 405 = .ok (.ifCond .lt 16, 3) := by decide +kernel
theorem dL_hands_408 : decode cL_hands 408 = .ok (.aload_n 0, 1) := by decide +kernel
theorem dL_hands_409 : decode cL_hands 409 = .ok (.iconst 0, 1) := by decide +kernel
theorem dL_hands_410 : decode cL_hands 410 = .ok (.invokestatic 142, 3) := by decide +kernel
theorem dL_hands_413 : decode cL_hands 413 = .ok (.iload_n 2, 1) := by decide +kernel
theorem dL_hands_414 : decode cL_hands 414 = .ok (.if_icmp .ne 7, 3) := by decide +kernel
theorem dL_hands_417 : decode cL_hands 417 = .ok (.iconst 1, 1) := by decide +kernel
theorem dL_hands_418 : decode cL_hands 418 = .ok (.goto 4, 3) := by decide +kernel
theorem dL_hands_421 : decode cL_hands 421 = .ok (.iconst 0, 1) := by decide +kernel
theorem dL_hands_422 : decode cL_hands 422 = .ok (.istore 11, 2) := by decide +kernel
theorem dL_hands_424 : decode cL_hands 424 = .ok (.iconst 1, 1) := by decide +kernel
theorem dL_hands_425 : decode cL_hands 425 = .ok (.iload_n 1, 1) := by decide +kernel
theorem dL_hands_426 : decode cL_hands 426 = .ok (.bipush 16, 2) := by decide +kernel
theorem dL_hands_428 : decode cL_hands 428 = .ok (.idiv, 1) := by decide +kernel
theorem dL_hands_429 : decode cL_hands 429 = .ok (.bipush 99, 2) := by decide +kernel
theorem dL_hands_431 : decode cL_hands 431 = .ok (.irem, 1) := by decide +kernel
theorem dL_hands_432 : decode cL_hands 432 = .ok (.iadd, 1) := by decide +kernel
theorem dL_hands_433 : decode cL_hands 433 = .ok (.istore 18, 2) := by decide +kernel
theorem dL_hands_435 : decode cL_hands 435 = .ok (.aload_n 0, 1) := by decide +kernel
theorem dL_hands_436 : decode cL_hands 436 = .ok (.iload 6, 2) := by decide +kernel
theorem dL_hands_438 : decode cL_hands 438 = .ok (.iconst 2, 1) := by decide +kernel
theorem dL_hands_439 : decode cL_hands 439 = .ok (.invokestatic 145, 3) := by decide +kernel
theorem dL_hands_442 : decode cL_hands 442 = .ok (.istore 19, 2) := by decide +kernel
theorem dL_hands_444 : decode cL_hands 444 = .ok (.aload_n 0, 1) := by decide +kernel
theorem dL_hands_445 : decode cL_hands 445 = .ok (.bipush 6, 2) := by decide +kernel
theorem dL_hands_447 : decode cL_hands 447 = .ok (.invokestatic 132, 3) := by decide +kernel
theorem dL_hands_450 : decode cL_hands 450 = .ok (.istore 20, 2) := by decide +kernel
theorem dL_hands_452 : decode cL_hands 452 = .ok (.iload 11, 2) := by decide +kernel
theorem dL_hands_454 : decode cL_hands 454 = .ok (.ifCond .eq 119, 3) := by decide +kernel
theorem dL_hands_457 : decode cL_hands 457 = .ok (.aload_n 0, 1) := by decide +kernel
theorem dL_hands_458 : decode cL_hands 458 = .ok (.iload 6, 2) := by decide +kernel
theorem dL_hands_460 : decode cL_hands 460 = .ok (.iload 18, 2) := by decide +kernel
theorem dL_hands_462 : decode cL_hands 462 = .ok (.invokestatic 160, 3) := by decide +kernel
theorem dL_hands_465 : decode cL_hands 465 = .ok (.iload 19, 2) := by decide +kernel
theorem dL_hands_467 : decode cL_hands 467 = .ok (.iload 18, 2) := by decide +kernel
theorem dL_hands_469 : decode cL_hands 469 = .ok (.iadd, 1) := by decide +kernel
theorem dL_hands_470 : decode cL_hands 470 = .ok (.sipush 999, 3) := by decide +kernel
theorem dL_hands_473 : decode cL_hands 473 = .ok (.if_icmp .le 9, 3) := by decide +kernel
theorem dL_hands_476 : decode cL_hands 476 = .ok (.sipush (-1003), 3) := by decide +kernel
theorem dL_hands_479 : decode cL_hands 479 = .ok (.goto 8, 3) := by decide +kernel
theorem dL_hands_482 : decode cL_hands 482 = .ok (.iload 19, 2) := by decide +kernel
theorem dL_hands_484 : decode cL_hands 484 = .ok (.iload 18, 2) := by decide +kernel
theorem dL_hands_486 : decode cL_hands 486 = .ok (.iadd, 1) := by decide +kernel
theorem dL_hands_487 : decode cL_hands 487 = .ok (.if_icmp .ne 86, 3) := by decide +kernel
theorem dL_hands_490 : decode cL_hands 490 = .ok (.aload_n 0, 1) := by decide +kernel
theorem dL_hands_491 : decode cL_hands 491 = .ok (.bipush 6, 2) := by decide +kernel
theorem dL_hands_493 : decode cL_hands 493 = .ok (.invokestatic 132, 3) := by decide +kernel
theorem dL_hands_496 : decode cL_hands 496 = .ok (.iload 20, 2) := by decide +kernel
theorem dL_hands_498 : decode cL_hands 498 = .ok (.iload 19, 2) := by decide +kernel
theorem dL_hands_500 : decode cL_hands 500 = .ok (.iload 18, 2) := by decide +kernel
theorem dL_hands_502 : decode cL_hands 502 = .ok (.iadd, 1) := by decide +kernel
theorem dL_hands_503 : decode cL_hands 503 = .ok (.sipush 999, 3) := by decide +kernel
theorem dL_hands_506 : decode cL_hands 506 = .ok (.if_icmp .le 7, 3) := by decide +kernel
theorem dL_hands_509 : decode cL_hands 509 = .ok (.iconst 0, 1) := by decide +kernel
theorem dL_hands_510 : decode cL_hands 510 = .ok (.goto 8, 3) := by decide +kernel
theorem dL_hands_513 : decode cL_hands 513 = .ok (.bipush 50, 2) := by decide +kernel
theorem dL_hands_515 : decode cL_hands 515 = .ok (.iload 18, 2) := by decide +kernel
theorem dL_hands_517 : decode cL_hands 517 = .ok (.imul, 1) := by decide +kernel
theorem dL_hands_518 : decode cL_hands 518 = .ok (.iadd, 1) := by decide +kernel
theorem dL_hands_519 : decode cL_hands 519 = .ok (.if_icmp .ne 54, 3) := by decide +kernel
theorem dL_hands_522 : decode cL_hands 522 = .ok (.aload_n 0, 1) := by decide +kernel
theorem dL_hands_523 : decode cL_hands 523 = .ok (.iload 18, 2) := by decide +kernel
theorem dL_hands_525 : decode cL_hands 525 = .ok (.invokestatic 163, 3) := by decide +kernel
theorem dL_hands_528 : decode cL_hands 528 = .ok (.iload 10, 2) := by decide +kernel
theorem dL_hands_530 : decode cL_hands 530 = .ok (.iload 18, 2) := by decide +kernel
theorem dL_hands_532 : decode cL_hands 532 = .ok (.iadd, 1) := by decide +kernel
theorem dL_hands_533 : decode cL_hands 533 = .ok (.sipush 9999, 3) := by decide +kernel
theorem dL_hands_536 : decode cL_hands 536 = .ok (.if_icmp .le 9, 3) := by decide +kernel
theorem dL_hands_539 : decode cL_hands 539 = .ok (.sipush (-1003), 3) := by decide +kernel
theorem dL_hands_542 : decode cL_hands 542 = .ok (.goto 8, 3) := by decide +kernel
theorem dL_hands_545 : decode cL_hands 545 = .ok (.iload 10, 2) := by decide +kernel
theorem dL_hands_547 : decode cL_hands 547 = .ok (.iload 18, 2) := by decide +kernel
theorem dL_hands_549 : decode cL_hands 549 = .ok (.iadd, 1) := by decide +kernel
theorem dL_hands_550 : decode cL_hands 550 = .ok (.if_icmp .ne 23, 3) := by decide +kernel
theorem dL_hands_553 : decode cL_hands 553 = .ok (.aload_n 0, 1) := by decide +kernel
theorem dL_hands_554 : decode cL_hands 554 = .ok (.invokestatic 203, 3) := by decide +kernel
theorem dL_hands_557 : decode cL_hands 557 = .ok (.ifCond .eq 16, 3) := by decide +kernel
theorem dL_hands_560 : decode cL_hands 560 = .ok (.aload_n 0, 1) := by decide +kernel
theorem dL_hands_561 : decode cL_hands 561 = .ok (.iconst 0, 1) := by decide +kernel
theorem dL_hands_562 : decode cL_hands 562 = .ok (.invokestatic 142, 3) := by decide +kernel
theorem dL_hands_565 : decode cL_hands 565 = .ok (.iload_n 2, 1) := by decide +kernel
theorem dL_hands_566 : decode cL_hands 566 = .ok (.if_icmp .ne 7, 3) := by decide +kernel
theorem dL_hands_569 : decode cL_hands 569 = .ok (.iconst 1, 1) := by decide +kernel
theorem dL_hands_570 : decode cL_hands 570 = .ok (.goto 4, 3) := by decide +kernel
theorem dL_hands_573 : decode cL_hands 573 = .ok (.iconst 0, 1) := by decide +kernel
theorem dL_hands_574 : decode cL_hands 574 = .ok (.istore 11, 2) := by decide +kernel
theorem dL_hands_576 : decode cL_hands 576 = .ok (.aload_n 0, 1) := by decide +kernel
theorem dL_hands_577 : decode cL_hands 577 = .ok (.iload 6, 2) := by decide +kernel
theorem dL_hands_579 : decode cL_hands 579 = .ok (.iload 18, 2) := by decide +kernel
theorem dL_hands_581 : decode cL_hands 581 = .ok (.invokestatic 172, 3) := by decide +kernel
theorem dL_hands_584 : decode cL_hands 584 = .ok (.istore 21, 2) := by decide +kernel
theorem dL_hands_586 : decode cL_hands 586 = .ok (.aload_n 0, 1) := by decide +kernel
theorem dL_hands_587 : decode cL_hands 587 = .ok (.iload 5, 2) := by decide +kernel
theorem dL_hands_589 : decode cL_hands 589 = .ok (.iload 6, 2) := by decide +kernel
theorem dL_hands_591 : decode cL_hands 591 = .ok (.invokestatic 175, 3) := by decide +kernel
theorem dL_hands_594 : decode cL_hands 594 = .ok (.istore 22, 2) := by decide +kernel
theorem dL_hands_596 : decode cL_hands 596 = .ok (.aload_n 0, 1) := by decide +kernel
theorem dL_hands_597 : decode cL_hands 597 = .ok (.iload 5, 2) := by decide +kernel
theorem dL_hands_599 : decode cL_hands 599 = .ok (.iconst 4, 1) := by decide +kernel
theorem dL_hands_600 : decode cL_hands 600 = .ok (.invokestatic 135, 3) := by decide +kernel
theorem dL_hands_603 : decode cL_hands 603 = .ok (.istore 23, 2) := by decide +kernel
theorem dL_hands_605 : decode cL_hands 605 = .ok (.aload_n 0, 1) := by decide +kernel
theorem dL_hands_606 : decode cL_hands 606 = .ok (.iload 6, 2) := by decide +kernel
theorem dL_hands_608 : decode cL_hands 608 = .ok (.iconst 0, 1) := by decide +kernel
theorem dL_hands_609 : decode cL_hands 609 = .ok (.invokestatic 145, 3) := by decide +kernel
theorem dL_hands_612 : decode cL_hands 612 = .ok (.istore 24, 2) := by decide +kernel
theorem dL_hands_614 : decode cL_hands 614 = .ok (.iload 11, 2) := by decide +kernel
theorem dL_hands_616 : decode cL_hands 616 = .ok (.ifCond .eq 110, 3) := by decide +kernel
theorem dL_hands_619 : decode cL_hands 619 = .ok (.aload_n 0, 1) := by decide +kernel
theorem dL_hands_620 : decode cL_hands 620 = .ok (.iload 6, 2) := by decide +kernel
theorem dL_hands_622 : decode cL_hands 622 = .ok (.iconst 0, 1) := by decide +kernel
theorem dL_hands_623 : decode cL_hands 623 = .ok (.invokestatic 172, 3) := by decide +kernel
theorem dL_hands_626 : decode cL_hands 626 = .ok (.ifCond .ne 100, 3) := by decide +kernel
theorem dL_hands_629 : decode cL_hands 629 = .ok (.iload 21, 2) := by decide +kernel
theorem dL_hands_631 : decode cL_hands 631 = .ok (.iload 18, 2) := by decide +kernel
theorem dL_hands_633 : decode cL_hands 633 = .ok (.if_icmp .lt 93, 3) := by decide +kernel
theorem dL_hands_636 : decode cL_hands 636 = .ok (.bipush 100, 2) := by decide +kernel
theorem dL_hands_638 : decode cL_hands 638 = .ok (.iload 21, 2) := by decide +kernel
theorem dL_hands_640 : decode cL_hands 640 = .ok (.iload 18, 2) := by decide +kernel
theorem dL_hands_642 : decode cL_hands 642 = .ok (.isub, 1) := by decide +kernel
theorem dL_hands_643 : decode cL_hands 643 = .ok (.imul, 1) := by decide +kernel
theorem dL_hands_644 : decode cL_hands 644 = .ok (.iload 18, 2) := by decide +kernel
theorem dL_hands_646 : decode cL_hands 646 = .ok (.aload_n 0, 1) := by decide +kernel
theorem dL_hands_647 : decode cL_hands 647 = .ok (.iload 6, 2) := by decide +kernel
theorem dL_hands_649 : decode cL_hands 649 = .ok (.iconst 3, 1) := by decide +kernel
theorem dL_hands_650 : decode cL_hands 650 = .ok (.invokestatic 145, 3) := by decide +kernel
theorem dL_hands_653 : decode cL_hands 653 = .ok (.imul, 1) := by decide +kernel
theorem dL_hands_654 : decode cL_hands 654 = .ok (.if_icmp .lt 72, 3) := by decide +kernel
theorem dL_hands_657 : decode cL_hands 657 = .ok (.bipush 100, 2) := by decide +kernel
theorem dL_hands_659 : decode cL_hands 659 = .ok (.iload 21, 2) := by decide +kernel
theorem dL_hands_661 : decode cL_hands 661 = .ok (.iload 18, 2) := by decide +kernel
theorem dL_hands_663 : decode cL_hands 663 = .ok (.isub, 1) := by decide +kernel
theorem dL_hands_664 : decode cL_hands 664 = .ok (.iconst 1, 1) := by decide +kernel
theorem dL_hands_665 : decode cL_hands 665 = .ok (.isub, 1) := by decide +kernel
theorem dL_hands_666 : decode cL_hands 666 = .ok (.imul, 1) := by decide +kernel
theorem dL_hands_667 : decode cL_hands 667 = .ok (.iload 18, 2) := by decide +kernel
theorem dL_hands_669 : decode cL_hands 669 = .ok (.aload_n 0, 1) := by decide +kernel
theorem dL_hands_670 : decode cL_hands 670 = .ok (.iload 6, 2) := by decide +kernel
theorem dL_hands_672 : decode cL_hands 672 = .ok (.iconst 3, 1) := by decide +kernel
theorem dL_hands_673 : decode cL_hands 673 = .ok (.invokestatic 145, 3) := by decide +kernel
theorem dL_hands_676 : decode cL_hands 676 = .ok (.imul, 1) := by decide +kernel
theorem dL_hands_677 : decode cL_hands 677 = .ok (.if_icmp .ge 49, 3) := by decide +kernel
theorem dL_hands_680 : decode cL_hands 680 = .ok (.aload_n 0, 1) := by decide +kernel
theorem dL_hands_681 : decode cL_hands 681 = .ok (.iload 6, 2) := by decide +kernel
theorem dL_hands_683 : decode cL_hands 683 = .ok (.iload 22, 2) := by decide +kernel
theorem dL_hands_685 : decode cL_hands 685 = .ok (.invokestatic 172, 3) := by decide +kernel
theorem dL_hands_688 : decode cL_hands 688 = .ok (.iload 23, 2) := by decide +kernel
theorem dL_hands_690 : decode cL_hands 690 = .ok (.if_icmp .gt 36, 3) := by decide +kernel
theorem dL_hands_693 : decode cL_hands 693 = .ok (.iload 22, 2) := by decide +kernel
theorem dL_hands_695 : decode cL_hands 695 = .ok (.iload 24, 2) := by decide +kernel
theorem dL_hands_697 : decode cL_hands 697 = .ok (.if_icmp .eq 18, 3) := by decide +kernel
theorem dL_hands_700 : decode cL_hands 700 = .ok (.aload_n 0, 1) := by decide +kernel
theorem dL_hands_701 : decode cL_hands 701 = .ok (.iload 6, 2) := by decide +kernel
theorem dL_hands_703 : decode cL_hands 703 = .ok (.iload 22, 2) := by decide +kernel
theorem dL_hands_705 : decode cL_hands 705 = .ok (.iconst 1, 1) := by decide +kernel
theorem dL_hands_706 : decode cL_hands 706 = .ok (.iadd, 1) := by decide +kernel
theorem dL_hands_707 : decode cL_hands 707 = .ok (.invokestatic 172, 3) := by decide +kernel
theorem dL_hands_710 : decode cL_hands 710 = .ok (.iload 23, 2) := by decide +kernel
theorem dL_hands_712 : decode cL_hands 712 = .ok (.if_icmp .le 14, 3) := by decide +kernel
theorem dL_hands_715 : decode cL_hands 715 = .ok (.iload 22, 2) := by decide +kernel
theorem dL_hands_717 : decode cL_hands 717 = .ok (.iload 24, 2) := by decide +kernel
theorem dL_hands_719 : decode cL_hands 719 = .ok (.if_icmp .gt 7, 3) := by decide +kernel
theorem dL_hands_722 : decode cL_hands 722 = .ok (.iconst 1, 1) := by decide +kernel
theorem dL_hands_723 : decode cL_hands 723 = .ok (.goto 4, 3) := by decide +kernel
theorem dL_hands_726 : decode cL_hands 726 = .ok (.iconst 0, 1) := by decide +kernel
theorem dL_hands_727 : decode cL_hands 727 = .ok (.istore 11, 2) := by decide +kernel
theorem dL_hands_729 : decode cL_hands 729 = .ok (.aload_n 0, 1) := by decide +kernel
theorem dL_hands_730 : decode cL_hands 730 = .ok (.iload 5, 2) := by decide +kernel
theorem dL_hands_732 : decode cL_hands 732 = .ok (.iload 6, 2) := by decide +kernel
theorem dL_hands_734 : decode cL_hands 734 = .ok (.invokestatic 178, 3) := by decide +kernel
theorem dL_hands_737 : decode cL_hands 737 = .ok (.istore 25, 2) := by decide +kernel
theorem dL_hands_739 : decode cL_hands 739 = .ok (.aload_n 0, 1) := by decide +kernel
theorem dL_hands_740 : decode cL_hands 740 = .ok (.iload 6, 2) := by decide +kernel
theorem dL_hands_742 : decode cL_hands 742 = .ok (.iconst 1, 1) := by decide +kernel
theorem dL_hands_743 : decode cL_hands 743 = .ok (.invokestatic 145, 3) := by decide +kernel
theorem dL_hands_746 : decode cL_hands 746 = .ok (.iload_n 2, 1) := by decide +kernel
theorem dL_hands_747 : decode cL_hands 747 = .ok (.if_icmp .le 13, 3) := by decide +kernel
theorem dL_hands_750 : decode cL_hands 750 = .ok (.aload_n 0, 1) := by decide +kernel
theorem dL_hands_751 : decode cL_hands 751 = .ok (.iload 6, 2) := by decide +kernel
theorem dL_hands_753 : decode cL_hands 753 = .ok (.iconst 1, 1) := by decide +kernel
theorem dL_hands_754 : decode cL_hands 754 = .ok (.invokestatic 145, 3) := by decide +kernel
theorem dL_hands_757 : decode cL_hands 757 = .ok (.goto 4, 3) := by decide +kernel
theorem dL_hands_760 : decode cL_hands 760 = .ok (.iload_n 2, 1) := by decide +kernel
theorem dL_hands_761 : decode cL_hands 761 = .ok (.istore 26, 2) := by decide +kernel
theorem dL_hands_763 : decode cL_hands 763 = .ok (.iload 11, 2) := by decide +kernel
theorem dL_hands_765 : decode cL_hands 765 = .ok (.ifCond .eq 35, 3) := by decide +kernel
theorem dL_hands_768 : decode cL_hands 768 = .ok (.iload 25, 2) := by decide +kernel
theorem dL_hands_770 : decode cL_hands 770 = .ok (.ifCond .lt 30, 3) := by decide +kernel
theorem dL_hands_773 : decode cL_hands 773 = .ok (.iload 25, 2) := by decide +kernel
theorem dL_hands_775 : decode cL_hands 775 = .ok (.iload 19, 2) := by decide +kernel
theorem dL_hands_777 : decode cL_hands 777 = .ok (.iload 26, 2) := by decide +kernel
theorem dL_hands_779 : decode cL_hands 779 = .ok (.if_icmp .ge 7, 3) := by decide +kernel
theorem dL_hands_782 : decode cL_hands 782 = .ok (.iconst 0, 1) := by decide +kernel
theorem dL_hands_783 : decode cL_hands 783 = .ok (.goto 10, 3) := by decide +kernel
theorem dL_hands_786 : decode cL_hands 786 = .ok (.iload 19, 2) := by decide +kernel
theorem dL_hands_788 : decode cL_hands 788 = .ok (.iload 26, 2) := by decide +kernel
theorem dL_hands_790 : decode cL_hands 790 = .ok (.isub, 1) := by decide +kernel
theorem dL_hands_791 : decode cL_hands 791 = .ok (.iconst 1, 1) := by decide +kernel
theorem dL_hands_792 : decode cL_hands 792 = .ok (.iadd, 1) := by decide +kernel
theorem dL_hands_793 : decode cL_hands 793 = .ok (.if_icmp .gt 7, 3) := by decide +kernel
theorem dL_hands_796 : decode cL_hands 796 = .ok (.iconst 1, 1) := by decide +kernel
theorem dL_hands_797 : decode cL_hands 797 = .ok (.goto 4, 3) := by decide +kernel
theorem dL_hands_800 : decode cL_hands 800 = .ok (.iconst 0, 1) := by decide +kernel
theorem dL_hands_801 : decode cL_hands 801 = .ok (.istore 11, 2) := by decide +kernel
theorem dL_hands_803 : decode cL_hands 803 = .ok (.aload_n 0, 1) := by decide +kernel
theorem dL_hands_804 : decode cL_hands 804 = .ok (.iload 6, 2) := by decide +kernel
theorem dL_hands_806 : decode cL_hands 806 = .ok (.invokestatic 184, 3) := by decide +kernel
theorem dL_hands_809 : decode cL_hands 809 = .ok (.istore 27, 2) := by decide +kernel
theorem dL_hands_811 : decode cL_hands 811 = .ok (.aload_n 0, 1) := by decide +kernel
theorem dL_hands_812 : decode cL_hands 812 = .ok (.iload 6, 2) := by decide +kernel
theorem dL_hands_814 : decode cL_hands 814 = .ok (.invokestatic 187, 3) := by decide +kernel
theorem dL_hands_817 : decode cL_hands 817 = .ok (.istore 28, 2) := by decide +kernel
theorem dL_hands_819 : decode cL_hands 819 = .ok (.iload 11, 2) := by decide +kernel
theorem dL_hands_821 : decode cL_hands 821 = .ok (.ifCond .eq 96, 3) := by decide +kernel
theorem dL_hands_824 : decode cL_hands 824 = .ok (.iload 27, 2) := by decide +kernel
theorem dL_hands_826 : decode cL_hands 826 = .ok (.ifCond .ne 7, 3) := by decide +kernel
theorem dL_hands_829 : decode cL_hands 829 = .ok (.iconst 1, 1) := by decide +kernel
theorem dL_hands_830 : decode cL_hands 830 = .ok (.goto 4, 3) := by decide +kernel
theorem dL_hands_833 : decode cL_hands 833 = .ok (.iconst 0, 1) := by decide +kernel
theorem dL_hands_834 : decode cL_hands 834 = .ok (.iload 6, 2) := by decide +kernel
theorem dL_hands_836 : decode cL_hands 836 = .ok (.iload 7, 2) := by decide +kernel
theorem dL_hands_838 : decode cL_hands 838 = .ok (.if_icmp .ge 7, 3) := by decide +kernel
theorem dL_hands_841 : decode cL_hands 841 = .ok (.iconst 1, 1) := by decide +kernel
theorem dL_hands_842 : decode cL_hands 842 = .ok (.goto 4, 3) := by decide +kernel
theorem dL_hands_845 : decode cL_hands 845 = .ok (.iconst 0, 1) := by decide +kernel
theorem dL_hands_846 : decode cL_hands 846 = .ok (.if_icmp .ne 71, 3) := by decide +kernel
theorem dL_hands_849 : decode cL_hands 849 = .ok (.iload 28, 2) := by decide +kernel
theorem dL_hands_851 : decode cL_hands 851 = .ok (.ifCond .ne 7, 3) := by decide +kernel
theorem dL_hands_854 : decode cL_hands 854 = .ok (.iconst 1, 1) := by decide +kernel
theorem dL_hands_855 : decode cL_hands 855 = .ok (.goto 4, 3) := by decide +kernel
theorem dL_hands_858 : decode cL_hands 858 = .ok (.iconst 0, 1) := by decide +kernel
theorem dL_hands_859 : decode cL_hands 859 = .ok (.iload 27, 2) := by decide +kernel
theorem dL_hands_861 : decode cL_hands 861 = .ok (.bipush (-9), 2) := by decide +kernel
theorem dL_hands_863 : decode cL_hands 863 = .ok (.if_icmp .eq 7, 3) := by decide +kernel
theorem dL_hands_866 : decode cL_hands 866 = .ok (.iconst 1, 1) := by decide +kernel
theorem dL_hands_867 : decode cL_hands 867 = .ok (.goto 4, 3) := by decide +kernel
theorem dL_hands_870 : decode cL_hands 870 = .ok (.iconst 0, 1) := by decide +kernel
theorem dL_hands_871 : decode cL_hands 871 = .ok (.if_icmp .ne 46, 3) := by decide +kernel
theorem dL_hands_874 : decode cL_hands 874 = .ok (.iload 27, 2) := by decide +kernel
theorem dL_hands_876 : decode cL_hands 876 = .ok (.iconst 1, 1) := by decide +kernel
theorem dL_hands_877 : decode cL_hands 877 = .ok (.if_icmp .lt 36, 3) := by decide +kernel
theorem dL_hands_880 : decode cL_hands 880 = .ok (.iload 27, 2) := by decide +kernel
theorem dL_hands_882 : decode cL_hands 882 = .ok (.bipush 99, 2) := by decide +kernel
theorem dL_hands_884 : decode cL_hands 884 = .ok (.if_icmp .gt 29, 3) := by decide +kernel
theorem dL_hands_887 : decode cL_hands 887 = .ok (.aload_n 0, 1) := by decide +kernel
theorem dL_hands_888 : decode cL_hands 888 = .ok (.iload 27, 2) := by decide +kernel
theorem dL_hands_890 : decode cL_hands 890 = .ok (.iconst 1, 1) := by decide +kernel
theorem dL_hands_891 : decode cL_hands 891 = .ok (.invokestatic 181, 3) := by decide +kernel
theorem dL_hands_894 : decode cL_hands 894 = .ok (.iload 6, 2) := by decide +kernel
theorem dL_hands_896 : decode cL_hands 896 = .ok (.if_icmp .le 21, 3) := by decide +kernel
theorem dL_hands_899 : decode cL_hands 899 = .ok (.aload_n 0, 1) := by decide +kernel
theorem dL_hands_900 : decode cL_hands 900 = .ok (.iload 27, 2) := by decide +kernel
theorem dL_hands_902 : decode cL_hands 902 = .ok (.iconst 1, 1) := by decide +kernel
theorem dL_hands_903 : decode cL_hands 903 = .ok (.isub, 1) := by decide +kernel
theorem dL_hands_904 : decode cL_hands 904 = .ok (.iconst 1, 1) := by decide +kernel
theorem dL_hands_905 : decode cL_hands 905 = .ok (.invokestatic 181, 3) := by decide +kernel
theorem dL_hands_908 : decode cL_hands 908 = .ok (.iload 6, 2) := by decide +kernel
theorem dL_hands_910 : decode cL_hands 910 = .ok (.if_icmp .gt 7, 3) := by decide +kernel
theorem dL_hands_913 : decode cL_hands 913 = .ok (.iconst 1, 1) := by decide +kernel
theorem dL_hands_914 : decode cL_hands 914 = .ok (.goto 4, 3) := by decide +kernel
theorem dL_hands_917 : decode cL_hands 917 = .ok (.iconst 0, 1) := by decide +kernel
theorem dL_hands_918 : decode cL_hands 918 = .ok (.istore 11, 2) := by decide +kernel
theorem dL_hands_920 : decode cL_hands 920 = .ok (.iload 28, 2) := by decide +kernel
theorem dL_hands_922 : decode cL_hands 922 = .ok (.ifCond .le 85, 3) := by decide +kernel
theorem dL_hands_925 : decode cL_hands 925 = .ok (.iload 11, 2) := by decide +kernel
theorem dL_hands_927 : decode cL_hands 927 = .ok (.ifCond .eq 80, 3) := by decide +kernel
theorem dL_hands_930 : decode cL_hands 930 = .ok (.aload_n 0, 1) := by decide +kernel
theorem dL_hands_931 : decode cL_hands 931 = .ok (.iload 6, 2) := by decide +kernel
theorem dL_hands_933 : decode cL_hands 933 = .ok (.iload 28, 2) := by decide +kernel
theorem dL_hands_935 : decode cL_hands 935 = .ok (.invokestatic 160, 3) := by decide +kernel
theorem dL_hands_938 : decode cL_hands 938 = .ok (.ifCond .lt 66, 3) := by decide +kernel
theorem dL_hands_941 : decode cL_hands 941 = .ok (.aload_n 0, 1) := by decide +kernel
theorem dL_hands_942 : decode cL_hands 942 = .ok (.iload 6, 2) := by decide +kernel
theorem dL_hands_944 : decode cL_hands 944 = .ok (.invokestatic 184, 3) := by decide +kernel
theorem dL_hands_947 : decode cL_hands 947 = .ok (.bipush (-9), 2) := by decide +kernel
theorem dL_hands_949 : decode cL_hands 949 = .ok (.if_icmp .eq 55, 3) := by decide +kernel
theorem dL_hands_952 : decode cL_hands 952 = .ok (.aload_n 0, 1) := by decide +kernel
theorem dL_hands_953 : decode cL_hands 953 = .ok (.iconst 0, 1) := by decide +kernel
theorem dL_hands_954 : decode cL_hands 954 = .ok (.invokestatic 142, 3) := by decide +kernel
theorem dL_hands_957 : decode cL_hands 957 = .ok (.iload_n 2, 1) := by decide +kernel
theorem dL_hands_958 : decode cL_hands 958 = .ok (.if_icmp .ne 46, 3) := by decide +kernel
theorem dL_hands_961 : decode cL_hands 961 = .ok (.iload 28, 2) := by decide +kernel
theorem dL_hands_963 : decode cL_hands 963 = .ok (.iconst 1, 1) := by decide +kernel
theorem dL_hands_964 : decode cL_hands 964 = .ok (.if_icmp .eq 27, 3) := by decide +kernel
theorem dL_hands_967 : decode cL_hands 967 = .ok (.aload_n 0, 1) := by decide +kernel
theorem dL_hands_968 : decode cL_hands 968 = .ok (.iload 6, 2) := by decide +kernel
theorem dL_hands_970 : decode cL_hands 970 = .ok (.iload 28, 2) := by decide +kernel
theorem dL_hands_972 : decode cL_hands 972 = .ok (.iconst 1, 1) := by decide +kernel
theorem dL_hands_973 : decode cL_hands 973 = .ok (.isub, 1) := by decide +kernel
theorem dL_hands_974 : decode cL_hands 974 = .ok (.invokestatic 160, 3) := by decide +kernel
theorem dL_hands_977 : decode cL_hands 977 = .ok (.ifCond .lt 27, 3) := by decide +kernel
theorem dL_hands_980 : decode cL_hands 980 = .ok (.aload_n 0, 1) := by decide +kernel
theorem dL_hands_981 : decode cL_hands 981 = .ok (.iload 6, 2) := by decide +kernel
theorem dL_hands_983 : decode cL_hands 983 = .ok (.invokestatic 184, 3) := by decide +kernel
theorem dL_hands_986 : decode cL_hands 986 = .ok (.bipush (-9), 2) := by decide +kernel
theorem dL_hands_988 : decode cL_hands 988 = .ok (.if_icmp .ne 16, 3) := by decide +kernel
theorem dL_hands_991 : decode cL_hands 991 = .ok (.aload_n 0, 1) := by decide +kernel
theorem dL_hands_992 : decode cL_hands 992 = .ok (.iconst 0, 1) := by decide +kernel
theorem dL_hands_993 : decode cL_hands 993 = .ok (.invokestatic 142, 3) := by decide +kernel
theorem dL_hands_996 : decode cL_hands 996 = .ok (.iload_n 2, 1) := by decide +kernel
theorem dL_hands_997 : decode cL_hands 997 = .ok (.if_icmp .ne 7, 3) := by decide +kernel
theorem dL_hands_1000 : decode cL_hands 1000 = .ok (.iconst 1, 1) := by decide +kernel
theorem dL_hands_1001 : decode cL_hands 1001 = .ok (.goto 4, 3) := by decide +kernel
theorem dL_hands_1004 : decode cL_hands 1004 = .ok (.iconst 0, 1) := by decide +kernel
theorem dL_hands_1005 : decode cL_hands 1005 = .ok (.istore 11, 2) := by decide +kernel
theorem dL_hands_1007 : decode cL_hands 1007 = .ok (.aload_n 0, 1) := by decide +kernel
theorem dL_hands_1008 : decode cL_hands 1008 = .ok (.invokevirtual 207, 3) := by decide +kernel
theorem dL_hands_1011 : decode cL_hands 1011 = .ok (.istore 29, 2) := by decide +kernel
theorem dL_hands_1013 : decode cL_hands 1013 = .ok (.iload 11, 2) := by decide +kernel
theorem dL_hands_1015 : decode cL_hands 1015 = .ok (.ifCond .eq 31, 3) := by decide +kernel
theorem dL_hands_1018 : decode cL_hands 1018 = .ok (.iload 29, 2) := by decide +kernel
theorem dL_hands_1020 : decode cL_hands 1020 = .ok (.bipush (-9), 2) := by decide +kernel
theorem dL_hands_1022 : decode cL_hands 1022 = .ok (.if_icmp .eq 20, 3) := by decide +kernel
theorem dL_hands_1025 : decode cL_hands 1025 = .ok (.aload_n 0, 1) := by decide +kernel
theorem dL_hands_1026 : decode cL_hands 1026 = .ok (.iload 29, 2) := by decide +kernel
theorem dL_hands_1028 : decode cL_hands 1028 = .ok (.iconst 5, 1) := by decide +kernel
theorem dL_hands_1029 : decode cL_hands 1029 = .ok (.invokestatic 135, 3) := by decide +kernel
theorem dL_hands_1032 : decode cL_hands 1032 = .ok (.ifCond .ne 14, 3) := by decide +kernel
theorem dL_hands_1035 : decode cL_hands 1035 = .ok (.iload 7, 2) := by decide +kernel
theorem dL_hands_1037 : decode cL_hands 1037 = .ok (.iload 4, 2) := by decide +kernel
theorem dL_hands_1039 : decode cL_hands 1039 = .ok (.if_icmp .ge 7, 3) := by decide +kernel
theorem dL_hands_1042 : decode cL_hands 1042 = .ok (.iconst 1, 1) := by decide +kernel
theorem dL_hands_1043 : decode cL_hands 1043 = .ok (.goto 4, 3) := by decide +kernel
theorem dL_hands_1046 : decode cL_hands 1046 = .ok (.iconst 0, 1) := by decide +kernel
theorem dL_hands_1047 : decode cL_hands 1047 = .ok (.istore 11, 2) := by decide +kernel
theorem dL_hands_1049 : decode cL_hands 1049 = .ok (.iload 29, 2) := by decide +kernel
theorem dL_hands_1051 : decode cL_hands 1051 = .ok (.bipush (-9), 2) := by decide +kernel
theorem dL_hands_1053 : decode cL_hands 1053 = .ok (.if_icmp .eq 99, 3) := by decide +kernel
theorem dL_hands_1056 : decode cL_hands 1056 = .ok (.iload 9, 2) := by decide +kernel
theorem dL_hands_1058 : decode cL_hands 1058 = .ok (.ifCond .ne 94, 3) := by decide +kernel
theorem dL_hands_1061 : decode cL_hands 1061 = .ok (.iload 11, 2) := by decide +kernel
theorem dL_hands_1063 : decode cL_hands 1063 = .ok (.ifCond .eq 89, 3) := by decide +kernel
theorem dL_hands_1066 : decode cL_hands 1066 = .ok (.aload_n 0, 1) := by decide +kernel
theorem dL_hands_1067 : decode cL_hands 1067 = .ok (.iload 29, 2) := by decide +kernel
theorem dL_hands_1069 : decode cL_hands 1069 = .ok (.iconst 0, 1) := by decide +kernel
theorem dL_hands_1070 : decode cL_hands 1070 = .ok (.iload_n 2, 1) := by decide +kernel
theorem dL_hands_1071 : decode cL_hands 1071 = .ok (.invokestatic 210, 3) := by decide +kernel
theorem dL_hands_1074 : decode cL_hands 1074 = .ok (.istore 30, 2) := by decide +kernel
theorem dL_hands_1076 : decode cL_hands 1076 = .ok (.aload_n 0, 1) := by decide +kernel
theorem dL_hands_1077 : decode cL_hands 1077 = .ok (.iload 5, 2) := by decide +kernel
theorem dL_hands_1079 : decode cL_hands 1079 = .ok (.iconst 0, 1) := by decide +kernel
theorem dL_hands_1080 : decode cL_hands 1080 = .ok (.iload_n 2, 1) := by decide +kernel
theorem dL_hands_1081 : decode cL_hands 1081 = .ok (.invokestatic 210, 3) := by decide +kernel
theorem dL_hands_1084 : decode cL_hands 1084 = .ok (.istore 31, 2) := by decide +kernel
theorem dL_hands_1086 : decode cL_hands 1086 = .ok (.iload 30, 2) := by decide +kernel
theorem dL_hands_1088 : decode cL_hands 1088 = .ok (.iload 31, 2) := by decide +kernel
theorem dL_hands_1090 : decode cL_hands 1090 = .ok (.if_icmp .gt 55, 3) := by decide +kernel
theorem dL_hands_1093 : decode cL_hands 1093 = .ok (.iload 30, 2) := by decide +kernel
theorem dL_hands_1095 : decode cL_hands 1095 = .ok (.iload 31, 2) := by decide +kernel
theorem dL_hands_1097 : decode cL_hands 1097 = .ok (.if_icmp .ne 52, 3) := by decide +kernel
end
section
theorem dL_hands_1100 : decode cL_hands 1100 = .ok (.aload_n 0, 1) := by decide +kernel
theorem dL_hands_1101 : decode cL_hands 1101 = .ok (.iload 29, 2) := by decide +kernel
theorem dL_hands_1103 : decode cL_hands 1103 = .ok (.iconst 2, 1) := by decide +kernel
theorem dL_hands_1104 : decode cL_hands 1104 = .ok (.iload_n 2, 1) := by decide +kernel
theorem dL_hands_1105 : decode cL_hands 1105 = .ok (.invokestatic 210, 3) := by decide +kernel
theorem dL_hands_1108 : decode cL_hands 1108 = .ok (.aload_n 0, 1) := by decide +kernel
theorem dL_hands_1109 : decode cL_hands 1109 = .ok (.iload 5, 2) := by decide +kernel
theorem dL_hands_1111 : decode cL_hands 1111 = .ok (.iconst 2, 1) := by decide +kernel
theorem dL_hands_1112 : decode cL_hands 1112 = .ok (.iload_n 2, 1) := by decide +kernel
theorem dL_hands_1113 : decode cL_hands 1113 = .ok (.invokestatic 210, 3) := by decide +kernel
theorem dL_hands_1116 : decode cL_hands 1116 = .ok (.if_icmp .lt 29, 3) := by decide +kernel
theorem dL_hands_1119 : decode cL_hands 1119 = .ok (.aload_n 0, 1) := by decide +kernel
theorem dL_hands_1120 : decode cL_hands 1120 = .ok (.iload 29, 2) := by decide +kernel
theorem dL_hands_1122 : decode cL_hands 1122 = .ok (.iconst 2, 1) := by decide +kernel
theorem dL_hands_1123 : decode cL_hands 1123 = .ok (.iload_n 2, 1) := by decide +kernel
theorem dL_hands_1124 : decode cL_hands 1124 = .ok (.invokestatic 210, 3) := by decide +kernel
theorem dL_hands_1127 : decode cL_hands 1127 = .ok (.aload_n 0, 1) := by decide +kernel
theorem dL_hands_1128 : decode cL_hands 1128 = .ok (.iload 5, 2) := by decide +kernel
theorem dL_hands_1130 : decode cL_hands 1130 = .ok (.iconst 2, 1) := by decide +kernel
theorem dL_hands_1131 : decode cL_hands 1131 = .ok (.iload_n 2, 1) := by decide +kernel
theorem dL_hands_1132 : decode cL_hands 1132 = .ok (.invokestatic 210, 3) := by decide +kernel
theorem dL_hands_1135 : decode cL_hands 1135 = .ok (.if_icmp .ne 14, 3) := by decide +kernel
theorem dL_hands_1138 : decode cL_hands 1138 = .ok (.iload 29, 2) := by decide +kernel
theorem dL_hands_1140 : decode cL_hands 1140 = .ok (.iload 5, 2) := by decide +kernel
theorem dL_hands_1142 : decode cL_hands 1142 = .ok (.if_icmp .gt 7, 3) := by decide +kernel
theorem dL_hands_1145 : decode cL_hands 1145 = .ok (.iconst 1, 1) := by decide +kernel
theorem dL_hands_1146 : decode cL_hands 1146 = .ok (.goto 4, 3) := by decide +kernel
theorem dL_hands_1149 : decode cL_hands 1149 = .ok (.iconst 0, 1) := by decide +kernel
theorem dL_hands_1150 : decode cL_hands 1150 = .ok (.istore 11, 2) := by decide +kernel
theorem dL_hands_1152 : decode cL_hands 1152 = .ok (.iload 11, 2) := by decide +kernel
theorem dL_hands_1154 : decode cL_hands 1154 = .ok (.ifCond .eq 26, 3) := by decide +kernel
theorem dL_hands_1157 : decode cL_hands 1157 = .ok (.aload_n 0, 1) := by decide +kernel
theorem dL_hands_1158 : decode cL_hands 1158 = .ok (.iconst 0, 1) := by decide +kernel
theorem dL_hands_1159 : decode cL_hands 1159 = .ok (.invokestatic 142, 3) := by decide +kernel
theorem dL_hands_1162 : decode cL_hands 1162 = .ok (.iload_n 2, 1) := by decide +kernel
theorem dL_hands_1163 : decode cL_hands 1163 = .ok (.if_icmp .ne 17, 3) := by decide +kernel
theorem dL_hands_1166 : decode cL_hands 1166 = .ok (.aload_n 0, 1) := by decide +kernel
theorem dL_hands_1167 : decode cL_hands 1167 = .ok (.invokestatic 139, 3) := by decide +kernel
theorem dL_hands_1170 : decode cL_hands 1170 = .ok (.sipush (-1003), 3) := by decide +kernel
theorem dL_hands_1173 : decode cL_hands 1173 = .ok (.if_icmp .ne 7, 3) := by decide +kernel
theorem dL_hands_1176 : decode cL_hands 1176 = .ok (.iconst 1, 1) := by decide +kernel
theorem dL_hands_1177 : decode cL_hands 1177 = .ok (.goto 4, 3) := by decide +kernel
theorem dL_hands_1180 : decode cL_hands 1180 = .ok (.iconst 0, 1) := by decide +kernel
theorem dL_hands_1181 : decode cL_hands 1181 = .ok (.ireturn, 1) := by decide +kernel
theorem dL_after_0 : decode cL_after 0 = .ok (.aload_n 0, 1) := by decide +kernel
theorem dL_after_1 : decode cL_after 1 = .ok (.iload_n 1, 1) := by decide +kernel
theorem dL_after_2 : decode cL_after 2 = .ok (.iconst 0, 1) := by decide +kernel
theorem dL_after_3 : decode cL_after 3 = .ok (.invokestatic 135, 3) := by decide +kernel
theorem dL_after_6 : decode cL_after 6 = .ok (.aload_n 0, 1) := by decide +kernel
theorem dL_after_7 : decode cL_after 7 = .ok (.iload_n 1, 1) := by decide +kernel
theorem dL_after_8 : decode cL_after 8 = .ok (.iconst 4, 1) := by decide +kernel
theorem dL_after_9 : decode cL_after 9 = .ok (.invokestatic 135, 3) := by decide +kernel
theorem dL_after_12 : decode cL_after 12 = .ok (.isub, 1) := by decide +kernel
theorem dL_after_13 : decode cL_after 13 = .ok (.istore 4, 2) := by decide +kernel
theorem dL_after_15 : decode cL_after 15 = .ok (.iload 4, 2) := by decide +kernel
theorem dL_after_17 : decode cL_after 17 = .ok (.aload_n 0, 1) := by decide +kernel
theorem dL_after_18 : decode cL_after 18 = .ok (.iconst 4, 1) := by decide +kernel
theorem dL_after_19 : decode cL_after 19 = .ok (.invokestatic 129, 3) := by decide +kernel
theorem dL_after_22 : decode cL_after 22 = .ok (.if_icmp .ge 8, 3) := by decide +kernel
theorem dL_after_25 : decode cL_after 25 = .ok (.iload 4, 2) := by decide +kernel
theorem dL_after_27 : decode cL_after 27 = .ok (.goto 8, 3) := by decide +kernel
theorem dL_after_30 : decode cL_after 30 = .ok (.aload_n 0, 1) := by decide +kernel
theorem dL_after_31 : decode cL_after 31 = .ok (.iconst 4, 1) := by decide +kernel
theorem dL_after_32 : decode cL_after 32 = .ok (.invokestatic 129, 3) := by decide +kernel
theorem dL_after_35 : decode cL_after 35 = .ok (.istore 5, 2) := by decide +kernel
theorem dL_after_37 : decode cL_after 37 = .ok (.iload 5, 2) := by decide +kernel
theorem dL_after_39 : decode cL_after 39 = .ok (.ifCond .ne 7, 3) := by decide +kernel
theorem dL_after_42 : decode cL_after 42 = .ok (.iconst 0, 1) := by decide +kernel
theorem dL_after_43 : decode cL_after 43 = .ok (.goto 10, 3) := by decide +kernel
theorem dL_after_46 : decode cL_after 46 = .ok (.aload_n 0, 1) := by decide +kernel
theorem dL_after_47 : decode cL_after 47 = .ok (.iload_n 1, 1) := by decide +kernel
theorem dL_after_48 : decode cL_after 48 = .ok (.iload 5, 2) := by decide +kernel
theorem dL_after_50 : decode cL_after 50 = .ok (.invokestatic 151, 3) := by decide +kernel
theorem dL_after_53 : decode cL_after 53 = .ok (.istore 6, 2) := by decide +kernel
theorem dL_after_55 : decode cL_after 55 = .ok (.aload_n 0, 1) := by decide +kernel
theorem dL_after_56 : decode cL_after 56 = .ok (.iload_n 1, 1) := by decide +kernel
theorem dL_after_57 : decode cL_after 57 = .ok (.invokestatic 154, 3) := by decide +kernel
theorem dL_after_60 : decode cL_after 60 = .ok (.istore 7, 2) := by decide +kernel
theorem dL_after_62 : decode cL_after 62 = .ok (.aload_n 0, 1) := by decide +kernel
theorem dL_after_63 : decode cL_after 63 = .ok (.bipush 60, 2) := by decide +kernel
theorem dL_after_65 : decode cL_after 65 = .ok (.iload_n 2, 1) := by decide +kernel
theorem dL_after_66 : decode cL_after 66 = .ok (.invokestatic 181, 3) := by decide +kernel
theorem dL_after_69 : decode cL_after 69 = .ok (.istore 8, 2) := by decide +kernel
theorem dL_after_71 : decode cL_after 71 = .ok (.iload 6, 2) := by decide +kernel
theorem dL_after_73 : decode cL_after 73 = .ok (.ifCond .lt 22, 3) := by decide +kernel
theorem dL_after_76 : decode cL_after 76 = .ok (.iload 7, 2) := by decide +kernel
theorem dL_after_78 : decode cL_after 78 = .ok (.ifCond .le 17, 3) := by decide +kernel
theorem dL_after_81 : decode cL_after 81 = .ok (.aload_n 0, 1) := by decide +kernel
theorem dL_after_82 : decode cL_after 82 = .ok (.iconst 0, 1) := by decide +kernel
theorem dL_after_83 : decode cL_after 83 = .ok (.invokestatic 142, 3) := by decide +kernel
theorem dL_after_86 : decode cL_after 86 = .ok (.iload_n 3, 1) := by decide +kernel
theorem dL_after_87 : decode cL_after 87 = .ok (.if_icmp .ne 8, 3) := by decide +kernel
theorem dL_after_90 : decode cL_after 90 = .ok (.iload 8, 2) := by decide +kernel
theorem dL_after_92 : decode cL_after 92 = .ok (.goto 4, 3) := by decide +kernel
theorem dL_after_95 : decode cL_after 95 = .ok (.iconst (-1), 1) := by decide +kernel
theorem dL_after_96 : decode cL_after 96 = .ok (.ireturn, 1) := by decide +kernel
theorem dL_scripts_0 : decode cL_scripts 0 = .ok (.aload_n 0, 1) := by decide +kernel
theorem dL_scripts_1 : decode cL_scripts 1 = .ok (.iconst 0, 1) := by decide +kernel
theorem dL_scripts_2 : decode cL_scripts 2 = .ok (.invokestatic 129, 3) := by decide +kernel
theorem dL_scripts_5 : decode cL_scripts 5 = .ok (.istore_n 2, 1) := by decide +kernel
theorem dL_scripts_6 : decode cL_scripts 6 = .ok (.aload_n 0, 1) := by decide +kernel
theorem dL_scripts_7 : decode cL_scripts 7 = .ok (.iconst 1, 1) := by decide +kernel
theorem dL_scripts_8 : decode cL_scripts 8 = .ok (.invokestatic 129, 3) := by decide +kernel
theorem dL_scripts_11 : decode cL_scripts 11 = .ok (.istore_n 3, 1) := by decide +kernel
theorem dL_scripts_12 : decode cL_scripts 12 = .ok (.iload_n 1, 1) := by decide +kernel
theorem dL_scripts_13 : decode cL_scripts 13 = .ok (.iload_n 3, 1) := by decide +kernel
theorem dL_scripts_14 : decode cL_scripts 14 = .ok (.irem, 1) := by decide +kernel
theorem dL_scripts_15 : decode cL_scripts 15 = .ok (.istore 4, 2) := by decide +kernel
theorem dL_scripts_17 : decode cL_scripts 17 = .ok (.aload_n 0, 1) := by decide +kernel
theorem dL_scripts_18 : decode cL_scripts 18 = .ok (.iload 4, 2) := by decide +kernel
theorem dL_scripts_20 : decode cL_scripts 20 = .ok (.iconst 5, 1) := by decide +kernel
theorem dL_scripts_21 : decode cL_scripts 21 = .ok (.invokestatic 135, 3) := by decide +kernel
theorem dL_scripts_24 : decode cL_scripts 24 = .ok (.istore 5, 2) := by decide +kernel
theorem dL_scripts_26 : decode cL_scripts 26 = .ok (.aload_n 0, 1) := by decide +kernel
theorem dL_scripts_27 : decode cL_scripts 27 = .ok (.bipush 6, 2) := by decide +kernel
theorem dL_scripts_29 : decode cL_scripts 29 = .ok (.invokestatic 129, 3) := by decide +kernel
theorem dL_scripts_32 : decode cL_scripts 32 = .ok (.istore 6, 2) := by decide +kernel
theorem dL_scripts_34 : decode cL_scripts 34 = .ok (.aload_n 0, 1) := by decide +kernel
theorem dL_scripts_35 : decode cL_scripts 35 = .ok (.bipush 7, 2) := by decide +kernel
theorem dL_scripts_37 : decode cL_scripts 37 = .ok (.invokestatic 129, 3) := by decide +kernel
theorem dL_scripts_40 : decode cL_scripts 40 = .ok (.istore 7, 2) := by decide +kernel
theorem dL_scripts_42 : decode cL_scripts 42 = .ok (.aload_n 0, 1) := by decide +kernel
theorem dL_scripts_43 : decode cL_scripts 43 = .ok (.bipush 9, 2) := by decide +kernel
theorem dL_scripts_45 : decode cL_scripts 45 = .ok (.invokestatic 129, 3) := by decide +kernel
theorem dL_scripts_48 : decode cL_scripts 48 = .ok (.istore 8, 2) := by decide +kernel
theorem dL_scripts_50 : decode cL_scripts 50 = .ok (.aload_n 0, 1) := by decide +kernel
theorem dL_scripts_51 : decode cL_scripts 51 = .ok (.iload_n 1, 1) := by decide +kernel
theorem dL_scripts_52 : decode cL_scripts 52 = .ok (.i2l, 1) := by decide +kernel
theorem dL_scripts_53 : decode cL_scripts 53 = .ok (.ldc2_w 214, 3) := by decide +kernel
theorem dL_scripts_56 : decode cL_scripts 56 = .ok (.lmul, 1) := by decide +kernel
theorem dL_scripts_57 : decode cL_scripts 57 = .ok (.bipush 20, 2) := by decide +kernel
theorem dL_scripts_59 : decode cL_scripts 59 = .ok (.invokestatic 196, 3) := by decide +kernel
theorem dL_scripts_62 : decode cL_scripts 62 = .ok (.istore 9, 2) := by decide +kernel
theorem dL_scripts_64 : decode cL_scripts 64 = .ok (.aload_n 0, 1) := by decide +kernel
theorem dL_scripts_65 : decode cL_scripts 65 = .ok (.iconst 1, 1) := by decide +kernel
theorem dL_scripts_66 : decode cL_scripts 66 = .ok (.ldc2_w 216, 3) := by decide +kernel
theorem dL_scripts_69 : decode cL_scripts 69 = .ok (.ldc2_w 218, 3) := by decide +kernel
theorem dL_scripts_72 : decode cL_scripts 72 = .ok (.iload 6, 2) := by decide +kernel
theorem dL_scripts_74 : decode cL_scripts 74 = .ok (.i2l, 1) := by decide +kernel
theorem dL_scripts_75 : decode cL_scripts 75 = .ok (.lmul, 1) := by decide +kernel
theorem dL_scripts_76 : decode cL_scripts 76 = .ok (.ladd, 1) := by decide +kernel
theorem dL_scripts_77 : decode cL_scripts 77 = .ok (.iload 7, 2) := by decide +kernel
theorem dL_scripts_79 : decode cL_scripts 79 = .ok (.i2l, 1) := by decide +kernel
theorem dL_scripts_80 : decode cL_scripts 80 = .ok (.ladd, 1) := by decide +kernel
theorem dL_scripts_81 : decode cL_scripts 81 = .ok (.invokestatic 190, 3) := by decide +kernel
theorem dL_scripts_84 : decode cL_scripts 84 = .ok (.bipush (-9), 2) := by decide +kernel
theorem dL_scripts_86 : decode cL_scripts 86 = .ok (.if_icmp .ne 194, 3) := by decide +kernel
theorem dL_scripts_89 : decode cL_scripts 89 = .ok (.aload_n 0, 1) := by decide +kernel
theorem dL_scripts_90 : decode cL_scripts 90 = .ok (.iconst 1, 1) := by decide +kernel
theorem dL_scripts_91 : decode cL_scripts 91 = .ok (.ldc2_w 220, 3) := by decide +kernel
theorem dL_scripts_94 : decode cL_scripts 94 = .ok (.ldc2_w 218, 3) := by decide +kernel
theorem dL_scripts_97 : decode cL_scripts 97 = .ok (.iload 6, 2) := by decide +kernel
theorem dL_scripts_99 : decode cL_scripts 99 = .ok (.i2l, 1) := by decide +kernel
theorem dL_scripts_100 : decode cL_scripts 100 = .ok (.lmul, 1) := by decide +kernel
theorem dL_scripts_101 : decode cL_scripts 101 = .ok (.ladd, 1) := by decide +kernel
theorem dL_scripts_102 : decode cL_scripts 102 = .ok (.iload 7, 2) := by decide +kernel
theorem dL_scripts_104 : decode cL_scripts 104 = .ok (.i2l, 1) := by decide +kernel
theorem dL_scripts_105 : decode cL_scripts 105 = .ok (.ladd, 1) := by decide +kernel
theorem dL_scripts_106 : decode cL_scripts 106 = .ok (.invokestatic 190, 3) := by decide +kernel
theorem dL_scripts_109 : decode cL_scripts 109 = .ok (.ifCond .ne 171, 3) := by decide +kernel
theorem dL_scripts_112 : decode cL_scripts 112 = .ok (.aload_n 0, 1) := by decide +kernel
theorem dL_scripts_113 : decode cL_scripts 113 = .ok (.iconst 1, 1) := by decide +kernel
theorem dL_scripts_114 : decode cL_scripts 114 = .ok (.ldc2_w 222, 3) := by decide +kernel
theorem dL_scripts_117 : decode cL_scripts 117 = .ok (.ldc2_w 218, 3) := by decide +kernel
theorem dL_scripts_120 : decode cL_scripts 120 = .ok (.iload 4, 2) := by decide +kernel
theorem dL_scripts_122 : decode cL_scripts 122 = .ok (.i2l, 1) := by decide +kernel
theorem dL_scripts_123 : decode cL_scripts 123 = .ok (.lmul, 1) := by decide +kernel
theorem dL_scripts_124 : decode cL_scripts 124 = .ok (.ladd, 1) := by decide +kernel
theorem dL_scripts_125 : decode cL_scripts 125 = .ok (.iload 5, 2) := by decide +kernel
theorem dL_scripts_127 : decode cL_scripts 127 = .ok (.i2l, 1) := by decide +kernel
theorem dL_scripts_128 : decode cL_scripts 128 = .ok (.ladd, 1) := by decide +kernel
theorem dL_scripts_129 : decode cL_scripts 129 = .ok (.invokestatic 190, 3) := by decide +kernel
theorem dL_scripts_132 : decode cL_scripts 132 = .ok (.bipush (-9), 2) := by decide +kernel
theorem dL_scripts_134 : decode cL_scripts 134 = .ok (.if_icmp .ne 146, 3) := by decide +kernel
theorem dL_scripts_137 : decode cL_scripts 137 = .ok (.aload_n 0, 1) := by decide +kernel
theorem dL_scripts_138 : decode cL_scripts 138 = .ok (.iconst 1, 1) := by decide +kernel
theorem dL_scripts_139 : decode cL_scripts 139 = .ok (.ldc2_w 224, 3) := by decide +kernel
theorem dL_scripts_142 : decode cL_scripts 142 = .ok (.ldc2_w 218, 3) := by decide +kernel
theorem dL_scripts_145 : decode cL_scripts 145 = .ok (.iload 4, 2) := by decide +kernel
theorem dL_scripts_147 : decode cL_scripts 147 = .ok (.i2l, 1) := by decide +kernel
theorem dL_scripts_148 : decode cL_scripts 148 = .ok (.lmul, 1) := by decide +kernel
theorem dL_scripts_149 : decode cL_scripts 149 = .ok (.ladd, 1) := by decide +kernel
theorem dL_scripts_150 : decode cL_scripts 150 = .ok (.invokestatic 190, 3) := by decide +kernel
theorem dL_scripts_153 : decode cL_scripts 153 = .ok (.ifCond .ne 127, 3) := by decide +kernel
theorem dL_scripts_156 : decode cL_scripts 156 = .ok (.aload_n 0, 1) := by decide +kernel
theorem dL_scripts_157 : decode cL_scripts 157 = .ok (.iconst 1, 1) := by decide +kernel
theorem dL_scripts_158 : decode cL_scripts 158 = .ok (.ldc2_w 226, 3) := by decide +kernel
theorem dL_scripts_161 : decode cL_scripts 161 = .ok (.iload 8, 2) := by decide +kernel
theorem dL_scripts_163 : decode cL_scripts 163 = .ok (.i2l, 1) := by decide +kernel
theorem dL_scripts_164 : decode cL_scripts 164 = .ok (.ladd, 1) := by decide +kernel
theorem dL_scripts_165 : decode cL_scripts 165 = .ok (.invokestatic 190, 3) := by decide +kernel
theorem dL_scripts_168 : decode cL_scripts 168 = .ok (.bipush (-9), 2) := by decide +kernel
theorem dL_scripts_170 : decode cL_scripts 170 = .ok (.if_icmp .ne 110, 3) := by decide +kernel
theorem dL_scripts_173 : decode cL_scripts 173 = .ok (.aload_n 0, 1) := by decide +kernel
theorem dL_scripts_174 : decode cL_scripts 174 = .ok (.iconst 1, 1) := by decide +kernel
theorem dL_scripts_175 : decode cL_scripts 175 = .ok (.ldc2_w 228, 3) := by decide +kernel
theorem dL_scripts_178 : decode cL_scripts 178 = .ok (.invokestatic 190, 3) := by decide +kernel
theorem dL_scripts_181 : decode cL_scripts 181 = .ok (.ifCond .ne 99, 3) := by decide +kernel
theorem dL_scripts_184 : decode cL_scripts 184 = .ok (.aload_n 0, 1) := by decide +kernel
theorem dL_scripts_185 : decode cL_scripts 185 = .ok (.iconst 1, 1) := by decide +kernel
theorem dL_scripts_186 : decode cL_scripts 186 = .ok (.ldc2_w 230, 3) := by decide +kernel
theorem dL_scripts_189 : decode cL_scripts 189 = .ok (.ldc2_w 218, 3) := by decide +kernel
theorem dL_scripts_192 : decode cL_scripts 192 = .ok (.iload 4, 2) := by decide +kernel
theorem dL_scripts_194 : decode cL_scripts 194 = .ok (.i2l, 1) := by decide +kernel
theorem dL_scripts_195 : decode cL_scripts 195 = .ok (.lmul, 1) := by decide +kernel
theorem dL_scripts_196 : decode cL_scripts 196 = .ok (.ladd, 1) := by decide +kernel
theorem dL_scripts_197 : decode cL_scripts 197 = .ok (.invokestatic 190, 3) := by decide +kernel
theorem dL_scripts_200 : decode cL_scripts 200 = .ok (.iload 5, 2) := by decide +kernel
theorem dL_scripts_202 : decode cL_scripts 202 = .ok (.ifCond .ne 14, 3) := by decide +kernel
theorem dL_scripts_205 : decode cL_scripts 205 = .ok (.iload 6, 2) := by decide +kernel
theorem dL_scripts_207 : decode cL_scripts 207 = .ok (.iload_n 2, 1) := by decide +kernel
theorem dL_scripts_208 : decode cL_scripts 208 = .ok (.if_icmp .ge 8, 3) := by decide +kernel
theorem dL_scripts_211 : decode cL_scripts 211 = .ok (.bipush (-9), 2) := by decide +kernel
theorem dL_scripts_213 : decode cL_scripts 213 = .ok (.goto 4, 3) := by decide +kernel
theorem dL_scripts_216 : decode cL_scripts 216 = .ok (.iconst 0, 1) := by decide +kernel
theorem dL_scripts_217 : decode cL_scripts 217 = .ok (.if_icmp .ne 63, 3) := by decide +kernel
theorem dL_scripts_220 : decode cL_scripts 220 = .ok (.aload_n 0, 1) := by decide +kernel
theorem dL_scripts_221 : decode cL_scripts 221 = .ok (.iconst 1, 1) := by decide +kernel
theorem dL_scripts_222 : decode cL_scripts 222 = .ok (.ldc2_w 232, 3) := by decide +kernel
theorem dL_scripts_225 : decode cL_scripts 225 = .ok (.ldc2_w 218, 3) := by decide +kernel
theorem dL_scripts_228 : decode cL_scripts 228 = .ok (.iload 4, 2) := by decide +kernel
theorem dL_scripts_230 : decode cL_scripts 230 = .ok (.i2l, 1) := by decide +kernel
theorem dL_scripts_231 : decode cL_scripts 231 = .ok (.lmul, 1) := by decide +kernel
theorem dL_scripts_232 : decode cL_scripts 232 = .ok (.ladd, 1) := by decide +kernel
theorem dL_scripts_233 : decode cL_scripts 233 = .ok (.invokestatic 190, 3) := by decide +kernel
theorem dL_scripts_236 : decode cL_scripts 236 = .ok (.iload 5, 2) := by decide +kernel
theorem dL_scripts_238 : decode cL_scripts 238 = .ok (.iconst 2, 1) := by decide +kernel
theorem dL_scripts_239 : decode cL_scripts 239 = .ok (.if_icmp .eq 9, 3) := by decide +kernel
theorem dL_scripts_242 : decode cL_scripts 242 = .ok (.iload 5, 2) := by decide +kernel
theorem dL_scripts_244 : decode cL_scripts 244 = .ok (.iconst 3, 1) := by decide +kernel
theorem dL_scripts_245 : decode cL_scripts 245 = .ok (.if_icmp .ne 8, 3) := by decide +kernel
theorem dL_scripts_248 : decode cL_scripts 248 = .ok (.bipush (-9), 2) := by decide +kernel
theorem dL_scripts_250 : decode cL_scripts 250 = .ok (.goto 4, 3) := by decide +kernel
theorem dL_scripts_253 : decode cL_scripts 253 = .ok (.iconst 0, 1) := by decide +kernel
theorem dL_scripts_254 : decode cL_scripts 254 = .ok (.if_icmp .ne 26, 3) := by decide +kernel
theorem dL_scripts_257 : decode cL_scripts 257 = .ok (.aload_n 0, 1) := by decide +kernel
theorem dL_scripts_258 : decode cL_scripts 258 = .ok (.iconst 1, 1) := by decide +kernel
theorem dL_scripts_259 : decode cL_scripts 259 = .ok (.ldc2_w 234, 3) := by decide +kernel
theorem dL_scripts_262 : decode cL_scripts 262 = .ok (.ldc2_w 218, 3) := by decide +kernel
theorem dL_scripts_265 : decode cL_scripts 265 = .ok (.iload 4, 2) := by decide +kernel
theorem dL_scripts_267 : decode cL_scripts 267 = .ok (.i2l, 1) := by decide +kernel
theorem dL_scripts_268 : decode cL_scripts 268 = .ok (.lmul, 1) := by decide +kernel
theorem dL_scripts_269 : decode cL_scripts 269 = .ok (.ladd, 1) := by decide +kernel
theorem dL_scripts_270 : decode cL_scripts 270 = .ok (.invokestatic 190, 3) := by decide +kernel
theorem dL_scripts_273 : decode cL_scripts 273 = .ok (.ifCond .ne 7, 3) := by decide +kernel
theorem dL_scripts_276 : decode cL_scripts 276 = .ok (.iconst 1, 1) := by decide +kernel
theorem dL_scripts_277 : decode cL_scripts 277 = .ok (.goto 4, 3) := by decide +kernel
theorem dL_scripts_280 : decode cL_scripts 280 = .ok (.iconst 0, 1) := by decide +kernel
theorem dL_scripts_281 : decode cL_scripts 281 = .ok (.istore 10, 2) := by decide +kernel
theorem dL_scripts_283 : decode cL_scripts 283 = .ok (.iload 10, 2) := by decide +kernel
theorem dL_scripts_285 : decode cL_scripts 285 = .ok (.ifCond .eq 182, 3) := by decide +kernel
theorem dL_scripts_288 : decode cL_scripts 288 = .ok (.aload_n 0, 1) := by decide +kernel
theorem dL_scripts_289 : decode cL_scripts 289 = .ok (.iconst 1, 1) := by decide +kernel
theorem dL_scripts_290 : decode cL_scripts 290 = .ok (.ldc2_w 236, 3) := by decide +kernel
theorem dL_scripts_293 : decode cL_scripts 293 = .ok (.invokestatic 190, 3) := by decide +kernel
theorem dL_scripts_296 : decode cL_scripts 296 = .ok (.ifCond .ne 171, 3) := by decide +kernel
theorem dL_scripts_299 : decode cL_scripts 299 = .ok (.aload_n 0, 1) := by decide +kernel
theorem dL_scripts_300 : decode cL_scripts 300 = .ok (.iconst 1, 1) := by decide +kernel
theorem dL_scripts_301 : decode cL_scripts 301 = .ok (.ldc2_w 238, 3) := by decide +kernel
theorem dL_scripts_304 : decode cL_scripts 304 = .ok (.invokestatic 190, 3) := by decide +kernel
theorem dL_scripts_307 : decode cL_scripts 307 = .ok (.ifCond .ne 160, 3) := by decide +kernel
theorem dL_scripts_310 : decode cL_scripts 310 = .ok (.aload_n 0, 1) := by decide +kernel
theorem dL_scripts_311 : decode cL_scripts 311 = .ok (.iconst 1, 1) := by decide +kernel
theorem dL_scripts_312 : decode cL_scripts 312 = .ok (.ldc2_w 230, 3) := by decide +kernel
theorem dL_scripts_315 : decode cL_scripts 315 = .ok (.ldc2_w 218, 3) := by decide +kernel
theorem dL_scripts_318 : decode cL_scripts 318 = .ok (.iload_n 3, 1) := by decide +kernel
theorem dL_scripts_319 : decode cL_scripts 319 = .ok (.i2l, 1) := by decide +kernel
theorem dL_scripts_320 : decode cL_scripts 320 = .ok (.lmul, 1) := by decide +kernel
theorem dL_scripts_321 : decode cL_scripts 321 = .ok (.ladd, 1) := by decide +kernel
theorem dL_scripts_322 : decode cL_scripts 322 = .ok (.invokestatic 190, 3) := by decide +kernel
theorem dL_scripts_325 : decode cL_scripts 325 = .ok (.ifCond .ne 142, 3) := by decide +kernel
theorem dL_scripts_328 : decode cL_scripts 328 = .ok (.aload_n 0, 1) := by decide +kernel
theorem dL_scripts_329 : decode cL_scripts 329 = .ok (.iconst 1, 1) := by decide +kernel
theorem dL_scripts_330 : decode cL_scripts 330 = .ok (.ldc2_w 240, 3) := by decide +kernel
theorem dL_scripts_333 : decode cL_scripts 333 = .ok (.invokestatic 190, 3) := by decide +kernel
theorem dL_scripts_336 : decode cL_scripts 336 = .ok (.ifCond .ne 131, 3) := by decide +kernel
theorem dL_scripts_339 : decode cL_scripts 339 = .ok (.aload_n 0, 1) := by decide +kernel
theorem dL_scripts_340 : decode cL_scripts 340 = .ok (.iconst 1, 1) := by decide +kernel
theorem dL_scripts_341 : decode cL_scripts 341 = .ok (.ldc2_w 242, 3) := by decide +kernel
theorem dL_scripts_344 : decode cL_scripts 344 = .ok (.invokestatic 190, 3) := by decide +kernel
theorem dL_scripts_347 : decode cL_scripts 347 = .ok (.ifCond .ne 120, 3) := by decide +kernel
theorem dL_scripts_350 : decode cL_scripts 350 = .ok (.aload_n 0, 1) := by decide +kernel
theorem dL_scripts_351 : decode cL_scripts 351 = .ok (.iconst 1, 1) := by decide +kernel
theorem dL_scripts_352 : decode cL_scripts 352 = .ok (.ldc2_w 244, 3) := by decide +kernel
theorem dL_scripts_355 : decode cL_scripts 355 = .ok (.ldc2_w 218, 3) := by decide +kernel
theorem dL_scripts_358 : decode cL_scripts 358 = .ok (.iload_n 2, 1) := by decide +kernel
theorem dL_scripts_359 : decode cL_scripts 359 = .ok (.i2l, 1) := by decide +kernel
theorem dL_scripts_360 : decode cL_scripts 360 = .ok (.lmul, 1) := by decide +kernel
theorem dL_scripts_361 : decode cL_scripts 361 = .ok (.ladd, 1) := by decide +kernel
theorem dL_scripts_362 : decode cL_scripts 362 = .ok (.invokestatic 190, 3) := by decide +kernel
theorem dL_scripts_365 : decode cL_scripts 365 = .ok (.ifCond .ne 102, 3) := by decide +kernel
theorem dL_scripts_368 : decode cL_scripts 368 = .ok (.aload_n 0, 1) := by decide +kernel
theorem dL_scripts_369 : decode cL_scripts 369 = .ok (.iconst 1, 1) := by decide +kernel
theorem dL_scripts_370 : decode cL_scripts 370 = .ok (.ldc2_w 246, 3) := by decide +kernel
theorem dL_scripts_373 : decode cL_scripts 373 = .ok (.invokestatic 190, 3) := by decide +kernel
theorem dL_scripts_376 : decode cL_scripts 376 = .ok (.ifCond .ne 91, 3) := by decide +kernel
theorem dL_scripts_379 : decode cL_scripts 379 = .ok (.aload_n 0, 1) := by decide +kernel
theorem dL_scripts_380 : decode cL_scripts 380 = .ok (.iconst 1, 1) := by decide +kernel
theorem dL_scripts_381 : decode cL_scripts 381 = .ok (.ldc2_w 248, 3) := by decide +kernel
theorem dL_scripts_384 : decode cL_scripts 384 = .ok (.invokestatic 190, 3) := by decide +kernel
theorem dL_scripts_387 : decode cL_scripts 387 = .ok (.bipush (-9), 2) := by decide +kernel
theorem dL_scripts_389 : decode cL_scripts 389 = .ok (.if_icmp .ne 78, 3) := by decide +kernel
theorem dL_scripts_392 : decode cL_scripts 392 = .ok (.aload_n 0, 1) := by decide +kernel
theorem dL_scripts_393 : decode cL_scripts 393 = .ok (.iconst 1, 1) := by decide +kernel
theorem dL_scripts_394 : decode cL_scripts 394 = .ok (.ldc2_w 250, 3) := by decide +kernel
theorem dL_scripts_397 : decode cL_scripts 397 = .ok (.invokestatic 190, 3) := by decide +kernel
theorem dL_scripts_400 : decode cL_scripts 400 = .ok (.ifCond .ne 67, 3) := by decide +kernel
theorem dL_scripts_403 : decode cL_scripts 403 = .ok (.aload_n 0, 1) := by decide +kernel
theorem dL_scripts_404 : decode cL_scripts 404 = .ok (.iconst 1, 1) := by decide +kernel
theorem dL_scripts_405 : decode cL_scripts 405 = .ok (.lconst 0, 1) := by decide +kernel
theorem dL_scripts_406 : decode cL_scripts 406 = .ok (.invokestatic 190, 3) := by decide +kernel
theorem dL_scripts_409 : decode cL_scripts 409 = .ok (.ifCond .ne 58, 3) := by decide +kernel
theorem dL_scripts_412 : decode cL_scripts 412 = .ok (.iload 9, 2) := by decide +kernel
theorem dL_scripts_414 : decode cL_scripts 414 = .ok (.aload_n 0, 1) := by decide +kernel
theorem dL_scripts_415 : decode cL_scripts 415 = .ok (.iconst 5, 1) := by decide +kernel
theorem dL_scripts_416 : decode cL_scripts 416 = .ok (.invokestatic 129, 3) := by decide +kernel
theorem dL_scripts_419 : decode cL_scripts 419 = .ok (.bipush 20, 2) := by decide +kernel
theorem dL_scripts_421 : decode cL_scripts 421 = .ok (.iadd, 1) := by decide +kernel
theorem dL_scripts_422 : decode cL_scripts 422 = .ok (.if_icmp .lt 45, 3) := by decide +kernel
theorem dL_scripts_425 : decode cL_scripts 425 = .ok (.iload 9, 2) := by decide +kernel
theorem dL_scripts_427 : decode cL_scripts 427 = .ok (.sipush 1000, 3) := by decide +kernel
theorem dL_scripts_430 : decode cL_scripts 430 = .ok (.irem, 1) := by decide +kernel
theorem dL_scripts_431 : decode cL_scripts 431 = .ok (.aload_n 0, 1) := by decide +kernel
theorem dL_scripts_432 : decode cL_scripts 432 = .ok (.iconst 5, 1) := by decide +kernel
theorem dL_scripts_433 : decode cL_scripts 433 = .ok (.invokestatic 129, 3) := by decide +kernel
theorem dL_scripts_436 : decode cL_scripts 436 = .ok (.bipush 20, 2) := by decide +kernel
theorem dL_scripts_438 : decode cL_scripts 438 = .ok (.iadd, 1) := by decide +kernel
theorem dL_scripts_439 : decode cL_scripts 439 = .ok (.sipush 1000, 3) := by decide +kernel
theorem dL_scripts_442 : decode cL_scripts 442 = .ok (.irem, 1) := by decide +kernel
theorem dL_scripts_443 : decode cL_scripts 443 = .ok (.if_icmp .ne 24, 3) := by decide +kernel
theorem dL_scripts_446 : decode cL_scripts 446 = .ok (.iload 9, 2) := by decide +kernel
theorem dL_scripts_448 : decode cL_scripts 448 = .ok (.aload_n 0, 1) := by decide +kernel
theorem dL_scripts_449 : decode cL_scripts 449 = .ok (.iload_n 1, 1) := by decide +kernel
theorem dL_scripts_450 : decode cL_scripts 450 = .ok (.i2l, 1) := by decide +kernel
theorem dL_scripts_451 : decode cL_scripts 451 = .ok (.ldc2_w 214, 3) := by decide +kernel
theorem dL_scripts_454 : decode cL_scripts 454 = .ok (.lmul, 1) := by decide +kernel
theorem dL_scripts_455 : decode cL_scripts 455 = .ok (.bipush 20, 2) := by decide +kernel
theorem dL_scripts_457 : decode cL_scripts 457 = .ok (.invokestatic 196, 3) := by decide +kernel
theorem dL_scripts_460 : decode cL_scripts 460 = .ok (.if_icmp .ne 7, 3) := by decide +kernel
theorem dL_scripts_463 : decode cL_scripts 463 = .ok (.iconst 1, 1) := by decide +kernel
theorem dL_scripts_464 : decode cL_scripts 464 = .ok (.goto 4, 3) := by decide +kernel
theorem dL_scripts_467 : decode cL_scripts 467 = .ok (.iconst 0, 1) := by decide +kernel
theorem dL_scripts_468 : decode cL_scripts 468 = .ok (.ireturn, 1) := by decide +kernel
theorem dL_act_0 : decode cL_act 0 = .ok (.iload_n 2, 1) := by decide +kernel
theorem dL_act_1 : decode cL_act 1 = .ok (.aload_n 0, 1) := by decide +kernel
theorem dL_act_2 : decode cL_act 2 = .ok (.iconst 1, 1) := by decide +kernel
theorem dL_act_3 : decode cL_act 3 = .ok (.invokestatic 129, 3) := by decide +kernel
theorem dL_act_6 : decode cL_act 6 = .ok (.irem, 1) := by decide +kernel
theorem dL_act_7 : decode cL_act 7 = .ok (.istore_n 3, 1) := by decide +kernel
theorem dL_act_8 : decode cL_act 8 = .ok (.iload_n 1, 1) := by decide +kernel
theorem dL_act_9 : decode cL_act 9 = .ok (.bipush 16, 2) := by decide +kernel
theorem dL_act_11 : decode cL_act 11 = .ok (.irem, 1) := by decide +kernel
theorem dL_act_12 : decode cL_act 12 = .ok (.tableswitch 168 0 14 #[76, 76, 91, 91, 91, 97, 103, 124, 136, 152, 152, 152, 152, 152, 163], 76) := by decide +kernel
theorem dL_act_88 : decode cL_act 88 = .ok (.aload_n 0, 1) := by decide +kernel
theorem dL_act_89 : decode cL_act 89 = .ok (.iload_n 3, 1) := by decide +kernel
theorem dL_act_90 : decode cL_act 90 = .ok (.iconst 1, 1) := by decide +kernel
theorem dL_act_91 : decode cL_act 91 = .ok (.iload_n 2, 1) := by decide +kernel
theorem dL_act_92 : decode cL_act 92 = .ok (.iconst 4, 1) := by decide +kernel
theorem dL_act_93 : decode cL_act 93 = .ok (.idiv, 1) := by decide +kernel
theorem dL_act_94 : decode cL_act 94 = .ok (.sipush 140, 3) := by decide +kernel
theorem dL_act_97 : decode cL_act 97 = .ok (.irem, 1) := by decide +kernel
theorem dL_act_98 : decode cL_act 98 = .ok (.iadd, 1) := by decide +kernel
theorem dL_act_99 : decode cL_act 99 = .ok (.invokestatic 151, 3) := by decide +kernel
theorem dL_act_102 : decode cL_act 102 = .ok (.ireturn, 1) := by decide +kernel
theorem dL_act_103 : decode cL_act 103 = .ok (.aload_n 0, 1) := by decide +kernel
theorem dL_act_104 : decode cL_act 104 = .ok (.iload_n 3, 1) := by decide +kernel
theorem dL_act_105 : decode cL_act 105 = .ok (.invokestatic 154, 3) := by decide +kernel
theorem dL_act_108 : decode cL_act 108 = .ok (.ireturn, 1) := by decide +kernel
theorem dL_act_109 : decode cL_act 109 = .ok (.aload_n 0, 1) := by decide +kernel
theorem dL_act_110 : decode cL_act 110 = .ok (.iload_n 3, 1) := by decide +kernel
theorem dL_act_111 : decode cL_act 111 = .ok (.invokestatic 157, 3) := by decide +kernel
theorem dL_act_114 : decode cL_act 114 = .ok (.ireturn, 1) := by decide +kernel
theorem dL_act_115 : decode cL_act 115 = .ok (.aload_n 0, 1) := by decide +kernel
theorem dL_act_116 : decode cL_act 116 = .ok (.iload_n 2, 1) := by decide +kernel
theorem dL_act_117 : decode cL_act 117 = .ok (.aload_n 0, 1) := by decide +kernel
theorem dL_act_118 : decode cL_act 118 = .ok (.iconst 0, 1) := by decide +kernel
theorem dL_act_119 : decode cL_act 119 = .ok (.invokestatic 129, 3) := by decide +kernel
theorem dL_act_122 : decode cL_act 122 = .ok (.irem, 1) := by decide +kernel
theorem dL_act_123 : decode cL_act 123 = .ok (.iconst 1, 1) := by decide +kernel
theorem dL_act_124 : decode cL_act 124 = .ok (.iload_n 2, 1) := by decide +kernel
theorem dL_act_125 : decode cL_act 125 = .ok (.bipush 16, 2) := by decide +kernel
theorem dL_act_127 : decode cL_act 127 = .ok (.idiv, 1) := by decide +kernel
theorem dL_act_128 : decode cL_act 128 = .ok (.bipush 99, 2) := by decide +kernel
theorem dL_act_130 : decode cL_act 130 = .ok (.irem, 1) := by decide +kernel
theorem dL_act_131 : decode cL_act 131 = .ok (.iadd, 1) := by decide +kernel
theorem dL_act_132 : decode cL_act 132 = .ok (.invokestatic 160, 3) := by decide +kernel
theorem dL_act_135 : decode cL_act 135 = .ok (.ireturn, 1) := by decide +kernel
theorem dL_act_136 : decode cL_act 136 = .ok (.aload_n 0, 1) := by decide +kernel
theorem dL_act_137 : decode cL_act 137 = .ok (.iconst 1, 1) := by decide +kernel
theorem dL_act_138 : decode cL_act 138 = .ok (.iload_n 2, 1) := by decide +kernel
theorem dL_act_139 : decode cL_act 139 = .ok (.sipush 999, 3) := by decide +kernel
theorem dL_act_142 : decode cL_act 142 = .ok (.irem, 1) := by decide +kernel
theorem dL_act_143 : decode cL_act 143 = .ok (.iadd, 1) := by decide +kernel
theorem dL_act_144 : decode cL_act 144 = .ok (.invokestatic 163, 3) := by decide +kernel
theorem dL_act_147 : decode cL_act 147 = .ok (.ireturn, 1) := by decide +kernel
theorem dL_act_148 : decode cL_act 148 = .ok (.aload_n 0, 1) := by decide +kernel
theorem dL_act_149 : decode cL_act 149 = .ok (.iload_n 2, 1) := by decide +kernel
theorem dL_act_150 : decode cL_act 150 = .ok (.bipush 9, 2) := by decide +kernel
theorem dL_act_152 : decode cL_act 152 = .ok (.irem, 1) := by decide +kernel
theorem dL_act_153 : decode cL_act 153 = .ok (.iload_n 2, 1) := by decide +kernel
theorem dL_act_154 : decode cL_act 154 = .ok (.bipush 16, 2) := by decide +kernel
theorem dL_act_156 : decode cL_act 156 = .ok (.idiv, 1) := by decide +kernel
theorem dL_act_157 : decode cL_act 157 = .ok (.bipush 10, 2) := by decide +kernel
theorem dL_act_159 : decode cL_act 159 = .ok (.irem, 1) := by decide +kernel
theorem dL_act_160 : decode cL_act 160 = .ok (.invokestatic 166, 3) := by decide +kernel
theorem dL_act_163 : decode cL_act 163 = .ok (.ireturn, 1) := by decide +kernel
theorem dL_act_164 : decode cL_act 164 = .ok (.aload_n 0, 1) := by decide +kernel
theorem dL_act_165 : decode cL_act 165 = .ok (.iconst 1, 1) := by decide +kernel
theorem dL_act_166 : decode cL_act 166 = .ok (.iload_n 2, 1) := by decide +kernel
theorem dL_act_167 : decode cL_act 167 = .ok (.bipush 15, 2) := by decide +kernel
theorem dL_act_169 : decode cL_act 169 = .ok (.irem, 1) := by decide +kernel
theorem dL_act_170 : decode cL_act 170 = .ok (.iadd, 1) := by decide +kernel
theorem dL_act_171 : decode cL_act 171 = .ok (.invokestatic 169, 3) := by decide +kernel
theorem dL_act_174 : decode cL_act 174 = .ok (.ireturn, 1) := by decide +kernel
theorem dL_act_175 : decode cL_act 175 = .ok (.aload_n 0, 1) := by decide +kernel
theorem dL_act_176 : decode cL_act 176 = .ok (.invokestatic 139, 3) := by decide +kernel
theorem dL_act_179 : decode cL_act 179 = .ok (.ireturn, 1) := by decide +kernel
theorem dL_act_180 : decode cL_act 180 = .ok (.iload_n 2, 1) := by decide +kernel
theorem dL_act_181 : decode cL_act 181 = .ok (.iconst 2, 1) := by decide +kernel
theorem dL_act_182 : decode cL_act 182 = .ok (.irem, 1) := by decide +kernel
theorem dL_act_183 : decode cL_act 183 = .ok (.ifCond .ne 11, 3) := by decide +kernel
theorem dL_act_186 : decode cL_act 186 = .ok (.aload_n 0, 1) := by decide +kernel
theorem dL_act_187 : decode cL_act 187 = .ok (.iconst 1, 1) := by decide +kernel
theorem dL_act_188 : decode cL_act 188 = .ok (.invokestatic 200, 3) := by decide +kernel
theorem dL_act_191 : decode cL_act 191 = .ok (.goto 8, 3) := by decide +kernel
theorem dL_act_194 : decode cL_act 194 = .ok (.aload_n 0, 1) := by decide +kernel
theorem dL_act_195 : decode cL_act 195 = .ok (.iconst 1, 1) := by decide +kernel
theorem dL_act_196 : decode cL_act 196 = .ok (.invokestatic 142, 3) := by decide +kernel
theorem dL_act_199 : decode cL_act 199 = .ok (.ireturn, 1) := by decide +kernel
theorem dL_law_0 : decode cL_law 0 = .ok (.new 8, 3) := by decide +kernel
theorem dL_law_3 : decode cL_law 3 = .ok (.dup, 1) := by decide +kernel
theorem dL_law_4 : decode cL_law 4 = .ok (.invokespecial 252, 3) := by decide +kernel
theorem dL_law_7 : decode cL_law 7 = .ok (.astore_n 1, 1) := by decide +kernel
theorem dL_law_8 : decode cL_law 8 = .ok (.new 8, 3) := by decide +kernel
theorem dL_law_11 : decode cL_law 11 = .ok (.dup, 1) := by decide +kernel
theorem dL_law_12 : decode cL_law 12 = .ok (.invokespecial 252, 3) := by decide +kernel
theorem dL_law_15 : decode cL_law 15 = .ok (.astore_n 2, 1) := by decide +kernel
theorem dL_law_16 : decode cL_law 16 = .ok (.aload_n 1, 1) := by decide +kernel
theorem dL_law_17 : decode cL_law 17 = .ok (.invokevirtual 115, 3) := by decide +kernel
theorem dL_law_20 : decode cL_law 20 = .ok (.ifCond .ne 61, 3) := by decide +kernel
theorem dL_law_23 : decode cL_law 23 = .ok (.aload_n 1, 1) := by decide +kernel
theorem dL_law_24 : decode cL_law 24 = .ok (.iconst 4, 1) := by decide +kernel
theorem dL_law_25 : decode cL_law 25 = .ok (.invokestatic 129, 3) := by decide +kernel
theorem dL_law_28 : decode cL_law 28 = .ok (.sipush 200, 3) := by decide +kernel
theorem dL_law_31 : decode cL_law 31 = .ok (.if_icmp .ne 50, 3) := by decide +kernel
theorem dL_law_34 : decode cL_law 34 = .ok (.aload_n 1, 1) := by decide +kernel
theorem dL_law_35 : decode cL_law 35 = .ok (.iconst 0, 1) := by decide +kernel
theorem dL_law_36 : decode cL_law 36 = .ok (.iconst 4, 1) := by decide +kernel
theorem dL_law_37 : decode cL_law 37 = .ok (.invokestatic 145, 3) := by decide +kernel
theorem dL_law_40 : decode cL_law 40 = .ok (.bipush 50, 2) := by decide +kernel
theorem dL_law_42 : decode cL_law 42 = .ok (.if_icmp .ne 39, 3) := by decide +kernel
theorem dL_law_45 : decode cL_law 45 = .ok (.aload_n 1, 1) := by decide +kernel
theorem dL_law_46 : decode cL_law 46 = .ok (.invokestatic 139, 3) := by decide +kernel
theorem dL_law_49 : decode cL_law 49 = .ok (.sipush (-1003), 3) := by decide +kernel
theorem dL_law_52 : decode cL_law 52 = .ok (.if_icmp .ne 29, 3) := by decide +kernel
theorem dL_law_55 : decode cL_law 55 = .ok (.aload_n 2, 1) := by decide +kernel
theorem dL_law_56 : decode cL_law 56 = .ok (.invokestatic 253, 3) := by decide +kernel
theorem dL_law_59 : decode cL_law 59 = .ok (.ifCond .eq 22, 3) := by decide +kernel
theorem dL_law_62 : decode cL_law 62 = .ok (.aload_n 1, 1) := by decide +kernel
theorem dL_law_63 : decode cL_law 63 = .ok (.aload_n 2, 1) := by decide +kernel
theorem dL_law_64 : decode cL_law 64 = .ok (.invokestatic 256, 3) := by decide +kernel
theorem dL_law_67 : decode cL_law 67 = .ok (.ifCond .eq 14, 3) := by decide +kernel
theorem dL_law_70 : decode cL_law 70 = .ok (.aload_n 1, 1) := by decide +kernel
theorem dL_law_71 : decode cL_law 71 = .ok (.invokestatic 203, 3) := by decide +kernel
theorem dL_law_74 : decode cL_law 74 = .ok (.ifCond .eq 7, 3) := by decide +kernel
theorem dL_law_77 : decode cL_law 77 = .ok (.iconst 1, 1) := by decide +kernel
theorem dL_law_78 : decode cL_law 78 = .ok (.goto 4, 3) := by decide +kernel
theorem dL_law_81 : decode cL_law 81 = .ok (.iconst 0, 1) := by decide +kernel
theorem dL_law_82 : decode cL_law 82 = .ok (.istore_n 3, 1) := by decide +kernel
theorem dL_law_83 : decode cL_law 83 = .ok (.iconst 0, 1) := by decide +kernel
theorem dL_law_84 : decode cL_law 84 = .ok (.istore 4, 2) := by decide +kernel
theorem dL_law_86 : decode cL_law 86 = .ok (.iload 4, 2) := by decide +kernel
theorem dL_law_88 : decode cL_law 88 = .ok (.iconst 2, 1) := by decide +kernel
theorem dL_law_89 : decode cL_law 89 = .ok (.if_icmp .ge 280, 3) := by decide +kernel
theorem dL_law_92 : decode cL_law 92 = .ok (.iload_n 3, 1) := by decide +kernel
theorem dL_law_93 : decode cL_law 93 = .ok (.ifCond .eq 276, 3) := by decide +kernel
theorem dL_law_96 : decode cL_law 96 = .ok (.aload_n 1, 1) := by decide +kernel
theorem dL_law_97 : decode cL_law 97 = .ok (.aload_n 2, 1) := by decide +kernel
theorem dL_law_98 : decode cL_law 98 = .ok (.aload_n 0, 1) := by decide +kernel
theorem dL_law_99 : decode cL_law 99 = .ok (.bipush 40, 2) := by decide +kernel
theorem dL_law_101 : decode cL_law 101 = .ok (.iload 4, 2) := by decide +kernel
theorem dL_law_103 : decode cL_law 103 = .ok (.imul, 1) := by decide +kernel
theorem dL_law_104 : decode cL_law 104 = .ok (.invokestatic 260, 3) := by decide +kernel
theorem dL_law_107 : decode cL_law 107 = .ok (.ifCond .eq 29, 3) := by decide +kernel
theorem dL_law_110 : decode cL_law 110 = .ok (.aload_n 2, 1) := by decide +kernel
theorem dL_law_111 : decode cL_law 111 = .ok (.invokestatic 253, 3) := by decide +kernel
theorem dL_law_114 : decode cL_law 114 = .ok (.ifCond .eq 22, 3) := by decide +kernel
theorem dL_law_117 : decode cL_law 117 = .ok (.aload_n 1, 1) := by decide +kernel
theorem dL_law_118 : decode cL_law 118 = .ok (.aload_n 2, 1) := by decide +kernel
theorem dL_law_119 : decode cL_law 119 = .ok (.invokestatic 256, 3) := by decide +kernel
theorem dL_law_122 : decode cL_law 122 = .ok (.ifCond .eq 14, 3) := by decide +kernel
theorem dL_law_125 : decode cL_law 125 = .ok (.aload_n 1, 1) := by decide +kernel
theorem dL_law_126 : decode cL_law 126 = .ok (.invokestatic 203, 3) := by decide +kernel
theorem dL_law_129 : decode cL_law 129 = .ok (.ifCond .eq 7, 3) := by decide +kernel
theorem dL_law_132 : decode cL_law 132 = .ok (.iconst 1, 1) := by decide +kernel
theorem dL_law_133 : decode cL_law 133 = .ok (.goto 4, 3) := by decide +kernel
theorem dL_law_136 : decode cL_law 136 = .ok (.iconst 0, 1) := by decide +kernel
theorem dL_law_137 : decode cL_law 137 = .ok (.istore_n 3, 1) := by decide +kernel
theorem dL_law_138 : decode cL_law 138 = .ok (.iconst 0, 1) := by decide +kernel
theorem dL_law_139 : decode cL_law 139 = .ok (.istore 5, 2) := by decide +kernel
theorem dL_law_141 : decode cL_law 141 = .ok (.iload 5, 2) := by decide +kernel
theorem dL_law_143 : decode cL_law 143 = .ok (.bipush 12, 2) := by decide +kernel
theorem dL_law_145 : decode cL_law 145 = .ok (.if_icmp .ge 218, 3) := by decide +kernel
theorem dL_law_148 : decode cL_law 148 = .ok (.iload_n 3, 1) := by decide +kernel
theorem dL_law_149 : decode cL_law 149 = .ok (.ifCond .eq 214, 3) := by decide +kernel
theorem dL_law_152 : decode cL_law 152 = .ok (.aload_n 0, 1) := by decide +kernel
theorem dL_law_153 : decode cL_law 153 = .ok (.bipush 40, 2) := by decide +kernel
theorem dL_law_155 : decode cL_law 155 = .ok (.iload 4, 2) := by decide +kernel
theorem dL_law_157 : decode cL_law 157 = .ok (.imul, 1) := by decide +kernel
theorem dL_law_158 : decode cL_law 158 = .ok (.bipush 11, 2) := by decide +kernel
theorem dL_law_160 : decode cL_law 160 = .ok (.iadd, 1) := by decide +kernel
theorem dL_law_161 : decode cL_law 161 = .ok (.iconst 2, 1) := by decide +kernel
theorem dL_law_162 : decode cL_law 162 = .ok (.iload 5, 2) := by decide +kernel
theorem dL_law_164 : decode cL_law 164 = .ok (.imul, 1) := by decide +kernel
theorem dL_law_165 : decode cL_law 165 = .ok (.iadd, 1) := by decide +kernel
theorem dL_law_166 : decode cL_law 166 = .ok (.invokestatic 107, 3) := by decide +kernel
theorem dL_law_169 : decode cL_law 169 = .ok (.istore 6, 2) := by decide +kernel
theorem dL_law_171 : decode cL_law 171 = .ok (.aload_n 0, 1) := by decide +kernel
theorem dL_law_172 : decode cL_law 172 = .ok (.bipush 40, 2) := by decide +kernel
theorem dL_law_174 : decode cL_law 174 = .ok (.iload 4, 2) := by decide +kernel
theorem dL_law_176 : decode cL_law 176 = .ok (.imul, 1) := by decide +kernel
theorem dL_law_177 : decode cL_law 177 = .ok (.bipush 12, 2) := by decide +kernel
theorem dL_law_179 : decode cL_law 179 = .ok (.iadd, 1) := by decide +kernel
theorem dL_law_180 : decode cL_law 180 = .ok (.iconst 2, 1) := by decide +kernel
theorem dL_law_181 : decode cL_law 181 = .ok (.iload 5, 2) := by decide +kernel
theorem dL_law_183 : decode cL_law 183 = .ok (.imul, 1) := by decide +kernel
theorem dL_law_184 : decode cL_law 184 = .ok (.iadd, 1) := by decide +kernel
theorem dL_law_185 : decode cL_law 185 = .ok (.invokestatic 107, 3) := by decide +kernel
theorem dL_law_188 : decode cL_law 188 = .ok (.istore 7, 2) := by decide +kernel
theorem dL_law_190 : decode cL_law 190 = .ok (.aload_n 1, 1) := by decide +kernel
theorem dL_law_191 : decode cL_law 191 = .ok (.iload 6, 2) := by decide +kernel
theorem dL_law_193 : decode cL_law 193 = .ok (.iload 7, 2) := by decide +kernel
theorem dL_law_195 : decode cL_law 195 = .ok (.invokestatic 264, 3) := by decide +kernel
theorem dL_law_198 : decode cL_law 198 = .ok (.aload_n 2, 1) := by decide +kernel
theorem dL_law_199 : decode cL_law 199 = .ok (.iload 6, 2) := by decide +kernel
theorem dL_law_201 : decode cL_law 201 = .ok (.iload 7, 2) := by decide +kernel
theorem dL_law_203 : decode cL_law 203 = .ok (.invokestatic 264, 3) := by decide +kernel
theorem dL_law_206 : decode cL_law 206 = .ok (.if_icmp .ne 29, 3) := by decide +kernel
theorem dL_law_209 : decode cL_law 209 = .ok (.aload_n 2, 1) := by decide +kernel
theorem dL_law_210 : decode cL_law 210 = .ok (.invokestatic 253, 3) := by decide +kernel
theorem dL_law_213 : decode cL_law 213 = .ok (.ifCond .eq 22, 3) := by decide +kernel
theorem dL_law_216 : decode cL_law 216 = .ok (.aload_n 1, 1) := by decide +kernel
theorem dL_law_217 : decode cL_law 217 = .ok (.aload_n 2, 1) := by decide +kernel
theorem dL_law_218 : decode cL_law 218 = .ok (.invokestatic 256, 3) := by decide +kernel
theorem dL_law_221 : decode cL_law 221 = .ok (.ifCond .eq 14, 3) := by decide +kernel
theorem dL_law_224 : decode cL_law 224 = .ok (.aload_n 1, 1) := by decide +kernel
theorem dL_law_225 : decode cL_law 225 = .ok (.invokestatic 203, 3) := by decide +kernel
theorem dL_law_228 : decode cL_law 228 = .ok (.ifCond .eq 7, 3) := by decide +kernel
theorem dL_law_231 : decode cL_law 231 = .ok (.iconst 1, 1) := by decide +kernel
theorem dL_law_232 : decode cL_law 232 = .ok (.goto 4, 3) := by decide +kernel
theorem dL_law_235 : decode cL_law 235 = .ok (.iconst 0, 1) := by decide +kernel
theorem dL_law_236 : decode cL_law 236 = .ok (.istore_n 3, 1) := by decide +kernel
theorem dL_law_237 : decode cL_law 237 = .ok (.iload 5, 2) := by decide +kernel
theorem dL_law_239 : decode cL_law 239 = .ok (.iconst 4, 1) := by decide +kernel
theorem dL_law_240 : decode cL_law 240 = .ok (.irem, 1) := by decide +kernel
theorem dL_law_241 : decode cL_law 241 = .ok (.iconst 3, 1) := by decide +kernel
theorem dL_law_242 : decode cL_law 242 = .ok (.if_icmp .ne 115, 3) := by decide +kernel
theorem dL_law_245 : decode cL_law 245 = .ok (.iload_n 3, 1) := by decide +kernel
theorem dL_law_246 : decode cL_law 246 = .ok (.ifCond .eq 111, 3) := by decide +kernel
theorem dL_law_249 : decode cL_law 249 = .ok (.aload_n 1, 1) := by decide +kernel
theorem dL_law_250 : decode cL_law 250 = .ok (.iconst 5, 1) := by decide +kernel
theorem dL_law_251 : decode cL_law 251 = .ok (.invokestatic 129, 3) := by decide +kernel
theorem dL_law_254 : decode cL_law 254 = .ok (.istore 8, 2) := by decide +kernel
theorem dL_law_256 : decode cL_law 256 = .ok (.aload_n 1, 1) := by decide +kernel
theorem dL_law_257 : decode cL_law 257 = .ok (.iload 6, 2) := by decide +kernel
theorem dL_law_259 : decode cL_law 259 = .ok (.invokestatic 267, 3) := by decide +kernel
theorem dL_law_262 : decode cL_law 262 = .ok (.ifCond .eq 93, 3) := by decide +kernel
theorem dL_law_265 : decode cL_law 265 = .ok (.aload_n 2, 1) := by decide +kernel
theorem dL_law_266 : decode cL_law 266 = .ok (.iconst 0, 1) := by decide +kernel
theorem dL_law_267 : decode cL_law 267 = .ok (.invokestatic 200, 3) := by decide +kernel
theorem dL_law_270 : decode cL_law 270 = .ok (.iload 8, 2) := by decide +kernel
theorem dL_law_272 : decode cL_law 272 = .ok (.if_icmp .ne 83, 3) := by decide +kernel
theorem dL_law_275 : decode cL_law 275 = .ok (.aload_n 1, 1) := by decide +kernel
theorem dL_law_276 : decode cL_law 276 = .ok (.iconst 0, 1) := by decide +kernel
theorem dL_law_277 : decode cL_law 277 = .ok (.invokestatic 200, 3) := by decide +kernel
theorem dL_law_280 : decode cL_law 280 = .ok (.iload 8, 2) := by decide +kernel
theorem dL_law_282 : decode cL_law 282 = .ok (.if_icmp .ne 73, 3) := by decide +kernel
theorem dL_law_285 : decode cL_law 285 = .ok (.aload_n 1, 1) := by decide +kernel
theorem dL_law_286 : decode cL_law 286 = .ok (.iconst 0, 1) := by decide +kernel
theorem dL_law_287 : decode cL_law 287 = .ok (.invokestatic 142, 3) := by decide +kernel
theorem dL_law_290 : decode cL_law 290 = .ok (.iload 8, 2) := by decide +kernel
theorem dL_law_292 : decode cL_law 292 = .ok (.if_icmp .ne 63, 3) := by decide +kernel
theorem dL_law_295 : decode cL_law 295 = .ok (.aload_n 1, 1) := by decide +kernel
theorem dL_law_296 : decode cL_law 296 = .ok (.iload 7, 2) := by decide +kernel
theorem dL_law_298 : decode cL_law 298 = .ok (.invokestatic 271, 3) := by decide +kernel
theorem dL_law_301 : decode cL_law 301 = .ok (.ifCond .eq 54, 3) := by decide +kernel
theorem dL_law_304 : decode cL_law 304 = .ok (.aload_n 1, 1) := by decide +kernel
theorem dL_law_305 : decode cL_law 305 = .ok (.iload 7, 2) := by decide +kernel
theorem dL_law_307 : decode cL_law 307 = .ok (.invokestatic 274, 3) := by decide +kernel
theorem dL_law_310 : decode cL_law 310 = .ok (.ifCond .eq 45, 3) := by decide +kernel
theorem dL_law_313 : decode cL_law 313 = .ok (.aload_n 1, 1) := by decide +kernel
theorem dL_law_314 : decode cL_law 314 = .ok (.iconst 0, 1) := by decide +kernel
theorem dL_law_315 : decode cL_law 315 = .ok (.invokestatic 142, 3) := by decide +kernel
theorem dL_law_318 : decode cL_law 318 = .ok (.iload 8, 2) := by decide +kernel
theorem dL_law_320 : decode cL_law 320 = .ok (.if_icmp .ne 35, 3) := by decide +kernel
theorem dL_law_323 : decode cL_law 323 = .ok (.aload_n 2, 1) := by decide +kernel
theorem dL_law_324 : decode cL_law 324 = .ok (.iconst 0, 1) := by decide +kernel
theorem dL_law_325 : decode cL_law 325 = .ok (.invokestatic 142, 3) := by decide +kernel
theorem dL_law_328 : decode cL_law 328 = .ok (.iload 8, 2) := by decide +kernel
theorem dL_law_330 : decode cL_law 330 = .ok (.if_icmp .ne 25, 3) := by decide +kernel
theorem dL_law_333 : decode cL_law 333 = .ok (.aload_n 1, 1) := by decide +kernel
theorem dL_law_334 : decode cL_law 334 = .ok (.invokestatic 139, 3) := by decide +kernel
theorem dL_law_337 : decode cL_law 337 = .ok (.sipush (-1003), 3) := by decide +kernel
theorem dL_law_340 : decode cL_law 340 = .ok (.if_icmp .ne 15, 3) := by decide +kernel
theorem dL_law_343 : decode cL_law 343 = .ok (.aload_n 1, 1) := by decide +kernel
theorem dL_law_344 : decode cL_law 344 = .ok (.aload_n 2, 1) := by decide +kernel
theorem dL_law_345 : decode cL_law 345 = .ok (.invokestatic 256, 3) := by decide +kernel
theorem dL_law_348 : decode cL_law 348 = .ok (.ifCond .eq 7, 3) := by decide +kernel
theorem dL_law_351 : decode cL_law 351 = .ok (.iconst 1, 1) := by decide +kernel
theorem dL_law_352 : decode cL_law 352 = .ok (.goto 4, 3) := by decide +kernel
theorem dL_law_355 : decode cL_law 355 = .ok (.iconst 0, 1) := by decide +kernel
theorem dL_law_356 : decode cL_law 356 = .ok (.istore_n 3, 1) := by decide +kernel
theorem dL_law_357 : decode cL_law 357 = .ok (.iinc 5 1, 3) := by decide +kernel
theorem dL_law_360 : decode cL_law 360 = .ok (.goto (-219), 3) := by decide +kernel
theorem dL_law_363 : decode cL_law 363 = .ok (.iinc 4 1, 3) := by decide +kernel
theorem dL_law_366 : decode cL_law 366 = .ok (.goto (-280), 3) := by decide +kernel
theorem dL_law_369 : decode cL_law 369 = .ok (.iload_n 3, 1) := by decide +kernel
theorem dL_law_370 : decode cL_law 370 = .ok (.ireturn, 1) := by decide +kernel
end
section
/-! ===== my own judgement over the kit's W: a memory of ints by address and place, a skeleton of kinds and references ===== -/
def zw (w : Cond) : Bool := goodWord w || (match w with | .methodLinkNest .. => true | .castable .. => true | .declares _ => true | .arrayOver (.object _) => true | _ => false)
theorem zw_at {args a' : Array Value} {s U : State} {w : Cond} (hW : s.WarmedH U.vm) (hg : zw w = true) (h : w.before args s = true) : w.before a' U = true := by
  by_cases g : goodWord w = true
  · exact word_at hW (good_of_word g) h
  · unfold zw at hg
    rw [Bool.or_eq_true] at hg
    rcases hg with hg | hg
    · exact absurd hg g
    · split at hg
      · exact va_Nw.use rfl (va_Nw.warmM hW (va_Nw.of rfl h))
      · exact va_Nw.use rfl (va_Nw.warmC hW (va_Nw.of rfl h))
      · exact va_Nw.use rfl (va_Nw.warmD hW (va_Nw.of rfl h))
      · exact va_AO.use (va_AO.moved hW.alike (va_AO.of h))
      · cases hg
def zWs : List Cond := lw_tbl.filter zw
theorem zq (w : Cond) (i : Nat) (h : lw_tbl[i]? = some w) (hz : zw w = true) : w ∈ zWs := List.mem_filter.mpr ⟨List.mem_of_getElem? h, hz⟩

def zci (own : String) (index : Nat) (y : MethodName) (b : ByteArray) (maxL : Nat) : Prop :=
  Cond.code y b maxL none ∈ zWs ∧ Cond.initialized y.cls ∈ zWs ∧ (y.cls ≠ "java/lang/invoke/MethodHandle" ∧ y.cls ≠ "java/lang/invoke/VarHandle") ∧ (parseMethodDescriptor y.desc).map (fun d => d.parameters.length) = some 0 ∧ (Cond.methodLink own index y ∈ zWs ∨ ∃ host, Cond.methodLinkNest own index y host ∈ zWs) ∧ Cond.instanceMethod y ∈ zWs ∧ y.name = "<init>"
/-- what a call's site needs of the tables -/
def zcv (own : String) (index : Nat) (C : String) (y : MethodName) (b : ByteArray) (maxL : Nat) (ret : Option FieldType) (n : Nat) : Prop :=
  Cond.code y b maxL ret ∈ zWs ∧ Cond.initialized y.cls ∈ zWs ∧ (y.cls ≠ "java/lang/invoke/MethodHandle" ∧ y.cls ≠ "java/lang/invoke/VarHandle") ∧ (parseMethodDescriptor y.desc).map (fun d => d.parameters.length) = some n ∧ Cond.methodLink own index y ∈ zWs ∧ Cond.instanceMethod y ∈ zWs ∧ Cond.selects C y y ∈ zWs
def zcsW (own : String) (index : Nat) (y : MethodName) (b : ByteArray) (maxL : Nat) (ret : Option FieldType) (hh : List (Nat × Nat × Nat × Nat)) (n : Nat) : Prop :=
  Cond.codeWith y b maxL ret hh ∈ zWs ∧ Cond.initialized y.cls ∈ zWs ∧ (y.cls ≠ "java/lang/invoke/MethodHandle" ∧ y.cls ≠ "java/lang/invoke/VarHandle") ∧ (parseMethodDescriptor y.desc).map (fun d => d.parameters.length) = some n ∧ Cond.methodLink own index y ∈ zWs ∧ Cond.static y ∈ zWs
def zcs (own : String) (index : Nat) (y : MethodName) (b : ByteArray) (maxL : Nat) (ret : Option FieldType) (n : Nat) : Prop :=
  Cond.code y b maxL ret ∈ zWs ∧ Cond.initialized y.cls ∈ zWs ∧ (y.cls ≠ "java/lang/invoke/MethodHandle" ∧ y.cls ≠ "java/lang/invoke/VarHandle") ∧ (parseMethodDescriptor y.desc).map (fun d => d.parameters.length) = some n ∧ Cond.methodLink own index y ∈ zWs ∧ Cond.static y ∈ zWs
def zex (e : Nat) : String := match e with | 1 => "java/lang/IllegalArgumentException" | 2 => "java/lang/IllegalStateException" | _ => "java/lang/IndexOutOfBoundsException"
def zNames : List String := ["java/lang/RuntimeException", "java/lang/Exception"]

theorem zall {l : List Cond} (h : l.all (fun w => decide (w ∈ lw_tbl) && zw w) = true) : ∀ w ∈ l, w ∈ zWs := fun w hw => by
  have h := List.all_eq_true.mp h w hw
  rw [Bool.and_eq_true] at h
  exact List.mem_filter.mpr ⟨of_decide_eq_true h.1, h.2⟩
theorem zall2 {l : List Cond} (h : l.all vx_ot = true) : ∀ w ∈ l, vx_ot w = true := fun w hw => List.all_eq_true.mp h w hw
end
section
theorem qw_0 : Cond.fieldLink RX0 16 (TX0 1).1 (TX0 1).2.1 (TX0 1).2.2.1 ∈ zWs := zq _ 298 (by decide +kernel) (by decide +kernel)
theorem qw_1 : Cond.fieldLink RX0 20 (TX0 2).1 (TX0 2).2.1 (TX0 2).2.2.1 ∈ zWs := zq _ 299 (by decide +kernel) (by decide +kernel)
theorem qw_2 : Cond.fieldLink RX0 11 (TX0 0).1 (TX0 0).2.1 (TX0 0).2.2.1 ∈ zWs := zq _ 297 (by decide +kernel) (by decide +kernel)
theorem qw_3 : Cond.fieldLink RX9 7 (TX9 0).1 (TX9 0).2.1 (TX9 0).2.2.1 ∈ zWs := zq _ 170 (by decide +kernel) (by decide +kernel)
theorem qw_4 : Cond.fieldLink RX9 13 (TX9 1).1 (TX9 1).2.1 (TX9 1).2.2.1 ∈ zWs := zq _ 173 (by decide +kernel) (by decide +kernel)
theorem qw_5 : Cond.fieldLink RX9 16 (TX9 2).1 (TX9 2).2.1 (TX9 2).2.2.1 ∈ zWs := zq _ 176 (by decide +kernel) (by decide +kernel)
theorem qw_6 : Cond.fieldLink RX9 19 (TX9 3).1 (TX9 3).2.1 (TX9 3).2.2.1 ∈ zWs := zq _ 179 (by decide +kernel) (by decide +kernel)
theorem qw_7 : Cond.fieldLink RX3 7 (TX3 0).1 (TX3 0).2.1 (TX3 0).2.2.1 ∈ zWs := zq _ 196 (by decide +kernel) (by decide +kernel)
theorem qw_8 : Cond.fieldLink RX3 13 (TX3 1).1 (TX3 1).2.1 (TX3 1).2.2.1 ∈ zWs := zq _ 199 (by decide +kernel) (by decide +kernel)
theorem qw_9 : Cond.fieldLink RX3 16 (TX3 2).1 (TX3 2).2.1 (TX3 2).2.2.1 ∈ zWs := zq _ 202 (by decide +kernel) (by decide +kernel)
theorem qw_10 : Cond.fieldLink RX3 19 (TX3 3).1 (TX3 3).2.1 (TX3 3).2.2.1 ∈ zWs := zq _ 205 (by decide +kernel) (by decide +kernel)
theorem qw_11 : Cond.fieldLink RX3 22 (TX3 4).1 (TX3 4).2.1 (TX3 4).2.2.1 ∈ zWs := zq _ 208 (by decide +kernel) (by decide +kernel)
theorem qw_12 : Cond.fieldLink RX3 25 (TX3 5).1 (TX3 5).2.1 (TX3 5).2.2.1 ∈ zWs := zq _ 211 (by decide +kernel) (by decide +kernel)
theorem qw_13 : Cond.fieldLink RX3 28 (TX3 6).1 (TX3 6).2.1 (TX3 6).2.2.1 ∈ zWs := zq _ 215 (by decide +kernel) (by decide +kernel)
theorem qw_14 : Cond.fieldLink RX3 31 (TX3 7).1 (TX3 7).2.1 (TX3 7).2.2.1 ∈ zWs := zq _ 217 (by decide +kernel) (by decide +kernel)
theorem qw_15 : Cond.fieldLink RX8 11 (TX8 1).1 (TX8 1).2.1 (TX8 1).2.2.1 ∈ zWs := zq _ 83 (by decide +kernel) (by decide +kernel)
theorem qw_16 : Cond.fieldLink RX8 15 (TX8 0).1 (TX8 0).2.1 (TX8 0).2.2.1 ∈ zWs := zq _ 80 (by decide +kernel) (by decide +kernel)
theorem qw_17 : Cond.fieldLink RX6 25 (TX6 3).1 (TX6 3).2.1 (TX6 3).2.2.1 ∈ zWs := zq _ 101 (by decide +kernel) (by decide +kernel)
theorem qw_18 : Cond.fieldLink RX6 15 (TX6 4).1 (TX6 4).2.1 (TX6 4).2.2.1 ∈ zWs := zq _ 103 (by decide +kernel) (by decide +kernel)
theorem qw_19 : Cond.fieldLink RX6 29 (TX6 5).1 (TX6 5).2.1 (TX6 5).2.2.1 ∈ zWs := zq _ 104 (by decide +kernel) (by decide +kernel)
theorem qw_20 : Cond.fieldLink RX6 32 (TX6 6).1 (TX6 6).2.1 (TX6 6).2.2.1 ∈ zWs := zq _ 106 (by decide +kernel) (by decide +kernel)
theorem qw_21 : Cond.fieldLink RX6 11 (TX6 2).1 (TX6 2).2.1 (TX6 2).2.2.1 ∈ zWs := zq _ 100 (by decide +kernel) (by decide +kernel)
theorem qw_22 : Cond.fieldLink RX6 19 (TX6 0).1 (TX6 0).2.1 (TX6 0).2.2.1 ∈ zWs := zq _ 96 (by decide +kernel) (by decide +kernel)
theorem qw_23 : Cond.fieldLink RX6 22 (TX6 1).1 (TX6 1).2.1 (TX6 1).2.2.1 ∈ zWs := zq _ 98 (by decide +kernel) (by decide +kernel)
theorem qw_24 : Cond.fieldLink RX1 7 (TX1 0).1 (TX1 0).2.1 (TX1 0).2.2.1 ∈ zWs := zq _ 129 (by decide +kernel) (by decide +kernel)
theorem qw_25 : Cond.fieldLink RX1 13 (TX1 1).1 (TX1 1).2.1 (TX1 1).2.2.1 ∈ zWs := zq _ 132 (by decide +kernel) (by decide +kernel)
theorem qw_26 : Cond.fieldLink RX1 16 (TX1 2).1 (TX1 2).2.1 (TX1 2).2.2.1 ∈ zWs := zq _ 135 (by decide +kernel) (by decide +kernel)
theorem qw_27 : Cond.fieldLink RX1 19 (TX1 3).1 (TX1 3).2.1 (TX1 3).2.2.1 ∈ zWs := zq _ 138 (by decide +kernel) (by decide +kernel)
theorem qw_28 : Cond.fieldLink RX1 22 (TX1 4).1 (TX1 4).2.1 (TX1 4).2.2.1 ∈ zWs := zq _ 141 (by decide +kernel) (by decide +kernel)
theorem qw_29 : Cond.fieldLink RX1 25 (TX1 5).1 (TX1 5).2.1 (TX1 5).2.2.1 ∈ zWs := zq _ 144 (by decide +kernel) (by decide +kernel)
theorem qw_30 : Cond.fieldLink RX1 28 (TX1 6).1 (TX1 6).2.1 (TX1 6).2.2.1 ∈ zWs := zq _ 147 (by decide +kernel) (by decide +kernel)
theorem qw_31 : Cond.fieldLink RX5 26 (TX5 2).1 (TX5 2).2.1 (TX5 2).2.2.1 ∈ zWs := zq _ 239 (by decide +kernel) (by decide +kernel)
theorem qw_32 : Cond.code yX8_copyFrom cX8_copyFrom 3 (Option.none : Option Jvm.ClassFile.FieldType) ∈ zWs := zq _ 595 (by decide +kernel) (by decide +kernel)
theorem qw_33 : Cond.initialized RX8 ∈ zWs := zq _ 21 (by decide +kernel) (by decide +kernel)
theorem qw_34 : Cond.methodLink RX5 101 yX8_copyFrom ∈ zWs := zq _ 592 (by decide +kernel) (by decide +kernel)
theorem qw_35 : Cond.instanceMethod yX8_copyFrom ∈ zWs := zq _ 593 (by decide +kernel) (by decide +kernel)
theorem qw_36 : Cond.selects RX8 yX8_copyFrom yX8_copyFrom ∈ zWs := zq _ 594 (by decide +kernel) (by decide +kernel)
theorem vs_0 : zcv RX5 101 RX8 yX8_copyFrom cX8_copyFrom 3 (Option.none : Option Jvm.ClassFile.FieldType) 1 := ⟨qw_32, qw_33, (by decide +kernel), (by decide +kernel), qw_34, qw_35, qw_36⟩
theorem qw_37 : Cond.fieldLink RX5 33 (TX5 3).1 (TX5 3).2.1 (TX5 3).2.2.1 ∈ zWs := zq _ 242 (by decide +kernel) (by decide +kernel)
theorem qw_38 : Cond.code yX6_copyFrom cX6_copyFrom 3 (Option.none : Option Jvm.ClassFile.FieldType) ∈ zWs := zq _ 599 (by decide +kernel) (by decide +kernel)
theorem qw_39 : Cond.initialized RX6 ∈ zWs := zq _ 22 (by decide +kernel) (by decide +kernel)
theorem qw_40 : Cond.methodLink RX5 104 yX6_copyFrom ∈ zWs := zq _ 596 (by decide +kernel) (by decide +kernel)
theorem qw_41 : Cond.instanceMethod yX6_copyFrom ∈ zWs := zq _ 597 (by decide +kernel) (by decide +kernel)
theorem qw_42 : Cond.selects RX6 yX6_copyFrom yX6_copyFrom ∈ zWs := zq _ 598 (by decide +kernel) (by decide +kernel)
theorem vs_1 : zcv RX5 104 RX6 yX6_copyFrom cX6_copyFrom 3 (Option.none : Option Jvm.ClassFile.FieldType) 1 := ⟨qw_38, qw_39, (by decide +kernel), (by decide +kernel), qw_40, qw_41, qw_42⟩
theorem qw_43 : Cond.fieldLink RX5 40 (TX5 4).1 (TX5 4).2.1 (TX5 4).2.2.1 ∈ zWs := zq _ 244 (by decide +kernel) (by decide +kernel)
theorem qw_44 : Cond.code yX1_copyFrom cX1_copyFrom 2 (Option.none : Option Jvm.ClassFile.FieldType) ∈ zWs := zq _ 603 (by decide +kernel) (by decide +kernel)
theorem qw_45 : Cond.initialized RX1 ∈ zWs := zq _ 23 (by decide +kernel) (by decide +kernel)
theorem qw_46 : Cond.methodLink RX5 107 yX1_copyFrom ∈ zWs := zq _ 600 (by decide +kernel) (by decide +kernel)
theorem qw_47 : Cond.instanceMethod yX1_copyFrom ∈ zWs := zq _ 601 (by decide +kernel) (by decide +kernel)
theorem qw_48 : Cond.selects RX1 yX1_copyFrom yX1_copyFrom ∈ zWs := zq _ 602 (by decide +kernel) (by decide +kernel)
theorem vs_2 : zcv RX5 107 RX1 yX1_copyFrom cX1_copyFrom 2 (Option.none : Option Jvm.ClassFile.FieldType) 1 := ⟨qw_44, qw_45, (by decide +kernel), (by decide +kernel), qw_46, qw_47, qw_48⟩
theorem qw_49 : Cond.fieldLink RX5 46 (TX5 5).1 (TX5 5).2.1 (TX5 5).2.2.1 ∈ zWs := zq _ 246 (by decide +kernel) (by decide +kernel)
theorem qw_50 : Cond.fieldLink RX5 50 (TX5 6).1 (TX5 6).2.1 (TX5 6).2.2.1 ∈ zWs := zq _ 248 (by decide +kernel) (by decide +kernel)
theorem qw_51 : Cond.fieldLink RX5 67 (TX5 7).1 (TX5 7).2.1 (TX5 7).2.2.1 ∈ zWs := zq _ 250 (by decide +kernel) (by decide +kernel)
theorem qw_52 : Cond.fieldLink RX5 70 (TX5 8).1 (TX5 8).2.1 (TX5 8).2.2.1 ∈ zWs := zq _ 252 (by decide +kernel) (by decide +kernel)
theorem qw_53 : Cond.fieldLink RX5 73 (TX5 9).1 (TX5 9).2.1 (TX5 9).2.2.1 ∈ zWs := zq _ 254 (by decide +kernel) (by decide +kernel)
theorem qw_54 : Cond.fieldLink RX5 76 (TX5 10).1 (TX5 10).2.1 (TX5 10).2.2.1 ∈ zWs := zq _ 257 (by decide +kernel) (by decide +kernel)
theorem qw_55 : Cond.fieldLink RX5 79 (TX5 11).1 (TX5 11).2.1 (TX5 11).2.2.1 ∈ zWs := zq _ 260 (by decide +kernel) (by decide +kernel)
theorem qw_56 : Cond.fieldLink RX5 19 (TX5 1).1 (TX5 1).2.1 (TX5 1).2.2.1 ∈ zWs := zq _ 238 (by decide +kernel) (by decide +kernel)
theorem qw_57 : Cond.code yX3_copyFrom cX3_copyFrom 2 (Option.none : Option Jvm.ClassFile.FieldType) ∈ zWs := zq _ 591 (by decide +kernel) (by decide +kernel)
theorem qw_58 : Cond.initialized RX3 ∈ zWs := zq _ 25 (by decide +kernel) (by decide +kernel)
theorem qw_59 : Cond.methodLink RX5 98 yX3_copyFrom ∈ zWs := zq _ 588 (by decide +kernel) (by decide +kernel)
theorem qw_60 : Cond.instanceMethod yX3_copyFrom ∈ zWs := zq _ 589 (by decide +kernel) (by decide +kernel)
theorem qw_61 : Cond.selects RX3 yX3_copyFrom yX3_copyFrom ∈ zWs := zq _ 590 (by decide +kernel) (by decide +kernel)
theorem vs_3 : zcv RX5 98 RX3 yX3_copyFrom cX3_copyFrom 2 (Option.none : Option Jvm.ClassFile.FieldType) 1 := ⟨qw_57, qw_58, (by decide +kernel), (by decide +kernel), qw_59, qw_60, qw_61⟩
theorem qw_62 : Cond.fieldLink RX5 13 (TX5 0).1 (TX5 0).2.1 (TX5 0).2.2.1 ∈ zWs := zq _ 237 (by decide +kernel) (by decide +kernel)
theorem qw_63 : Cond.code yX9_copyFrom cX9_copyFrom 2 (Option.none : Option Jvm.ClassFile.FieldType) ∈ zWs := zq _ 587 (by decide +kernel) (by decide +kernel)
theorem qw_64 : Cond.initialized RX9 ∈ zWs := zq _ 24 (by decide +kernel) (by decide +kernel)
theorem qw_65 : Cond.methodLink RX5 94 yX9_copyFrom ∈ zWs := zq _ 584 (by decide +kernel) (by decide +kernel)
theorem qw_66 : Cond.instanceMethod yX9_copyFrom ∈ zWs := zq _ 585 (by decide +kernel) (by decide +kernel)
theorem qw_67 : Cond.selects RX9 yX9_copyFrom yX9_copyFrom ∈ zWs := zq _ 586 (by decide +kernel) (by decide +kernel)
theorem vs_4 : zcv RX5 94 RX9 yX9_copyFrom cX9_copyFrom 2 (Option.none : Option Jvm.ClassFile.FieldType) 1 := ⟨qw_63, qw_64, (by decide +kernel), (by decide +kernel), qw_65, qw_66, qw_67⟩
theorem qw_68 : Cond.code yX0_placeOf cX0_placeOf 3 (Option.some (Jvm.ClassFile.FieldType.object "CableLanding$State")) ∈ zWs := zq _ 579 (by decide +kernel) (by decide +kernel)
theorem qw_69 : Cond.initialized RX0 ∈ zWs := zq _ 26 (by decide +kernel) (by decide +kernel)
theorem qw_70 : Cond.methodLink RX0 23 yX0_placeOf ∈ zWs := zq _ 576 (by decide +kernel) (by decide +kernel)
theorem qw_71 : Cond.instanceMethod yX0_placeOf ∈ zWs := zq _ 578 (by decide +kernel) (by decide +kernel)
theorem qw_72 : Cond.selects RX0 yX0_placeOf yX0_placeOf ∈ zWs := zq _ 9 (by decide +kernel) (by decide +kernel)
theorem vs_5 : zcv RX0 23 RX0 yX0_placeOf cX0_placeOf 3 (Option.some (Jvm.ClassFile.FieldType.object "CableLanding$State")) 1 := ⟨qw_68, qw_69, (by decide +kernel), (by decide +kernel), qw_70, qw_71, qw_72⟩
theorem qw_73 : Cond.code yX5_copyFrom cX5_copyFrom 3 (Option.none : Option Jvm.ClassFile.FieldType) ∈ zWs := zq _ 583 (by decide +kernel) (by decide +kernel)
theorem qw_74 : Cond.initialized RX5 ∈ zWs := zq _ 20 (by decide +kernel) (by decide +kernel)
theorem qw_75 : Cond.methodLink RX0 27 yX5_copyFrom ∈ zWs := zq _ 580 (by decide +kernel) (by decide +kernel)
theorem qw_76 : Cond.instanceMethod yX5_copyFrom ∈ zWs := zq _ 581 (by decide +kernel) (by decide +kernel)
theorem qw_77 : Cond.selects RX5 yX5_copyFrom yX5_copyFrom ∈ zWs := zq _ 582 (by decide +kernel) (by decide +kernel)
theorem vs_6 : zcv RX0 27 RX5 yX5_copyFrom cX5_copyFrom 3 (Option.none : Option Jvm.ClassFile.FieldType) 1 := ⟨qw_73, qw_74, (by decide +kernel), (by decide +kernel), qw_75, qw_76, qw_77⟩
theorem qw_78 : Cond.constantLong RX2 11 (100000 : Int64) ∈ zWs := zq _ 959 (by decide +kernel) (by decide +kernel)
theorem qw_79 : Cond.fieldLink RX5 110 (TX3 5).1 (TX3 5).2.1 (TX3 5).2.2.1 ∈ zWs := zq _ 214 (by decide +kernel) (by decide +kernel)
theorem qw_80 : Cond.fieldLink RX5 116 (TX3 0).1 (TX3 0).2.1 (TX3 0).2.2.1 ∈ zWs := zq _ 198 (by decide +kernel) (by decide +kernel)
theorem qw_81 : Cond.fieldLink RX5 113 (TX3 4).1 (TX3 4).2.1 (TX3 4).2.2.1 ∈ zWs := zq _ 210 (by decide +kernel) (by decide +kernel)
theorem qw_82 : Cond.code yX5_canLoadOnto cX5_canLoadOnto 3 (Option.some Jvm.ClassFile.FieldType.boolean) ∈ zWs := zq _ 737 (by decide +kernel) (by decide +kernel)
theorem qw_83 : Cond.methodLink RX2 60 yX5_canLoadOnto ∈ zWs := zq _ 969 (by decide +kernel) (by decide +kernel)
theorem qw_84 : Cond.instanceMethod yX5_canLoadOnto ∈ zWs := zq _ 735 (by decide +kernel) (by decide +kernel)
theorem qw_85 : Cond.selects RX5 yX5_canLoadOnto yX5_canLoadOnto ∈ zWs := zq _ 736 (by decide +kernel) (by decide +kernel)
theorem vs_7 : zcv RX2 60 RX5 yX5_canLoadOnto cX5_canLoadOnto 3 (Option.some Jvm.ClassFile.FieldType.boolean) 2 := ⟨qw_82, qw_74, (by decide +kernel), (by decide +kernel), qw_83, qw_84, qw_85⟩
theorem qw_86 : Cond.code yX5_loadOnto cX5_loadOnto 3 (Option.none : Option Jvm.ClassFile.FieldType) ∈ zWs := zq _ 745 (by decide +kernel) (by decide +kernel)
theorem qw_87 : Cond.methodLink RX2 63 yX5_loadOnto ∈ zWs := zq _ 970 (by decide +kernel) (by decide +kernel)
theorem qw_88 : Cond.instanceMethod yX5_loadOnto ∈ zWs := zq _ 743 (by decide +kernel) (by decide +kernel)
theorem qw_89 : Cond.selects RX5 yX5_loadOnto yX5_loadOnto ∈ zWs := zq _ 744 (by decide +kernel) (by decide +kernel)
theorem vs_8 : zcv RX2 63 RX5 yX5_loadOnto cX5_loadOnto 3 (Option.none : Option Jvm.ClassFile.FieldType) 2 := ⟨qw_86, qw_74, (by decide +kernel), (by decide +kernel), qw_87, qw_88, qw_89⟩
theorem qw_90 : Cond.code yX5_isFinished cX5_isFinished 1 (Option.some Jvm.ClassFile.FieldType.boolean) ∈ zWs := zq _ 760 (by decide +kernel) (by decide +kernel)
theorem qw_91 : Cond.methodLink RX5 119 yX5_isFinished ∈ zWs := zq _ 757 (by decide +kernel) (by decide +kernel)
theorem qw_92 : Cond.instanceMethod yX5_isFinished ∈ zWs := zq _ 758 (by decide +kernel) (by decide +kernel)
theorem qw_93 : Cond.selects RX5 yX5_isFinished yX5_isFinished ∈ zWs := zq _ 759 (by decide +kernel) (by decide +kernel)
theorem vs_9 : zcv RX5 119 RX5 yX5_isFinished cX5_isFinished 1 (Option.some Jvm.ClassFile.FieldType.boolean) 0 := ⟨qw_90, qw_74, (by decide +kernel), (by decide +kernel), qw_91, qw_92, qw_93⟩
theorem qw_94 : Cond.code yX3_sail cX3_sail 3 (Option.none : Option Jvm.ClassFile.FieldType) ∈ zWs := zq _ 768 (by decide +kernel) (by decide +kernel)
theorem qw_95 : Cond.methodLink RX5 123 yX3_sail ∈ zWs := zq _ 765 (by decide +kernel) (by decide +kernel)
theorem qw_96 : Cond.instanceMethod yX3_sail ∈ zWs := zq _ 766 (by decide +kernel) (by decide +kernel)
theorem qw_97 : Cond.selects RX3 yX3_sail yX3_sail ∈ zWs := zq _ 767 (by decide +kernel) (by decide +kernel)
theorem vs_10 : zcv RX5 123 RX3 yX3_sail cX3_sail 3 (Option.none : Option Jvm.ClassFile.FieldType) 2 := ⟨qw_94, qw_58, (by decide +kernel), (by decide +kernel), qw_95, qw_96, qw_97⟩
theorem qw_98 : Cond.code yX5_canSendOut cX5_canSendOut 2 (Option.some Jvm.ClassFile.FieldType.boolean) ∈ zWs := zq _ 756 (by decide +kernel) (by decide +kernel)
theorem qw_99 : Cond.methodLink RX2 67 yX5_canSendOut ∈ zWs := zq _ 974 (by decide +kernel) (by decide +kernel)
theorem qw_100 : Cond.instanceMethod yX5_canSendOut ∈ zWs := zq _ 754 (by decide +kernel) (by decide +kernel)
theorem qw_101 : Cond.selects RX5 yX5_canSendOut yX5_canSendOut ∈ zWs := zq _ 755 (by decide +kernel) (by decide +kernel)
theorem vs_11 : zcv RX2 67 RX5 yX5_canSendOut cX5_canSendOut 2 (Option.some Jvm.ClassFile.FieldType.boolean) 1 := ⟨qw_98, qw_74, (by decide +kernel), (by decide +kernel), qw_99, qw_100, qw_101⟩
theorem qw_102 : Cond.code yX5_sendOut cX5_sendOut 2 (Option.none : Option Jvm.ClassFile.FieldType) ∈ zWs := zq _ 764 (by decide +kernel) (by decide +kernel)
theorem qw_103 : Cond.methodLink RX2 71 yX5_sendOut ∈ zWs := zq _ 975 (by decide +kernel) (by decide +kernel)
theorem qw_104 : Cond.instanceMethod yX5_sendOut ∈ zWs := zq _ 762 (by decide +kernel) (by decide +kernel)
theorem qw_105 : Cond.selects RX5 yX5_sendOut yX5_sendOut ∈ zWs := zq _ 763 (by decide +kernel) (by decide +kernel)
theorem vs_12 : zcv RX2 71 RX5 yX5_sendOut cX5_sendOut 2 (Option.none : Option Jvm.ClassFile.FieldType) 1 := ⟨qw_102, qw_74, (by decide +kernel), (by decide +kernel), qw_103, qw_104, qw_105⟩
theorem qw_106 : Cond.code yX6_sendToRest cX6_sendToRest 2 (Option.none : Option Jvm.ClassFile.FieldType) ∈ zWs := zq _ 791 (by decide +kernel) (by decide +kernel)
theorem qw_107 : Cond.methodLink RX6 43 yX6_sendToRest ∈ zWs := zq _ 788 (by decide +kernel) (by decide +kernel)
theorem qw_108 : Cond.instanceMethod yX6_sendToRest ∈ zWs := zq _ 790 (by decide +kernel) (by decide +kernel)
theorem qw_109 : Cond.selects RX6 yX6_sendToRest yX6_sendToRest ∈ zWs := zq _ 12 (by decide +kernel) (by decide +kernel)
theorem vs_13 : zcv RX6 43 RX6 yX6_sendToRest cX6_sendToRest 2 (Option.none : Option Jvm.ClassFile.FieldType) 1 := ⟨qw_106, qw_39, (by decide +kernel), (by decide +kernel), qw_107, qw_108, qw_109⟩
theorem qw_110 : Cond.code yX6_leaveFront cX6_leaveFront 1 (Option.none : Option Jvm.ClassFile.FieldType) ∈ zWs := zq _ 787 (by decide +kernel) (by decide +kernel)
theorem qw_111 : Cond.methodLink RX5 126 yX6_leaveFront ∈ zWs := zq _ 784 (by decide +kernel) (by decide +kernel)
theorem qw_112 : Cond.instanceMethod yX6_leaveFront ∈ zWs := zq _ 785 (by decide +kernel) (by decide +kernel)
theorem qw_113 : Cond.selects RX6 yX6_leaveFront yX6_leaveFront ∈ zWs := zq _ 786 (by decide +kernel) (by decide +kernel)
theorem vs_14 : zcv RX5 126 RX6 yX6_leaveFront cX6_leaveFront 1 (Option.none : Option Jvm.ClassFile.FieldType) 0 := ⟨qw_110, qw_39, (by decide +kernel), (by decide +kernel), qw_111, qw_112, qw_113⟩
theorem qw_114 : Cond.code yX5_canCallHome cX5_canCallHome 2 (Option.some Jvm.ClassFile.FieldType.boolean) ∈ zWs := zq _ 779 (by decide +kernel) (by decide +kernel)
theorem qw_115 : Cond.methodLink RX2 75 yX5_canCallHome ∈ zWs := zq _ 979 (by decide +kernel) (by decide +kernel)
theorem qw_116 : Cond.instanceMethod yX5_canCallHome ∈ zWs := zq _ 777 (by decide +kernel) (by decide +kernel)
theorem qw_117 : Cond.selects RX5 yX5_canCallHome yX5_canCallHome ∈ zWs := zq _ 778 (by decide +kernel) (by decide +kernel)
theorem vs_15 : zcv RX2 75 RX5 yX5_canCallHome cX5_canCallHome 2 (Option.some Jvm.ClassFile.FieldType.boolean) 1 := ⟨qw_114, qw_74, (by decide +kernel), (by decide +kernel), qw_115, qw_116, qw_117⟩
theorem qw_118 : Cond.code yX5_callHome cX5_callHome 2 (Option.none : Option Jvm.ClassFile.FieldType) ∈ zWs := zq _ 783 (by decide +kernel) (by decide +kernel)
theorem qw_119 : Cond.methodLink RX2 78 yX5_callHome ∈ zWs := zq _ 980 (by decide +kernel) (by decide +kernel)
theorem qw_120 : Cond.instanceMethod yX5_callHome ∈ zWs := zq _ 781 (by decide +kernel) (by decide +kernel)
theorem qw_121 : Cond.selects RX5 yX5_callHome yX5_callHome ∈ zWs := zq _ 782 (by decide +kernel) (by decide +kernel)
theorem vs_16 : zcv RX2 78 RX5 yX5_callHome cX5_callHome 2 (Option.none : Option Jvm.ClassFile.FieldType) 1 := ⟨qw_118, qw_74, (by decide +kernel), (by decide +kernel), qw_119, qw_120, qw_121⟩
theorem qw_122 : Cond.fieldLink RX5 88 (TX9 2).1 (TX9 2).2.1 (TX9 2).2.2.1 ∈ zWs := zq _ 177 (by decide +kernel) (by decide +kernel)
theorem qw_123 : Cond.fieldLink RX5 129 (TX1 5).1 (TX1 5).2.1 (TX1 5).2.2.1 ∈ zWs := zq _ 146 (by decide +kernel) (by decide +kernel)
theorem qw_124 : Cond.code yX5_canProlong cX5_canProlong 3 (Option.some Jvm.ClassFile.FieldType.boolean) ∈ zWs := zq _ 802 (by decide +kernel) (by decide +kernel)
theorem qw_125 : Cond.methodLink RX2 81 yX5_canProlong ∈ zWs := zq _ 985 (by decide +kernel) (by decide +kernel)
theorem qw_126 : Cond.instanceMethod yX5_canProlong ∈ zWs := zq _ 800 (by decide +kernel) (by decide +kernel)
theorem qw_127 : Cond.selects RX5 yX5_canProlong yX5_canProlong ∈ zWs := zq _ 801 (by decide +kernel) (by decide +kernel)
theorem vs_17 : zcv RX2 81 RX5 yX5_canProlong cX5_canProlong 3 (Option.some Jvm.ClassFile.FieldType.boolean) 2 := ⟨qw_124, qw_74, (by decide +kernel), (by decide +kernel), qw_125, qw_126, qw_127⟩
theorem qw_128 : Cond.code yX5_prolong cX5_prolong 3 (Option.none : Option Jvm.ClassFile.FieldType) ∈ zWs := zq _ 806 (by decide +kernel) (by decide +kernel)
theorem qw_129 : Cond.methodLink RX2 85 yX5_prolong ∈ zWs := zq _ 986 (by decide +kernel) (by decide +kernel)
theorem qw_130 : Cond.instanceMethod yX5_prolong ∈ zWs := zq _ 804 (by decide +kernel) (by decide +kernel)
theorem qw_131 : Cond.selects RX5 yX5_prolong yX5_prolong ∈ zWs := zq _ 805 (by decide +kernel) (by decide +kernel)
theorem vs_18 : zcv RX2 85 RX5 yX5_prolong cX5_prolong 3 (Option.none : Option Jvm.ClassFile.FieldType) 2 := ⟨qw_128, qw_74, (by decide +kernel), (by decide +kernel), qw_129, qw_130, qw_131⟩
theorem qw_132 : Cond.fieldLink RX5 188 (TX1 1).1 (TX1 1).2.1 (TX1 1).2.2.1 ∈ zWs := zq _ 134 (by decide +kernel) (by decide +kernel)
theorem qw_133 : Cond.fieldLink RX5 191 (TX6 3).1 (TX6 3).2.1 (TX6 3).2.2.1 ∈ zWs := zq _ 102 (by decide +kernel) (by decide +kernel)
theorem qw_134 : Cond.code yX5_numberAtFront cX5_numberAtFront 2 (Option.some Jvm.ClassFile.FieldType.int) ∈ zWs := zq _ 424 (by decide +kernel) (by decide +kernel)
theorem qw_135 : Cond.methodLink RX5 185 yX5_numberAtFront ∈ zWs := zq _ 856 (by decide +kernel) (by decide +kernel)
theorem qw_136 : Cond.instanceMethod yX5_numberAtFront ∈ zWs := zq _ 422 (by decide +kernel) (by decide +kernel)
theorem qw_137 : Cond.selects RX5 yX5_numberAtFront yX5_numberAtFront ∈ zWs := zq _ 423 (by decide +kernel) (by decide +kernel)
theorem vs_19 : zcv RX5 185 RX5 yX5_numberAtFront cX5_numberAtFront 2 (Option.some Jvm.ClassFile.FieldType.int) 0 := ⟨qw_134, qw_74, (by decide +kernel), (by decide +kernel), qw_135, qw_136, qw_137⟩
theorem qw_138 : Cond.code yX6_isFree cX6_isFree 2 (Option.some Jvm.ClassFile.FieldType.boolean) ∈ zWs := zq _ 440 (by decide +kernel) (by decide +kernel)
theorem qw_139 : Cond.methodLink RX6 39 yX6_isFree ∈ zWs := zq _ 437 (by decide +kernel) (by decide +kernel)
theorem qw_140 : Cond.instanceMethod yX6_isFree ∈ zWs := zq _ 438 (by decide +kernel) (by decide +kernel)
theorem qw_141 : Cond.selects RX6 yX6_isFree yX6_isFree ∈ zWs := zq _ 439 (by decide +kernel) (by decide +kernel)
theorem vs_20 : zcv RX6 39 RX6 yX6_isFree cX6_isFree 2 (Option.some Jvm.ClassFile.FieldType.boolean) 1 := ⟨qw_138, qw_39, (by decide +kernel), (by decide +kernel), qw_139, qw_140, qw_141⟩
theorem qw_142 : Cond.methodLink RX9 22 Lib.Math.min.name ∈ zWs := zq _ 884 (by decide +kernel) (by decide +kernel)
theorem qw_143 : Cond.static Lib.Math.min.name ∈ zWs := zq _ 878 (by decide +kernel) (by decide +kernel)
theorem qw_144 : Cond.initialized "java/lang/Math" ∈ zWs := zq _ 34 (by decide +kernel) (by decide +kernel)
theorem qw_145 : Cond.code Lib.Math.min.name Lib.Math.min.code 2 (some .int) ∈ zWs := zq _ 879 (by decide +kernel) (by decide +kernel)
theorem qw_146 : Cond.fieldLink RX5 219 (TX3 1).1 (TX3 1).2.1 (TX3 1).2.2.1 ∈ zWs := zq _ 201 (by decide +kernel) (by decide +kernel)
theorem qw_147 : Cond.fieldLink RX5 82 (TX9 0).1 (TX9 0).2.1 (TX9 0).2.2.1 ∈ zWs := zq _ 171 (by decide +kernel) (by decide +kernel)
theorem qw_148 : Cond.methodLink RX5 146 Lib.Math.min.name ∈ zWs := zq _ 877 (by decide +kernel) (by decide +kernel)
theorem qw_149 : Cond.code yX9_mostUnits cX9_mostUnits 4 (Option.some Jvm.ClassFile.FieldType.int) ∈ zWs := zq _ 883 (by decide +kernel) (by decide +kernel)
theorem qw_150 : Cond.methodLink RX5 222 yX9_mostUnits ∈ zWs := zq _ 880 (by decide +kernel) (by decide +kernel)
theorem qw_151 : Cond.instanceMethod yX9_mostUnits ∈ zWs := zq _ 881 (by decide +kernel) (by decide +kernel)
theorem qw_152 : Cond.selects RX9 yX9_mostUnits yX9_mostUnits ∈ zWs := zq _ 882 (by decide +kernel) (by decide +kernel)
theorem vs_21 : zcv RX5 222 RX9 yX9_mostUnits cX9_mostUnits 4 (Option.some Jvm.ClassFile.FieldType.int) 2 := ⟨qw_149, qw_64, (by decide +kernel), (by decide +kernel), qw_150, qw_151, qw_152⟩
theorem qw_153 : Cond.code yX9_cableFor cX9_cableFor 2 (Option.some Jvm.ClassFile.FieldType.int) ∈ zWs := zq _ 888 (by decide +kernel) (by decide +kernel)
theorem qw_154 : Cond.methodLink RX5 225 yX9_cableFor ∈ zWs := zq _ 885 (by decide +kernel) (by decide +kernel)
theorem qw_155 : Cond.instanceMethod yX9_cableFor ∈ zWs := zq _ 886 (by decide +kernel) (by decide +kernel)
theorem qw_156 : Cond.selects RX9 yX9_cableFor yX9_cableFor ∈ zWs := zq _ 887 (by decide +kernel) (by decide +kernel)
theorem vs_22 : zcv RX5 225 RX9 yX9_cableFor cX9_cableFor 2 (Option.some Jvm.ClassFile.FieldType.int) 1 := ⟨qw_153, qw_64, (by decide +kernel), (by decide +kernel), qw_154, qw_155, qw_156⟩
theorem qw_157 : Cond.fieldLink RX5 228 (TX3 7).1 (TX3 7).2.1 (TX3 7).2.2.1 ∈ zWs := zq _ 219 (by decide +kernel) (by decide +kernel)
theorem qw_158 : Cond.fieldLink RX5 229 (TX1 2).1 (TX1 2).2.1 (TX1 2).2.2.1 ∈ zWs := zq _ 137 (by decide +kernel) (by decide +kernel)
theorem qw_159 : Cond.code yX6_spliceGoesOn cX6_spliceGoesOn 1 (Option.some Jvm.ClassFile.FieldType.boolean) ∈ zWs := zq _ 432 (by decide +kernel) (by decide +kernel)
theorem qw_160 : Cond.methodLink RX5 206 yX6_spliceGoesOn ∈ zWs := zq _ 868 (by decide +kernel) (by decide +kernel)
theorem qw_161 : Cond.instanceMethod yX6_spliceGoesOn ∈ zWs := zq _ 430 (by decide +kernel) (by decide +kernel)
theorem qw_162 : Cond.selects RX6 yX6_spliceGoesOn yX6_spliceGoesOn ∈ zWs := zq _ 431 (by decide +kernel) (by decide +kernel)
theorem vs_23 : zcv RX5 206 RX6 yX6_spliceGoesOn cX6_spliceGoesOn 1 (Option.some Jvm.ClassFile.FieldType.boolean) 0 := ⟨qw_159, qw_39, (by decide +kernel), (by decide +kernel), qw_160, qw_161, qw_162⟩
theorem qw_163 : Cond.fieldLink RX5 85 (TX9 1).1 (TX9 1).2.1 (TX9 1).2.2.1 ∈ zWs := zq _ 174 (by decide +kernel) (by decide +kernel)
theorem qw_164 : Cond.code yX8_on cX8_on 3 (Option.some Jvm.ClassFile.FieldType.int) ∈ zWs := zq _ 723 (by decide +kernel) (by decide +kernel)
theorem qw_165 : Cond.methodLink RX5 199 yX8_on ∈ zWs := zq _ 863 (by decide +kernel) (by decide +kernel)
theorem qw_166 : Cond.instanceMethod yX8_on ∈ zWs := zq _ 721 (by decide +kernel) (by decide +kernel)
theorem qw_167 : Cond.selects RX8 yX8_on yX8_on ∈ zWs := zq _ 722 (by decide +kernel) (by decide +kernel)
theorem vs_24 : zcv RX5 199 RX8 yX8_on cX8_on 3 (Option.some Jvm.ClassFile.FieldType.int) 1 := ⟨qw_164, qw_33, (by decide +kernel), (by decide +kernel), qw_165, qw_166, qw_167⟩
theorem qw_168 : Cond.fieldLink RX5 212 (TX3 2).1 (TX3 2).2.1 (TX3 2).2.2.1 ∈ zWs := zq _ 204 (by decide +kernel) (by decide +kernel)
theorem qw_169 : Cond.code yX5_lay cX5_lay 5 (Option.some Jvm.ClassFile.FieldType.int) ∈ zWs := zq _ 876 (by decide +kernel) (by decide +kernel)
theorem qw_170 : Cond.methodLink RX5 215 yX5_lay ∈ zWs := zq _ 873 (by decide +kernel) (by decide +kernel)
theorem qw_171 : Cond.instanceMethod yX5_lay ∈ zWs := zq _ 875 (by decide +kernel) (by decide +kernel)
theorem qw_172 : Cond.selects RX5 yX5_lay yX5_lay ∈ zWs := zq _ 15 (by decide +kernel) (by decide +kernel)
theorem vs_25 : zcv RX5 215 RX5 yX5_lay cX5_lay 5 (Option.some Jvm.ClassFile.FieldType.int) 2 := ⟨qw_169, qw_74, (by decide +kernel), (by decide +kernel), qw_170, qw_171, qw_172⟩
theorem qw_173 : Cond.code yX6_workOnSplice cX6_workOnSplice 1 (Option.none : Option Jvm.ClassFile.FieldType) ∈ zWs := zq _ 872 (by decide +kernel) (by decide +kernel)
theorem qw_174 : Cond.methodLink RX5 209 yX6_workOnSplice ∈ zWs := zq _ 869 (by decide +kernel) (by decide +kernel)
theorem qw_175 : Cond.instanceMethod yX6_workOnSplice ∈ zWs := zq _ 870 (by decide +kernel) (by decide +kernel)
theorem qw_176 : Cond.selects RX6 yX6_workOnSplice yX6_workOnSplice ∈ zWs := zq _ 871 (by decide +kernel) (by decide +kernel)
theorem vs_26 : zcv RX5 209 RX6 yX6_workOnSplice cX6_workOnSplice 1 (Option.none : Option Jvm.ClassFile.FieldType) 0 := ⟨qw_173, qw_39, (by decide +kernel), (by decide +kernel), qw_174, qw_175, qw_176⟩
theorem qw_177 : Cond.code yX5_shipNumbered cX5_shipNumbered 2 (Option.some (Jvm.ClassFile.FieldType.object "CableLanding$Ship")) ∈ zWs := zq _ 707 (by decide +kernel) (by decide +kernel)
theorem qw_178 : Cond.methodLink RX5 138 yX5_shipNumbered ∈ zWs := zq _ 861 (by decide +kernel) (by decide +kernel)
theorem qw_179 : Cond.instanceMethod yX5_shipNumbered ∈ zWs := zq _ 705 (by decide +kernel) (by decide +kernel)
theorem qw_180 : Cond.selects RX5 yX5_shipNumbered yX5_shipNumbered ∈ zWs := zq _ 706 (by decide +kernel) (by decide +kernel)
theorem vs_27 : zcv RX5 138 RX5 yX5_shipNumbered cX5_shipNumbered 2 (Option.some (Jvm.ClassFile.FieldType.object "CableLanding$Ship")) 1 := ⟨qw_177, qw_74, (by decide +kernel), (by decide +kernel), qw_178, qw_179, qw_180⟩
theorem qw_181 : Cond.code yX5_zoneNumbered cX5_zoneNumbered 2 (Option.some (Jvm.ClassFile.FieldType.object "CableLanding$Zone")) ∈ zWs := zq _ 523 (by decide +kernel) (by decide +kernel)
theorem qw_182 : Cond.methodLink RX5 195 yX5_zoneNumbered ∈ zWs := zq _ 862 (by decide +kernel) (by decide +kernel)
theorem qw_183 : Cond.instanceMethod yX5_zoneNumbered ∈ zWs := zq _ 521 (by decide +kernel) (by decide +kernel)
theorem qw_184 : Cond.selects RX5 yX5_zoneNumbered yX5_zoneNumbered ∈ zWs := zq _ 522 (by decide +kernel) (by decide +kernel)
theorem vs_28 : zcv RX5 195 RX5 yX5_zoneNumbered cX5_zoneNumbered 2 (Option.some (Jvm.ClassFile.FieldType.object "CableLanding$Zone")) 1 := ⟨qw_181, qw_74, (by decide +kernel), (by decide +kernel), qw_182, qw_183, qw_184⟩
theorem qw_185 : Cond.code yX6_beginSplice cX6_beginSplice 3 (Option.some Jvm.ClassFile.FieldType.boolean) ∈ zWs := zq _ 867 (by decide +kernel) (by decide +kernel)
theorem qw_186 : Cond.methodLink RX5 203 yX6_beginSplice ∈ zWs := zq _ 864 (by decide +kernel) (by decide +kernel)
theorem qw_187 : Cond.instanceMethod yX6_beginSplice ∈ zWs := zq _ 865 (by decide +kernel) (by decide +kernel)
theorem qw_188 : Cond.selects RX6 yX6_beginSplice yX6_beginSplice ∈ zWs := zq _ 866 (by decide +kernel) (by decide +kernel)
theorem vs_29 : zcv RX5 203 RX6 yX6_beginSplice cX6_beginSplice 3 (Option.some Jvm.ClassFile.FieldType.boolean) 1 := ⟨qw_185, qw_39, (by decide +kernel), (by decide +kernel), qw_186, qw_187, qw_188⟩
theorem qw_189 : Cond.fieldLink RX5 238 (TX1 4).1 (TX1 4).2.1 (TX1 4).2.2.1 ∈ zWs := zq _ 143 (by decide +kernel) (by decide +kernel)
end
section
theorem qw_190 : Cond.fieldLink RX5 235 (TX3 3).1 (TX3 3).2.1 (TX3 3).2.2.1 ∈ zWs := zq _ 207 (by decide +kernel) (by decide +kernel)
theorem qw_191 : Cond.fieldLink RX5 232 (TX1 3).1 (TX1 3).2.1 (TX1 3).2.2.1 ∈ zWs := zq _ 140 (by decide +kernel) (by decide +kernel)
theorem qw_192 : Cond.code yX5_bookDay cX5_bookDay 6 (Option.none : Option Jvm.ClassFile.FieldType) ∈ zWs := zq _ 892 (by decide +kernel) (by decide +kernel)
theorem qw_193 : Cond.methodLink RX5 179 yX5_bookDay ∈ zWs := zq _ 889 (by decide +kernel) (by decide +kernel)
theorem qw_194 : Cond.instanceMethod yX5_bookDay ∈ zWs := zq _ 891 (by decide +kernel) (by decide +kernel)
theorem qw_195 : Cond.selects RX5 yX5_bookDay yX5_bookDay ∈ zWs := zq _ 16 (by decide +kernel) (by decide +kernel)
theorem vs_30 : zcv RX5 179 RX5 yX5_bookDay cX5_bookDay 6 (Option.none : Option Jvm.ClassFile.FieldType) 0 := ⟨qw_192, qw_74, (by decide +kernel), (by decide +kernel), qw_193, qw_194, qw_195⟩
theorem qw_196 : Cond.code yX6_restOneDay cX6_restOneDay 2 (Option.none : Option Jvm.ClassFile.FieldType) ∈ zWs := zq _ 896 (by decide +kernel) (by decide +kernel)
theorem qw_197 : Cond.methodLink RX5 182 yX6_restOneDay ∈ zWs := zq _ 893 (by decide +kernel) (by decide +kernel)
theorem qw_198 : Cond.instanceMethod yX6_restOneDay ∈ zWs := zq _ 894 (by decide +kernel) (by decide +kernel)
theorem qw_199 : Cond.selects RX6 yX6_restOneDay yX6_restOneDay ∈ zWs := zq _ 895 (by decide +kernel) (by decide +kernel)
theorem vs_31 : zcv RX5 182 RX6 yX6_restOneDay cX6_restOneDay 2 (Option.none : Option Jvm.ClassFile.FieldType) 0 := ⟨qw_196, qw_39, (by decide +kernel), (by decide +kernel), qw_197, qw_198, qw_199⟩
theorem qw_200 : Cond.code yX5_comeToFront cX5_comeToFront 5 (Option.none : Option Jvm.ClassFile.FieldType) ∈ zWs := zq _ 855 (by decide +kernel) (by decide +kernel)
theorem qw_201 : Cond.methodLink RX5 172 yX5_comeToFront ∈ zWs := zq _ 852 (by decide +kernel) (by decide +kernel)
theorem qw_202 : Cond.instanceMethod yX5_comeToFront ∈ zWs := zq _ 854 (by decide +kernel) (by decide +kernel)
theorem qw_203 : Cond.selects RX5 yX5_comeToFront yX5_comeToFront ∈ zWs := zq _ 13 (by decide +kernel) (by decide +kernel)
theorem vs_32 : zcv RX5 172 RX5 yX5_comeToFront cX5_comeToFront 5 (Option.none : Option Jvm.ClassFile.FieldType) 0 := ⟨qw_200, qw_74, (by decide +kernel), (by decide +kernel), qw_201, qw_202, qw_203⟩
theorem qw_204 : Cond.code yX5_workAtFront cX5_workAtFront 3 (Option.some Jvm.ClassFile.FieldType.int) ∈ zWs := zq _ 860 (by decide +kernel) (by decide +kernel)
theorem qw_205 : Cond.methodLink RX5 175 yX5_workAtFront ∈ zWs := zq _ 857 (by decide +kernel) (by decide +kernel)
theorem qw_206 : Cond.instanceMethod yX5_workAtFront ∈ zWs := zq _ 859 (by decide +kernel) (by decide +kernel)
theorem qw_207 : Cond.selects RX5 yX5_workAtFront yX5_workAtFront ∈ zWs := zq _ 14 (by decide +kernel) (by decide +kernel)
theorem vs_33 : zcv RX5 175 RX5 yX5_workAtFront cX5_workAtFront 3 (Option.some Jvm.ClassFile.FieldType.int) 0 := ⟨qw_204, qw_74, (by decide +kernel), (by decide +kernel), qw_205, qw_206, qw_207⟩
theorem qw_208 : Cond.code yX3_sailOneDay cX3_sailOneDay 1 (Option.none : Option Jvm.ClassFile.FieldType) ∈ zWs := zq _ 851 (by decide +kernel) (by decide +kernel)
theorem qw_209 : Cond.methodLink RX5 169 yX3_sailOneDay ∈ zWs := zq _ 848 (by decide +kernel) (by decide +kernel)
theorem qw_210 : Cond.instanceMethod yX3_sailOneDay ∈ zWs := zq _ 849 (by decide +kernel) (by decide +kernel)
theorem qw_211 : Cond.selects RX3 yX3_sailOneDay yX3_sailOneDay ∈ zWs := zq _ 850 (by decide +kernel) (by decide +kernel)
theorem vs_34 : zcv RX5 169 RX3 yX3_sailOneDay cX3_sailOneDay 1 (Option.none : Option Jvm.ClassFile.FieldType) 0 := ⟨qw_208, qw_58, (by decide +kernel), (by decide +kernel), qw_209, qw_210, qw_211⟩
theorem qw_212 : Cond.code yX5_passDay cX5_passDay 5 (Option.none : Option Jvm.ClassFile.FieldType) ∈ zWs := zq _ 847 (by decide +kernel) (by decide +kernel)
theorem qw_213 : Cond.methodLink RX5 159 yX5_passDay ∈ zWs := zq _ 844 (by decide +kernel) (by decide +kernel)
theorem qw_214 : Cond.instanceMethod yX5_passDay ∈ zWs := zq _ 845 (by decide +kernel) (by decide +kernel)
theorem qw_215 : Cond.selects RX5 yX5_passDay yX5_passDay ∈ zWs := zq _ 846 (by decide +kernel) (by decide +kernel)
theorem vs_35 : zcv RX5 159 RX5 yX5_passDay cX5_passDay 5 (Option.none : Option Jvm.ClassFile.FieldType) 0 := ⟨qw_212, qw_74, (by decide +kernel), (by decide +kernel), qw_213, qw_214, qw_215⟩
theorem qw_216 : Cond.fieldLink RX5 132 (TX1 0).1 (TX1 0).2.1 (TX1 0).2.2.1 ∈ zWs := zq _ 131 (by decide +kernel) (by decide +kernel)
theorem qw_217 : Cond.fieldLink RX5 135 (TX1 6).1 (TX1 6).2.1 (TX1 6).2.2.1 ∈ zWs := zq _ 149 (by decide +kernel) (by decide +kernel)
theorem qw_218 : Cond.code yX5_canPurchase cX5_canPurchase 2 (Option.some Jvm.ClassFile.FieldType.boolean) ∈ zWs := zq _ 817 (by decide +kernel) (by decide +kernel)
theorem qw_219 : Cond.methodLink RX2 89 yX5_canPurchase ∈ zWs := zq _ 991 (by decide +kernel) (by decide +kernel)
theorem qw_220 : Cond.instanceMethod yX5_canPurchase ∈ zWs := zq _ 815 (by decide +kernel) (by decide +kernel)
theorem qw_221 : Cond.selects RX5 yX5_canPurchase yX5_canPurchase ∈ zWs := zq _ 816 (by decide +kernel) (by decide +kernel)
theorem vs_36 : zcv RX2 89 RX5 yX5_canPurchase cX5_canPurchase 2 (Option.some Jvm.ClassFile.FieldType.boolean) 1 := ⟨qw_218, qw_74, (by decide +kernel), (by decide +kernel), qw_219, qw_220, qw_221⟩
theorem qw_222 : Cond.code yX5_purchase cX5_purchase 2 (Option.none : Option Jvm.ClassFile.FieldType) ∈ zWs := zq _ 821 (by decide +kernel) (by decide +kernel)
theorem qw_223 : Cond.methodLink RX2 93 yX5_purchase ∈ zWs := zq _ 992 (by decide +kernel) (by decide +kernel)
theorem qw_224 : Cond.instanceMethod yX5_purchase ∈ zWs := zq _ 819 (by decide +kernel) (by decide +kernel)
theorem qw_225 : Cond.selects RX5 yX5_purchase yX5_purchase ∈ zWs := zq _ 820 (by decide +kernel) (by decide +kernel)
theorem vs_37 : zcv RX2 93 RX5 yX5_purchase cX5_purchase 2 (Option.none : Option Jvm.ClassFile.FieldType) 1 := ⟨qw_222, qw_74, (by decide +kernel), (by decide +kernel), qw_223, qw_224, qw_225⟩
theorem qw_226 : Cond.fieldLink RX2 96 (TX3 5).1 (TX3 5).2.1 (TX3 5).2.2.1 ∈ zWs := zq _ 213 (by decide +kernel) (by decide +kernel)
theorem qw_227 : Cond.methodLink RX2 13 yX5_shipNumbered ∈ zWs := zq _ 965 (by decide +kernel) (by decide +kernel)
theorem vs_38 : zcv RX2 13 RX5 yX5_shipNumbered cX5_shipNumbered 2 (Option.some (Jvm.ClassFile.FieldType.object "CableLanding$Ship")) 1 := ⟨qw_177, qw_74, (by decide +kernel), (by decide +kernel), qw_227, qw_179, qw_180⟩
theorem qw_228 : Cond.code yX2_takes cX2_takes 3 (Option.some Jvm.ClassFile.FieldType.boolean) ∈ zWs := zq _ 968 (by decide +kernel) (by decide +kernel)
theorem qw_229 : Cond.initialized RX2 ∈ zWs := zq _ 35 (by decide +kernel) (by decide +kernel)
theorem qw_230 : Cond.methodLink RX2 19 yX2_takes ∈ zWs := zq _ 966 (by decide +kernel) (by decide +kernel)
theorem qw_231 : Cond.static yX2_takes ∈ zWs := zq _ 967 (by decide +kernel) (by decide +kernel)
theorem vs_39 : zcs RX2 19 yX2_takes cX2_takes 3 (Option.some Jvm.ClassFile.FieldType.boolean) 3 := ⟨qw_228, qw_229, (by decide +kernel), (by decide +kernel), qw_230, qw_231⟩
theorem qw_232 : Cond.code yX2_sends cX2_sends 2 (Option.some Jvm.ClassFile.FieldType.boolean) ∈ zWs := zq _ 973 (by decide +kernel) (by decide +kernel)
theorem qw_233 : Cond.methodLink RX2 23 yX2_sends ∈ zWs := zq _ 971 (by decide +kernel) (by decide +kernel)
theorem qw_234 : Cond.static yX2_sends ∈ zWs := zq _ 972 (by decide +kernel) (by decide +kernel)
theorem vs_40 : zcs RX2 23 yX2_sends cX2_sends 2 (Option.some Jvm.ClassFile.FieldType.boolean) 2 := ⟨qw_232, qw_229, (by decide +kernel), (by decide +kernel), qw_233, qw_234⟩
theorem qw_235 : Cond.code yX2_recalls cX2_recalls 2 (Option.some Jvm.ClassFile.FieldType.boolean) ∈ zWs := zq _ 978 (by decide +kernel) (by decide +kernel)
theorem qw_236 : Cond.methodLink RX2 27 yX2_recalls ∈ zWs := zq _ 976 (by decide +kernel) (by decide +kernel)
theorem qw_237 : Cond.static yX2_recalls ∈ zWs := zq _ 977 (by decide +kernel) (by decide +kernel)
theorem vs_41 : zcs RX2 27 yX2_recalls cX2_recalls 2 (Option.some Jvm.ClassFile.FieldType.boolean) 2 := ⟨qw_235, qw_229, (by decide +kernel), (by decide +kernel), qw_236, qw_237⟩
theorem qw_238 : Cond.methodLink RX2 30 yX5_zoneNumbered ∈ zWs := zq _ 981 (by decide +kernel) (by decide +kernel)
theorem vs_42 : zcv RX2 30 RX5 yX5_zoneNumbered cX5_zoneNumbered 2 (Option.some (Jvm.ClassFile.FieldType.object "CableLanding$Zone")) 1 := ⟨qw_181, qw_74, (by decide +kernel), (by decide +kernel), qw_238, qw_183, qw_184⟩
theorem qw_239 : Cond.code yX2_extendsPermit cX2_extendsPermit 3 (Option.some Jvm.ClassFile.FieldType.boolean) ∈ zWs := zq _ 984 (by decide +kernel) (by decide +kernel)
theorem qw_240 : Cond.methodLink RX2 34 yX2_extendsPermit ∈ zWs := zq _ 982 (by decide +kernel) (by decide +kernel)
theorem qw_241 : Cond.static yX2_extendsPermit ∈ zWs := zq _ 983 (by decide +kernel) (by decide +kernel)
theorem vs_43 : zcs RX2 34 yX2_extendsPermit cX2_extendsPermit 3 (Option.some Jvm.ClassFile.FieldType.boolean) 3 := ⟨qw_239, qw_229, (by decide +kernel), (by decide +kernel), qw_240, qw_241⟩
theorem qw_242 : Cond.code yX5_passDays cX5_passDays 3 (Option.none : Option Jvm.ClassFile.FieldType) ∈ zWs := zq _ 843 (by decide +kernel) (by decide +kernel)
theorem qw_243 : Cond.methodLink RX2 38 yX5_passDays ∈ zWs := zq _ 987 (by decide +kernel) (by decide +kernel)
theorem qw_244 : Cond.instanceMethod yX5_passDays ∈ zWs := zq _ 841 (by decide +kernel) (by decide +kernel)
theorem qw_245 : Cond.selects RX5 yX5_passDays yX5_passDays ∈ zWs := zq _ 842 (by decide +kernel) (by decide +kernel)
theorem vs_44 : zcv RX2 38 RX5 yX5_passDays cX5_passDays 3 (Option.none : Option Jvm.ClassFile.FieldType) 1 := ⟨qw_242, qw_74, (by decide +kernel), (by decide +kernel), qw_243, qw_244, qw_245⟩
theorem qw_246 : Cond.code yX2_buys cX2_buys 2 (Option.some Jvm.ClassFile.FieldType.boolean) ∈ zWs := zq _ 990 (by decide +kernel) (by decide +kernel)
theorem qw_247 : Cond.methodLink RX2 42 yX2_buys ∈ zWs := zq _ 988 (by decide +kernel) (by decide +kernel)
theorem qw_248 : Cond.static yX2_buys ∈ zWs := zq _ 989 (by decide +kernel) (by decide +kernel)
theorem vs_45 : zcs RX2 42 yX2_buys cX2_buys 2 (Option.some Jvm.ClassFile.FieldType.boolean) 2 := ⟨qw_246, qw_229, (by decide +kernel), (by decide +kernel), qw_247, qw_248⟩
theorem qw_249 : Cond.fieldLink RX2 46 (TX5 9).1 (TX5 9).2.1 (TX5 9).2.2.1 ∈ zWs := zq _ 255 (by decide +kernel) (by decide +kernel)
theorem qw_250 : Cond.fieldLink RX2 50 (TX5 10).1 (TX5 10).2.1 (TX5 10).2.2.1 ∈ zWs := zq _ 258 (by decide +kernel) (by decide +kernel)
theorem qw_251 : Cond.code yX2_isAt cX2_isAt 2 (Option.some Jvm.ClassFile.FieldType.boolean) ∈ zWs := zq _ 995 (by decide +kernel) (by decide +kernel)
theorem qw_252 : Cond.methodLink RX2 53 yX2_isAt ∈ zWs := zq _ 993 (by decide +kernel) (by decide +kernel)
theorem qw_253 : Cond.static yX2_isAt ∈ zWs := zq _ 994 (by decide +kernel) (by decide +kernel)
theorem vs_46 : zcs RX2 53 yX2_isAt cX2_isAt 2 (Option.some Jvm.ClassFile.FieldType.boolean) 2 := ⟨qw_251, qw_229, (by decide +kernel), (by decide +kernel), qw_252, qw_253⟩
theorem qw_254 : Cond.fieldLink RX2 57 (TX5 11).1 (TX5 11).2.1 (TX5 11).2.2.1 ∈ zWs := zq _ 261 (by decide +kernel) (by decide +kernel)
theorem qw_255 : Cond.fieldLink RX5 57 (TX8 0).1 (TX8 0).2.1 (TX8 0).2.2.1 ∈ zWs := zq _ 81 (by decide +kernel) (by decide +kernel)
theorem qw_256 : Cond.code yX6_begin cX6_begin 4 (Option.none : Option Jvm.ClassFile.FieldType) ∈ zWs := zq _ 336 (by decide +kernel) (by decide +kernel)
theorem qw_257 : Cond.methodLink RX5 60 yX6_begin ∈ zWs := zq _ 333 (by decide +kernel) (by decide +kernel)
theorem qw_258 : Cond.instanceMethod yX6_begin ∈ zWs := zq _ 334 (by decide +kernel) (by decide +kernel)
theorem qw_259 : Cond.selects RX6 yX6_begin yX6_begin ∈ zWs := zq _ 335 (by decide +kernel) (by decide +kernel)
theorem vs_47 : zcv RX5 60 RX6 yX6_begin cX6_begin 4 (Option.none : Option Jvm.ClassFile.FieldType) 2 := ⟨qw_256, qw_39, (by decide +kernel), (by decide +kernel), qw_257, qw_258, qw_259⟩
theorem qw_260 : Cond.code yX1_begin cX1_begin 2 (Option.none : Option Jvm.ClassFile.FieldType) ∈ zWs := zq _ 340 (by decide +kernel) (by decide +kernel)
theorem qw_261 : Cond.methodLink RX5 64 yX1_begin ∈ zWs := zq _ 337 (by decide +kernel) (by decide +kernel)
theorem qw_262 : Cond.instanceMethod yX1_begin ∈ zWs := zq _ 338 (by decide +kernel) (by decide +kernel)
theorem qw_263 : Cond.selects RX1 yX1_begin yX1_begin ∈ zWs := zq _ 339 (by decide +kernel) (by decide +kernel)
theorem vs_48 : zcv RX5 64 RX1 yX1_begin cX1_begin 2 (Option.none : Option Jvm.ClassFile.FieldType) 1 := ⟨qw_260, qw_45, (by decide +kernel), (by decide +kernel), qw_261, qw_262, qw_263⟩
theorem qw_264 : Cond.code yX3_build cX3_build 5 (Option.none : Option Jvm.ClassFile.FieldType) ∈ zWs := zq _ 332 (by decide +kernel) (by decide +kernel)
theorem qw_265 : Cond.methodLink RX5 53 yX3_build ∈ zWs := zq _ 329 (by decide +kernel) (by decide +kernel)
theorem qw_266 : Cond.instanceMethod yX3_build ∈ zWs := zq _ 330 (by decide +kernel) (by decide +kernel)
theorem qw_267 : Cond.selects RX3 yX3_build yX3_build ∈ zWs := zq _ 331 (by decide +kernel) (by decide +kernel)
theorem vs_49 : zcv RX5 53 RX3 yX3_build cX3_build 5 (Option.none : Option Jvm.ClassFile.FieldType) 4 := ⟨qw_264, qw_58, (by decide +kernel), (by decide +kernel), qw_265, qw_266, qw_267⟩
theorem qw_268 : Cond.fieldLink RX5 91 (TX9 3).1 (TX9 3).2.1 (TX9 3).2.2.1 ∈ zWs := zq _ 180 (by decide +kernel) (by decide +kernel)
theorem qw_269 : Cond.methodLink RX5 142 yX5_canSendOut ∈ zWs := zq _ 1015 (by decide +kernel) (by decide +kernel)
theorem vs_50 : zcv RX5 142 RX5 yX5_canSendOut cX5_canSendOut 2 (Option.some Jvm.ClassFile.FieldType.boolean) 1 := ⟨qw_98, qw_74, (by decide +kernel), (by decide +kernel), qw_269, qw_100, qw_101⟩
theorem qw_270 : Cond.methodLink RX5 152 yX5_loadOnto ∈ zWs := zq _ 1016 (by decide +kernel) (by decide +kernel)
theorem vs_51 : zcv RX5 152 RX5 yX5_loadOnto cX5_loadOnto 3 (Option.none : Option Jvm.ClassFile.FieldType) 2 := ⟨qw_86, qw_74, (by decide +kernel), (by decide +kernel), qw_270, qw_88, qw_89⟩
theorem qw_271 : Cond.methodLink RX5 156 yX5_sendOut ∈ zWs := zq _ 1017 (by decide +kernel) (by decide +kernel)
theorem vs_52 : zcv RX5 156 RX5 yX5_sendOut cX5_sendOut 2 (Option.none : Option Jvm.ClassFile.FieldType) 1 := ⟨qw_102, qw_74, (by decide +kernel), (by decide +kernel), qw_271, qw_104, qw_105⟩
theorem qw_272 : Cond.code yX5_fillAndSend cX5_fillAndSend 3 (Option.some Jvm.ClassFile.FieldType.boolean) ∈ zWs := zq _ 1014 (by decide +kernel) (by decide +kernel)
theorem qw_273 : Cond.methodLink RX5 165 yX5_fillAndSend ∈ zWs := zq _ 1011 (by decide +kernel) (by decide +kernel)
theorem qw_274 : Cond.instanceMethod yX5_fillAndSend ∈ zWs := zq _ 1012 (by decide +kernel) (by decide +kernel)
theorem qw_275 : Cond.selects RX5 yX5_fillAndSend yX5_fillAndSend ∈ zWs := zq _ 1013 (by decide +kernel) (by decide +kernel)
theorem vs_53 : zcv RX5 165 RX5 yX5_fillAndSend cX5_fillAndSend 3 (Option.some Jvm.ClassFile.FieldType.boolean) 1 := ⟨qw_272, qw_74, (by decide +kernel), (by decide +kernel), qw_273, qw_274, qw_275⟩
theorem qw_276 : Cond.code yX8_change cX8_change 4 (Option.some Jvm.ClassFile.FieldType.int) ∈ zWs := zq _ 832 (by decide +kernel) (by decide +kernel)
theorem qw_277 : Cond.methodLink RX5 162 yX8_change ∈ zWs := zq _ 1010 (by decide +kernel) (by decide +kernel)
theorem qw_278 : Cond.instanceMethod yX8_change ∈ zWs := zq _ 830 (by decide +kernel) (by decide +kernel)
theorem qw_279 : Cond.selects RX8 yX8_change yX8_change ∈ zWs := zq _ 831 (by decide +kernel) (by decide +kernel)
theorem vs_54 : zcv RX5 162 RX8 yX8_change cX8_change 4 (Option.some Jvm.ClassFile.FieldType.int) 2 := ⟨qw_276, qw_33, (by decide +kernel), (by decide +kernel), qw_277, qw_278, qw_279⟩
theorem qw_280 : Cond.methodLink RX6 35 yX6_spliceGoesOn ∈ zWs := zq _ 429 (by decide +kernel) (by decide +kernel)
theorem vs_55 : zcv RX6 35 RX6 yX6_spliceGoesOn cX6_spliceGoesOn 1 (Option.some Jvm.ClassFile.FieldType.boolean) 0 := ⟨qw_159, qw_39, (by decide +kernel), (by decide +kernel), qw_280, qw_161, qw_162⟩
theorem qw_281 : Cond.fieldLink RX7 15 (TX7 1).1 (TX7 1).2.1 (TX7 1).2.2.1 ∈ zWs := zq _ 51 (by decide +kernel) (by decide +kernel)
theorem qw_282 : Cond.fieldLink RX7 11 (TX7 0).1 (TX7 0).2.1 (TX7 0).2.2.1 ∈ zWs := zq _ 50 (by decide +kernel) (by decide +kernel)
theorem qw_283 : Cond.code yX7_hasRoom cX7_hasRoom 1 (Option.some Jvm.ClassFile.FieldType.boolean) ∈ zWs := zq _ 661 (by decide +kernel) (by decide +kernel)
theorem qw_284 : Cond.initialized RX7 ∈ zWs := zq _ 19 (by decide +kernel) (by decide +kernel)
theorem qw_285 : Cond.methodLink RX7 19 yX7_hasRoom ∈ zWs := zq _ 666 (by decide +kernel) (by decide +kernel)
theorem qw_286 : Cond.instanceMethod yX7_hasRoom ∈ zWs := zq _ 659 (by decide +kernel) (by decide +kernel)
theorem qw_287 : Cond.selects RX7 yX7_hasRoom yX7_hasRoom ∈ zWs := zq _ 660 (by decide +kernel) (by decide +kernel)
theorem vs_56 : zcv RX7 19 RX7 yX7_hasRoom cX7_hasRoom 1 (Option.some Jvm.ClassFile.FieldType.boolean) 0 := ⟨qw_283, qw_284, (by decide +kernel), (by decide +kernel), qw_285, qw_286, qw_287⟩
theorem qw_288 : Cond.fieldLink RX7 23 (TX7 2).1 (TX7 2).2.1 (TX7 2).2.2.1 ∈ zWs := zq _ 52 (by decide +kernel) (by decide +kernel)
theorem qw_289 : Cond.fieldLink RX7 26 (TX7 3).1 (TX7 3).2.1 (TX7 3).2.2.1 ∈ zWs := zq _ 53 (by decide +kernel) (by decide +kernel)
theorem qw_290 : Cond.code yX7_nextIs cX7_nextIs 2 (Option.some Jvm.ClassFile.FieldType.boolean) ∈ zWs := zq _ 388 (by decide +kernel) (by decide +kernel)
theorem qw_291 : Cond.methodLink RX7 36 yX7_nextIs ∈ zWs := zq _ 385 (by decide +kernel) (by decide +kernel)
theorem qw_292 : Cond.instanceMethod yX7_nextIs ∈ zWs := zq _ 387 (by decide +kernel) (by decide +kernel)
theorem qw_293 : Cond.selects RX7 yX7_nextIs yX7_nextIs ∈ zWs := zq _ 2 (by decide +kernel) (by decide +kernel)
theorem vs_57 : zcv RX7 36 RX7 yX7_nextIs cX7_nextIs 2 (Option.some Jvm.ClassFile.FieldType.boolean) 1 := ⟨qw_290, qw_284, (by decide +kernel), (by decide +kernel), qw_291, qw_292, qw_293⟩
theorem qw_294 : Cond.code yX7_nextDigit cX7_nextDigit 2 (Option.some Jvm.ClassFile.FieldType.int) ∈ zWs := zq _ 396 (by decide +kernel) (by decide +kernel)
theorem qw_295 : Cond.methodLink RX7 80 yX7_nextDigit ∈ zWs := zq _ 393 (by decide +kernel) (by decide +kernel)
theorem qw_296 : Cond.instanceMethod yX7_nextDigit ∈ zWs := zq _ 395 (by decide +kernel) (by decide +kernel)
theorem qw_297 : Cond.selects RX7 yX7_nextDigit yX7_nextDigit ∈ zWs := zq _ 4 (by decide +kernel) (by decide +kernel)
theorem vs_58 : zcv RX7 80 RX7 yX7_nextDigit cX7_nextDigit 2 (Option.some Jvm.ClassFile.FieldType.int) 0 := ⟨qw_294, qw_284, (by decide +kernel), (by decide +kernel), qw_295, qw_296, qw_297⟩
theorem qw_298 : Cond.code yX7_readLetter cX7_readLetter 2 (Option.none : Option Jvm.ClassFile.FieldType) ∈ zWs := zq _ 384 (by decide +kernel) (by decide +kernel)
theorem qw_299 : Cond.methodLink RX7 49 yX7_readLetter ∈ zWs := zq _ 381 (by decide +kernel) (by decide +kernel)
theorem qw_300 : Cond.instanceMethod yX7_readLetter ∈ zWs := zq _ 383 (by decide +kernel) (by decide +kernel)
theorem qw_301 : Cond.selects RX7 yX7_readLetter yX7_readLetter ∈ zWs := zq _ 1 (by decide +kernel) (by decide +kernel)
theorem vs_59 : zcv RX7 49 RX7 yX7_readLetter cX7_readLetter 2 (Option.none : Option Jvm.ClassFile.FieldType) 1 := ⟨qw_298, qw_284, (by decide +kernel), (by decide +kernel), qw_299, qw_300, qw_301⟩
theorem qw_302 : Cond.code yX7_readNumber cX7_readNumber 9 (Option.some Jvm.ClassFile.FieldType.int) ∈ zWs := zq _ 392 (by decide +kernel) (by decide +kernel)
theorem qw_303 : Cond.methodLink RX7 55 yX7_readNumber ∈ zWs := zq _ 389 (by decide +kernel) (by decide +kernel)
theorem qw_304 : Cond.instanceMethod yX7_readNumber ∈ zWs := zq _ 391 (by decide +kernel) (by decide +kernel)
theorem qw_305 : Cond.selects RX7 yX7_readNumber yX7_readNumber ∈ zWs := zq _ 3 (by decide +kernel) (by decide +kernel)
theorem vs_60 : zcv RX7 55 RX7 yX7_readNumber cX7_readNumber 9 (Option.some Jvm.ClassFile.FieldType.int) 3 := ⟨qw_302, qw_284, (by decide +kernel), (by decide +kernel), qw_303, qw_304, qw_305⟩
theorem qw_306 : Cond.code yX5_begin cX5_begin 8 (Option.none : Option Jvm.ClassFile.FieldType) ∈ zWs := zq _ 328 (by decide +kernel) (by decide +kernel)
theorem qw_307 : Cond.methodLink RX7 59 yX5_begin ∈ zWs := zq _ 397 (by decide +kernel) (by decide +kernel)
theorem qw_308 : Cond.instanceMethod yX5_begin ∈ zWs := zq _ 326 (by decide +kernel) (by decide +kernel)
theorem qw_309 : Cond.selects RX5 yX5_begin yX5_begin ∈ zWs := zq _ 327 (by decide +kernel) (by decide +kernel)
theorem vs_61 : zcv RX7 59 RX5 yX5_begin cX5_begin 8 (Option.none : Option Jvm.ClassFile.FieldType) 3 := ⟨qw_306, qw_74, (by decide +kernel), (by decide +kernel), qw_307, qw_308, qw_309⟩
theorem qw_310 : Cond.code yX5_addZone cX5_addZone 6 (Option.none : Option Jvm.ClassFile.FieldType) ∈ zWs := zq _ 344 (by decide +kernel) (by decide +kernel)
theorem qw_311 : Cond.methodLink RX7 63 yX5_addZone ∈ zWs := zq _ 402 (by decide +kernel) (by decide +kernel)
theorem qw_312 : Cond.instanceMethod yX5_addZone ∈ zWs := zq _ 342 (by decide +kernel) (by decide +kernel)
theorem qw_313 : Cond.selects RX5 yX5_addZone yX5_addZone ∈ zWs := zq _ 343 (by decide +kernel) (by decide +kernel)
theorem vs_62 : zcv RX7 63 RX5 yX5_addZone cX5_addZone 6 (Option.none : Option Jvm.ClassFile.FieldType) 4 := ⟨qw_310, qw_74, (by decide +kernel), (by decide +kernel), qw_311, qw_312, qw_313⟩
theorem qw_314 : Cond.code yX5_addShip cX5_addShip 5 (Option.none : Option Jvm.ClassFile.FieldType) ∈ zWs := zq _ 348 (by decide +kernel) (by decide +kernel)
theorem qw_315 : Cond.methodLink RX7 67 yX5_addShip ∈ zWs := zq _ 407 (by decide +kernel) (by decide +kernel)
theorem qw_316 : Cond.instanceMethod yX5_addShip ∈ zWs := zq _ 346 (by decide +kernel) (by decide +kernel)
theorem qw_317 : Cond.selects RX5 yX5_addShip yX5_addShip ∈ zWs := zq _ 347 (by decide +kernel) (by decide +kernel)
theorem vs_63 : zcv RX7 67 RX5 yX5_addShip cX5_addShip 5 (Option.none : Option Jvm.ClassFile.FieldType) 4 := ⟨qw_314, qw_74, (by decide +kernel), (by decide +kernel), qw_315, qw_316, qw_317⟩
theorem qw_318 : Cond.fieldLink RX7 72 (TX5 2).1 (TX5 2).2.1 (TX5 2).2.2.1 ∈ zWs := zq _ 241 (by decide +kernel) (by decide +kernel)
theorem qw_319 : Cond.code yX8_add cX8_add 2 (Option.none : Option Jvm.ClassFile.FieldType) ∈ zWs := zq _ 352 (by decide +kernel) (by decide +kernel)
theorem qw_320 : Cond.methodLink RX7 76 yX8_add ∈ zWs := zq _ 412 (by decide +kernel) (by decide +kernel)
theorem qw_321 : Cond.instanceMethod yX8_add ∈ zWs := zq _ 350 (by decide +kernel) (by decide +kernel)
theorem qw_322 : Cond.selects RX8 yX8_add yX8_add ∈ zWs := zq _ 351 (by decide +kernel) (by decide +kernel)
theorem vs_64 : zcv RX7 76 RX8 yX8_add cX8_add 2 (Option.none : Option Jvm.ClassFile.FieldType) 1 := ⟨qw_319, qw_33, (by decide +kernel), (by decide +kernel), qw_320, qw_321, qw_322⟩
theorem qw_323 : Cond.code yX7_readWeather cX7_readWeather 3 (Option.none : Option Jvm.ClassFile.FieldType) ∈ zWs := zq _ 411 (by decide +kernel) (by decide +kernel)
theorem qw_324 : Cond.methodLink RX7 46 yX7_readWeather ∈ zWs := zq _ 408 (by decide +kernel) (by decide +kernel)
theorem qw_325 : Cond.instanceMethod yX7_readWeather ∈ zWs := zq _ 410 (by decide +kernel) (by decide +kernel)
theorem qw_326 : Cond.selects RX7 yX7_readWeather yX7_readWeather ∈ zWs := zq _ 7 (by decide +kernel) (by decide +kernel)
theorem vs_65 : zcv RX7 46 RX7 yX7_readWeather cX7_readWeather 3 (Option.none : Option Jvm.ClassFile.FieldType) 1 := ⟨qw_323, qw_284, (by decide +kernel), (by decide +kernel), qw_324, qw_325, qw_326⟩
theorem qw_327 : Cond.code yX7_readShip cX7_readShip 5 (Option.none : Option Jvm.ClassFile.FieldType) ∈ zWs := zq _ 406 (by decide +kernel) (by decide +kernel)
theorem qw_328 : Cond.methodLink RX7 43 yX7_readShip ∈ zWs := zq _ 403 (by decide +kernel) (by decide +kernel)
theorem qw_329 : Cond.instanceMethod yX7_readShip ∈ zWs := zq _ 405 (by decide +kernel) (by decide +kernel)
theorem qw_330 : Cond.selects RX7 yX7_readShip yX7_readShip ∈ zWs := zq _ 6 (by decide +kernel) (by decide +kernel)
theorem vs_66 : zcv RX7 43 RX7 yX7_readShip cX7_readShip 5 (Option.none : Option Jvm.ClassFile.FieldType) 1 := ⟨qw_327, qw_284, (by decide +kernel), (by decide +kernel), qw_328, qw_329, qw_330⟩
theorem qw_331 : Cond.code yX7_readZone cX7_readZone 5 (Option.none : Option Jvm.ClassFile.FieldType) ∈ zWs := zq _ 401 (by decide +kernel) (by decide +kernel)
theorem qw_332 : Cond.methodLink RX7 40 yX7_readZone ∈ zWs := zq _ 398 (by decide +kernel) (by decide +kernel)
theorem qw_333 : Cond.instanceMethod yX7_readZone ∈ zWs := zq _ 400 (by decide +kernel) (by decide +kernel)
theorem qw_334 : Cond.selects RX7 yX7_readZone yX7_readZone ∈ zWs := zq _ 5 (by decide +kernel) (by decide +kernel)
theorem vs_67 : zcv RX7 40 RX7 yX7_readZone cX7_readZone 5 (Option.none : Option Jvm.ClassFile.FieldType) 1 := ⟨qw_331, qw_284, (by decide +kernel), (by decide +kernel), qw_332, qw_333, qw_334⟩
theorem qw_335 : Cond.code yX7_readHead cX7_readHead 4 (Option.none : Option Jvm.ClassFile.FieldType) ∈ zWs := zq _ 380 (by decide +kernel) (by decide +kernel)
theorem qw_336 : Cond.methodLink RX7 30 yX7_readHead ∈ zWs := zq _ 377 (by decide +kernel) (by decide +kernel)
theorem qw_337 : Cond.instanceMethod yX7_readHead ∈ zWs := zq _ 379 (by decide +kernel) (by decide +kernel)
theorem qw_338 : Cond.selects RX7 yX7_readHead yX7_readHead ∈ zWs := zq _ 0 (by decide +kernel) (by decide +kernel)
theorem vs_68 : zcv RX7 30 RX7 yX7_readHead cX7_readHead 4 (Option.none : Option Jvm.ClassFile.FieldType) 1 := ⟨qw_335, qw_284, (by decide +kernel), (by decide +kernel), qw_336, qw_337, qw_338⟩
theorem qw_339 : Cond.classLink RX10 142 (zex 1) ∈ zWs := zq _ 441 (by decide +kernel) (by decide +kernel)
theorem qw_340 : Cond.initialized (zex 1) ∈ zWs := zq _ 31 (by decide +kernel) (by decide +kernel)
theorem ht_69_a : ∀ w ∈ vx_atS RX10 146 (zex 1) zNames, w ∈ zWs := zall (by decide +kernel)
theorem ht_69_b : ∀ w ∈ Cond.classLink RX10 142 (zex 1) :: Cond.initialized (zex 1) :: vx_atS RX10 146 (zex 1) zNames, vx_ot w = true := zall2 (by decide +kernel)
theorem qw_341 : Cond.classLink RX10 339 (zex 2) ∈ zWs := zq _ 556 (by decide +kernel) (by decide +kernel)
theorem qw_342 : Cond.initialized (zex 2) ∈ zWs := zq _ 33 (by decide +kernel) (by decide +kernel)
theorem ht_70_a : ∀ w ∈ vx_atS RX10 343 (zex 2) zNames, w ∈ zWs := zall (by decide +kernel)
theorem ht_70_b : ∀ w ∈ Cond.classLink RX10 339 (zex 2) :: Cond.initialized (zex 2) :: vx_atS RX10 343 (zex 2) zNames, vx_ot w = true := zall2 (by decide +kernel)
theorem qw_343 : Cond.code yX10_requireRange cX10_requireRange 3 (Option.none : Option Jvm.ClassFile.FieldType) ∈ zWs := zq _ 656 (by decide +kernel) (by decide +kernel)
theorem qw_344 : Cond.initialized RX10 ∈ zWs := zq _ 18 (by decide +kernel) (by decide +kernel)
theorem qw_345 : Cond.methodLink RX10 61 yX10_requireRange ∈ zWs := zq _ 654 (by decide +kernel) (by decide +kernel)
theorem qw_346 : Cond.static yX10_requireRange ∈ zWs := zq _ 655 (by decide +kernel) (by decide +kernel)
theorem vs_71 : zcs RX10 61 yX10_requireRange cX10_requireRange 3 (Option.none : Option Jvm.ClassFile.FieldType) 3 := ⟨qw_343, qw_344, (by decide +kernel), (by decide +kernel), qw_345, qw_346⟩
theorem qw_347 : Cond.fieldLink RX10 10 (TX10 0).1 (TX10 0).2.1 (TX10 0).2.2.1 ∈ zWs := zq _ 353 (by decide +kernel) (by decide +kernel)
theorem qw_348 : Cond.methodLink RX10 64 yX7_hasRoom ∈ zWs := zq _ 658 (by decide +kernel) (by decide +kernel)
theorem vs_72 : zcv RX10 64 RX7 yX7_hasRoom cX7_hasRoom 1 (Option.some Jvm.ClassFile.FieldType.boolean) 0 := ⟨qw_283, qw_284, (by decide +kernel), (by decide +kernel), qw_348, qw_286, qw_287⟩
theorem qw_349 : Cond.code yX10_require cX10_require 1 (Option.none : Option Jvm.ClassFile.FieldType) ∈ zWs := zq _ 555 (by decide +kernel) (by decide +kernel)
theorem qw_350 : Cond.methodLink RX10 68 yX10_require ∈ zWs := zq _ 553 (by decide +kernel) (by decide +kernel)
theorem qw_351 : Cond.static yX10_require ∈ zWs := zq _ 554 (by decide +kernel) (by decide +kernel)
theorem vs_73 : zcs RX10 68 yX10_require cX10_require 1 (Option.none : Option Jvm.ClassFile.FieldType) 1 := ⟨qw_349, qw_344, (by decide +kernel), (by decide +kernel), qw_350, qw_351⟩
theorem qw_352 : Cond.code yX7_add cX7_add 2 (Option.some Jvm.ClassFile.FieldType.int) ∈ zWs := zq _ 665 (by decide +kernel) (by decide +kernel)
theorem qw_353 : Cond.methodLink RX10 72 yX7_add ∈ zWs := zq _ 662 (by decide +kernel) (by decide +kernel)
theorem qw_354 : Cond.instanceMethod yX7_add ∈ zWs := zq _ 663 (by decide +kernel) (by decide +kernel)
theorem qw_355 : Cond.selects RX7 yX7_add yX7_add ∈ zWs := zq _ 664 (by decide +kernel) (by decide +kernel)
theorem vs_74 : zcv RX10 72 RX7 yX7_add cX7_add 2 (Option.some Jvm.ClassFile.FieldType.int) 1 := ⟨qw_352, qw_284, (by decide +kernel), (by decide +kernel), qw_353, qw_354, qw_355⟩
theorem qw_356 : Cond.code yX7_clear cX7_clear 2 (Option.some Jvm.ClassFile.FieldType.int) ∈ zWs := zq _ 643 (by decide +kernel) (by decide +kernel)
theorem qw_357 : Cond.methodLink RX10 75 yX7_clear ∈ zWs := zq _ 640 (by decide +kernel) (by decide +kernel)
theorem qw_358 : Cond.instanceMethod yX7_clear ∈ zWs := zq _ 641 (by decide +kernel) (by decide +kernel)
theorem qw_359 : Cond.selects RX7 yX7_clear yX7_clear ∈ zWs := zq _ 642 (by decide +kernel) (by decide +kernel)
theorem vs_75 : zcv RX10 75 RX7 yX7_clear cX7_clear 2 (Option.some Jvm.ClassFile.FieldType.int) 0 := ⟨qw_356, qw_284, (by decide +kernel), (by decide +kernel), qw_357, qw_358, qw_359⟩
theorem qw_360 : Cond.fieldLink RX10 23 (TX10 2).1 (TX10 2).2.1 (TX10 2).2.2.1 ∈ zWs := zq _ 355 (by decide +kernel) (by decide +kernel)
theorem qw_361 : Cond.code yX7_readInto cX7_readInto 3 (Option.some Jvm.ClassFile.FieldType.int) ∈ zWs := zq _ 376 (by decide +kernel) (by decide +kernel)
end
section
theorem qw_362 : Cond.methodLink RX10 79 yX7_readInto ∈ zWs := zq _ 373 (by decide +kernel) (by decide +kernel)
theorem qw_363 : Cond.instanceMethod yX7_readInto ∈ zWs := zq _ 374 (by decide +kernel) (by decide +kernel)
theorem qw_364 : Cond.selects RX7 yX7_readInto yX7_readInto ∈ zWs := zq _ 375 (by decide +kernel) (by decide +kernel)
theorem vs_76 : zcv RX10 79 RX7 yX7_readInto cX7_readInto 3 (Option.some Jvm.ClassFile.FieldType.int) 1 := ⟨qw_361, qw_284, (by decide +kernel), (by decide +kernel), qw_362, qw_363, qw_364⟩
theorem qw_365 : Cond.fieldLink RX10 19 (TX10 1).1 (TX10 1).2.1 (TX10 1).2.2.1 ∈ zWs := zq _ 354 (by decide +kernel) (by decide +kernel)
theorem qw_366 : Cond.fieldLink RX10 93 (TX5 5).1 (TX5 5).2.1 (TX5 5).2.2.1 ∈ zWs := zq _ 247 (by decide +kernel) (by decide +kernel)
theorem qw_367 : Cond.fieldLink RX10 89 (TX4 1).1 (TX4 1).2.1 (TX4 1).2.2.1 ∈ zWs := zq _ 319 (by decide +kernel) (by decide +kernel)
theorem qw_368 : Cond.methodLink RX10 83 yX5_copyFrom ∈ zWs := zq _ 616 (by decide +kernel) (by decide +kernel)
theorem vs_77 : zcv RX10 83 RX5 yX5_copyFrom cX5_copyFrom 3 (Option.none : Option Jvm.ClassFile.FieldType) 1 := ⟨qw_73, qw_74, (by decide +kernel), (by decide +kernel), qw_368, qw_76, qw_77⟩
theorem qw_369 : Cond.fieldLink RX10 29 (TX10 3).1 (TX10 3).2.1 (TX10 3).2.2.1 ∈ zWs := zq _ 356 (by decide +kernel) (by decide +kernel)
theorem qw_370 : Cond.code yX0_clear cX0_clear 1 (Option.none : Option Jvm.ClassFile.FieldType) ∈ zWs := zq _ 627 (by decide +kernel) (by decide +kernel)
theorem qw_371 : Cond.methodLink RX10 87 yX0_clear ∈ zWs := zq _ 624 (by decide +kernel) (by decide +kernel)
theorem qw_372 : Cond.instanceMethod yX0_clear ∈ zWs := zq _ 625 (by decide +kernel) (by decide +kernel)
theorem qw_373 : Cond.selects RX0 yX0_clear yX0_clear ∈ zWs := zq _ 626 (by decide +kernel) (by decide +kernel)
theorem vs_78 : zcv RX10 87 RX0 yX0_clear cX0_clear 1 (Option.none : Option Jvm.ClassFile.FieldType) 0 := ⟨qw_370, qw_69, (by decide +kernel), (by decide +kernel), qw_371, qw_372, qw_373⟩
theorem qw_374 : Cond.fieldLink RX10 35 (TX10 4).1 (TX10 4).2.1 (TX10 4).2.2.1 ∈ zWs := zq _ 357 (by decide +kernel) (by decide +kernel)
theorem qw_375 : Cond.fieldLink RX10 97 (TX5 3).1 (TX5 3).2.1 (TX5 3).2.2.1 ∈ zWs := zq _ 243 (by decide +kernel) (by decide +kernel)
theorem qw_376 : Cond.fieldLink RX10 101 (TX5 6).1 (TX5 6).2.1 (TX5 6).2.2.1 ∈ zWs := zq _ 249 (by decide +kernel) (by decide +kernel)
theorem qw_377 : Cond.fieldLink RX10 104 (TX6 0).1 (TX6 0).2.1 (TX6 0).2.2.1 ∈ zWs := zq _ 97 (by decide +kernel) (by decide +kernel)
theorem qw_378 : Cond.fieldLink RX10 109 (TX6 1).1 (TX6 1).2.1 (TX6 1).2.2.1 ∈ zWs := zq _ 99 (by decide +kernel) (by decide +kernel)
theorem qw_379 : Cond.fieldLink RX10 112 (TX5 7).1 (TX5 7).2.1 (TX5 7).2.2.1 ∈ zWs := zq _ 251 (by decide +kernel) (by decide +kernel)
theorem qw_380 : Cond.fieldLink RX10 115 (TX5 8).1 (TX5 8).2.1 (TX5 8).2.2.1 ∈ zWs := zq _ 253 (by decide +kernel) (by decide +kernel)
theorem qw_381 : Cond.fieldLink RX10 118 (TX5 9).1 (TX5 9).2.1 (TX5 9).2.2.1 ∈ zWs := zq _ 256 (by decide +kernel) (by decide +kernel)
theorem qw_382 : Cond.fieldLink RX10 121 (TX5 10).1 (TX5 10).2.1 (TX5 10).2.2.1 ∈ zWs := zq _ 259 (by decide +kernel) (by decide +kernel)
theorem qw_383 : Cond.methodLink RX10 124 yX5_numberAtFront ∈ zWs := zq _ 421 (by decide +kernel) (by decide +kernel)
theorem vs_79 : zcv RX10 124 RX5 yX5_numberAtFront cX5_numberAtFront 2 (Option.some Jvm.ClassFile.FieldType.int) 0 := ⟨qw_134, qw_74, (by decide +kernel), (by decide +kernel), qw_383, qw_136, qw_137⟩
theorem qw_384 : Cond.fieldLink RX10 127 (TX5 11).1 (TX5 11).2.1 (TX5 11).2.2.1 ∈ zWs := zq _ 262 (by decide +kernel) (by decide +kernel)
theorem qw_385 : Cond.code yX6_stageOfSplice cX6_stageOfSplice 1 (Option.some Jvm.ClassFile.FieldType.int) ∈ zWs := zq _ 428 (by decide +kernel) (by decide +kernel)
theorem qw_386 : Cond.methodLink RX10 130 yX6_stageOfSplice ∈ zWs := zq _ 425 (by decide +kernel) (by decide +kernel)
theorem qw_387 : Cond.instanceMethod yX6_stageOfSplice ∈ zWs := zq _ 426 (by decide +kernel) (by decide +kernel)
theorem qw_388 : Cond.selects RX6 yX6_stageOfSplice yX6_stageOfSplice ∈ zWs := zq _ 427 (by decide +kernel) (by decide +kernel)
theorem vs_80 : zcv RX10 130 RX6 yX6_stageOfSplice cX6_stageOfSplice 1 (Option.some Jvm.ClassFile.FieldType.int) 0 := ⟨qw_385, qw_39, (by decide +kernel), (by decide +kernel), qw_386, qw_387, qw_388⟩
theorem qw_389 : Cond.fieldLink RX10 133 (TX6 5).1 (TX6 5).2.1 (TX6 5).2.2.1 ∈ zWs := zq _ 105 (by decide +kernel) (by decide +kernel)
theorem qw_390 : Cond.fieldLink RX10 136 (TX6 6).1 (TX6 6).2.1 (TX6 6).2.2.1 ∈ zWs := zq _ 107 (by decide +kernel) (by decide +kernel)
theorem qw_391 : Cond.code yX6_freeTeams cX6_freeTeams 3 (Option.some Jvm.ClassFile.FieldType.int) ∈ zWs := zq _ 436 (by decide +kernel) (by decide +kernel)
theorem qw_392 : Cond.methodLink RX10 139 yX6_freeTeams ∈ zWs := zq _ 433 (by decide +kernel) (by decide +kernel)
theorem qw_393 : Cond.instanceMethod yX6_freeTeams ∈ zWs := zq _ 434 (by decide +kernel) (by decide +kernel)
theorem qw_394 : Cond.selects RX6 yX6_freeTeams yX6_freeTeams ∈ zWs := zq _ 435 (by decide +kernel) (by decide +kernel)
theorem vs_81 : zcv RX10 139 RX6 yX6_freeTeams cX6_freeTeams 3 (Option.some Jvm.ClassFile.FieldType.int) 0 := ⟨qw_391, qw_39, (by decide +kernel), (by decide +kernel), qw_392, qw_393, qw_394⟩
theorem qw_395 : Cond.methodLink RX10 344 yX5_zoneNumbered ∈ zWs := zq _ 520 (by decide +kernel) (by decide +kernel)
theorem vs_82 : zcv RX10 344 RX5 yX5_zoneNumbered cX5_zoneNumbered 2 (Option.some (Jvm.ClassFile.FieldType.object "CableLanding$Zone")) 1 := ⟨qw_181, qw_74, (by decide +kernel), (by decide +kernel), qw_395, qw_183, qw_184⟩
theorem qw_396 : Cond.classLink RX10 348 (zex 3) ∈ zWs := zq _ 524 (by decide +kernel) (by decide +kernel)
theorem qw_397 : Cond.initialized (zex 3) ∈ zWs := zq _ 32 (by decide +kernel) (by decide +kernel)
theorem ht_83_a : ∀ w ∈ vx_atS RX10 352 (zex 3) zNames, w ∈ zWs := zall (by decide +kernel)
theorem ht_83_b : ∀ w ∈ Cond.classLink RX10 348 (zex 3) :: Cond.initialized (zex 3) :: vx_atS RX10 352 (zex 3) zNames, vx_ot w = true := zall2 (by decide +kernel)
theorem qw_398 : Cond.code yX10_existingZone cX10_existingZone 3 (Option.some (Jvm.ClassFile.FieldType.object "CableLanding$Zone")) ∈ zWs := zq _ 519 (by decide +kernel) (by decide +kernel)
theorem qw_399 : Cond.methodLink RX10 149 yX10_existingZone ∈ zWs := zq _ 517 (by decide +kernel) (by decide +kernel)
theorem qw_400 : Cond.static yX10_existingZone ∈ zWs := zq _ 518 (by decide +kernel) (by decide +kernel)
theorem vs_84 : zcs RX10 149 yX10_existingZone cX10_existingZone 3 (Option.some (Jvm.ClassFile.FieldType.object "CableLanding$Zone")) 2 := ⟨qw_398, qw_344, (by decide +kernel), (by decide +kernel), qw_399, qw_400⟩
theorem qw_401 : Cond.fieldLink RX10 153 (TX9 0).1 (TX9 0).2.1 (TX9 0).2.2.1 ∈ zWs := zq _ 172 (by decide +kernel) (by decide +kernel)
theorem qw_402 : Cond.fieldLink RX10 158 (TX9 1).1 (TX9 1).2.1 (TX9 1).2.2.1 ∈ zWs := zq _ 175 (by decide +kernel) (by decide +kernel)
theorem qw_403 : Cond.fieldLink RX10 161 (TX9 2).1 (TX9 2).2.1 (TX9 2).2.2.1 ∈ zWs := zq _ 178 (by decide +kernel) (by decide +kernel)
theorem qw_404 : Cond.fieldLink RX10 164 (TX9 3).1 (TX9 3).2.1 (TX9 3).2.2.1 ∈ zWs := zq _ 181 (by decide +kernel) (by decide +kernel)
theorem qw_405 : Cond.code yX5_leftIn cX5_leftIn 3 (Option.some Jvm.ClassFile.FieldType.int) ∈ zWs := zq _ 543 (by decide +kernel) (by decide +kernel)
theorem qw_406 : Cond.methodLink RX10 167 yX5_leftIn ∈ zWs := zq _ 540 (by decide +kernel) (by decide +kernel)
theorem qw_407 : Cond.instanceMethod yX5_leftIn ∈ zWs := zq _ 541 (by decide +kernel) (by decide +kernel)
theorem qw_408 : Cond.selects RX5 yX5_leftIn yX5_leftIn ∈ zWs := zq _ 542 (by decide +kernel) (by decide +kernel)
theorem vs_85 : zcv RX10 167 RX5 yX5_leftIn cX5_leftIn 3 (Option.some Jvm.ClassFile.FieldType.int) 2 := ⟨qw_405, qw_74, (by decide +kernel), (by decide +kernel), qw_406, qw_407, qw_408⟩
theorem qw_409 : Cond.methodLink RX10 353 yX5_shipNumbered ∈ zWs := zq _ 704 (by decide +kernel) (by decide +kernel)
theorem vs_86 : zcv RX10 353 RX5 yX5_shipNumbered cX5_shipNumbered 2 (Option.some (Jvm.ClassFile.FieldType.object "CableLanding$Ship")) 1 := ⟨qw_177, qw_74, (by decide +kernel), (by decide +kernel), qw_409, qw_179, qw_180⟩
theorem qw_410 : Cond.code yX10_existingShip cX10_existingShip 3 (Option.some (Jvm.ClassFile.FieldType.object "CableLanding$Ship")) ∈ zWs := zq _ 703 (by decide +kernel) (by decide +kernel)
theorem qw_411 : Cond.methodLink RX10 173 yX10_existingShip ∈ zWs := zq _ 700 (by decide +kernel) (by decide +kernel)
theorem qw_412 : Cond.instanceMethod yX10_existingShip ∈ zWs := zq _ 702 (by decide +kernel) (by decide +kernel)
theorem qw_413 : Cond.selects RX10 yX10_existingShip yX10_existingShip ∈ zWs := zq _ 11 (by decide +kernel) (by decide +kernel)
theorem vs_87 : zcv RX10 173 RX10 yX10_existingShip cX10_existingShip 3 (Option.some (Jvm.ClassFile.FieldType.object "CableLanding$Ship")) 1 := ⟨qw_410, qw_344, (by decide +kernel), (by decide +kernel), qw_411, qw_412, qw_413⟩
theorem qw_414 : Cond.fieldLink RX10 177 (TX3 0).1 (TX3 0).2.1 (TX3 0).2.2.1 ∈ zWs := zq _ 197 (by decide +kernel) (by decide +kernel)
theorem qw_415 : Cond.fieldLink RX10 182 (TX3 1).1 (TX3 1).2.1 (TX3 1).2.2.1 ∈ zWs := zq _ 200 (by decide +kernel) (by decide +kernel)
theorem qw_416 : Cond.fieldLink RX10 185 (TX3 2).1 (TX3 2).2.1 (TX3 2).2.2.1 ∈ zWs := zq _ 203 (by decide +kernel) (by decide +kernel)
theorem qw_417 : Cond.fieldLink RX10 188 (TX3 3).1 (TX3 3).2.1 (TX3 3).2.2.1 ∈ zWs := zq _ 206 (by decide +kernel) (by decide +kernel)
theorem qw_418 : Cond.fieldLink RX10 191 (TX3 4).1 (TX3 4).2.1 (TX3 4).2.2.1 ∈ zWs := zq _ 209 (by decide +kernel) (by decide +kernel)
theorem qw_419 : Cond.fieldLink RX10 194 (TX3 5).1 (TX3 5).2.1 (TX3 5).2.2.1 ∈ zWs := zq _ 212 (by decide +kernel) (by decide +kernel)
theorem qw_420 : Cond.fieldLink RX10 197 (TX3 6).1 (TX3 6).2.1 (TX3 6).2.2.1 ∈ zWs := zq _ 216 (by decide +kernel) (by decide +kernel)
theorem qw_421 : Cond.fieldLink RX10 198 (TX3 7).1 (TX3 7).2.1 (TX3 7).2.2.1 ∈ zWs := zq _ 218 (by decide +kernel) (by decide +kernel)
theorem qw_422 : Cond.fieldLink RX10 51 (TX5 2).1 (TX5 2).2.1 (TX5 2).2.2.1 ∈ zWs := zq _ 240 (by decide +kernel) (by decide +kernel)
theorem qw_423 : Cond.methodLink RX10 203 yX8_on ∈ zWs := zq _ 720 (by decide +kernel) (by decide +kernel)
theorem vs_88 : zcv RX10 203 RX8 yX8_on cX8_on 3 (Option.some Jvm.ClassFile.FieldType.int) 1 := ⟨qw_164, qw_33, (by decide +kernel), (by decide +kernel), qw_423, qw_166, qw_167⟩
theorem qw_424 : Cond.fieldLink RX10 207 (TX5 4).1 (TX5 4).2.1 (TX5 4).2.2.1 ∈ zWs := zq _ 245 (by decide +kernel) (by decide +kernel)
theorem qw_425 : Cond.fieldLink RX10 211 (TX1 0).1 (TX1 0).2.1 (TX1 0).2.2.1 ∈ zWs := zq _ 130 (by decide +kernel) (by decide +kernel)
theorem qw_426 : Cond.fieldLink RX10 216 (TX1 1).1 (TX1 1).2.1 (TX1 1).2.2.1 ∈ zWs := zq _ 133 (by decide +kernel) (by decide +kernel)
theorem qw_427 : Cond.fieldLink RX10 217 (TX1 2).1 (TX1 2).2.1 (TX1 2).2.2.1 ∈ zWs := zq _ 136 (by decide +kernel) (by decide +kernel)
theorem qw_428 : Cond.code yX5_aboardOfAll cX5_aboardOfAll 6 (Option.some Jvm.ClassFile.FieldType.int) ∈ zWs := zq _ 691 (by decide +kernel) (by decide +kernel)
theorem qw_429 : Cond.methodLink RX10 220 yX5_aboardOfAll ∈ zWs := zq _ 688 (by decide +kernel) (by decide +kernel)
theorem qw_430 : Cond.instanceMethod yX5_aboardOfAll ∈ zWs := zq _ 689 (by decide +kernel) (by decide +kernel)
theorem qw_431 : Cond.selects RX5 yX5_aboardOfAll yX5_aboardOfAll ∈ zWs := zq _ 690 (by decide +kernel) (by decide +kernel)
theorem vs_89 : zcv RX10 220 RX5 yX5_aboardOfAll cX5_aboardOfAll 6 (Option.some Jvm.ClassFile.FieldType.int) 0 := ⟨qw_428, qw_74, (by decide +kernel), (by decide +kernel), qw_429, qw_430, qw_431⟩
theorem qw_432 : Cond.fieldLink RX10 223 (TX1 3).1 (TX1 3).2.1 (TX1 3).2.2.1 ∈ zWs := zq _ 139 (by decide +kernel) (by decide +kernel)
theorem qw_433 : Cond.fieldLink RX10 226 (TX1 4).1 (TX1 4).2.1 (TX1 4).2.2.1 ∈ zWs := zq _ 142 (by decide +kernel) (by decide +kernel)
theorem qw_434 : Cond.fieldLink RX10 229 (TX1 5).1 (TX1 5).2.1 (TX1 5).2.2.1 ∈ zWs := zq _ 145 (by decide +kernel) (by decide +kernel)
theorem qw_435 : Cond.fieldLink RX10 232 (TX1 6).1 (TX1 6).2.1 (TX1 6).2.2.1 ∈ zWs := zq _ 148 (by decide +kernel) (by decide +kernel)
theorem qw_436 : Cond.methodLink RX10 237 yX5_canLoadOnto ∈ zWs := zq _ 734 (by decide +kernel) (by decide +kernel)
theorem vs_90 : zcv RX10 237 RX5 yX5_canLoadOnto cX5_canLoadOnto 3 (Option.some Jvm.ClassFile.FieldType.boolean) 2 := ⟨qw_82, qw_74, (by decide +kernel), (by decide +kernel), qw_436, qw_84, qw_85⟩
theorem qw_437 : Cond.code yX0_remember cX0_remember 3 (Option.none : Option Jvm.ClassFile.FieldType) ∈ zWs := zq _ 741 (by decide +kernel) (by decide +kernel)
theorem qw_438 : Cond.methodLink RX10 241 yX0_remember ∈ zWs := zq _ 738 (by decide +kernel) (by decide +kernel)
theorem qw_439 : Cond.instanceMethod yX0_remember ∈ zWs := zq _ 739 (by decide +kernel) (by decide +kernel)
theorem qw_440 : Cond.selects RX0 yX0_remember yX0_remember ∈ zWs := zq _ 740 (by decide +kernel) (by decide +kernel)
theorem vs_91 : zcv RX10 241 RX0 yX0_remember cX0_remember 3 (Option.none : Option Jvm.ClassFile.FieldType) 1 := ⟨qw_437, qw_69, (by decide +kernel), (by decide +kernel), qw_438, qw_439, qw_440⟩
theorem qw_441 : Cond.methodLink RX10 244 yX5_loadOnto ∈ zWs := zq _ 742 (by decide +kernel) (by decide +kernel)
theorem vs_92 : zcv RX10 244 RX5 yX5_loadOnto cX5_loadOnto 3 (Option.none : Option Jvm.ClassFile.FieldType) 2 := ⟨qw_86, qw_74, (by decide +kernel), (by decide +kernel), qw_441, qw_88, qw_89⟩
theorem qw_442 : Cond.methodLink RX10 248 yX5_canSendOut ∈ zWs := zq _ 753 (by decide +kernel) (by decide +kernel)
theorem vs_93 : zcv RX10 248 RX5 yX5_canSendOut cX5_canSendOut 2 (Option.some Jvm.ClassFile.FieldType.boolean) 1 := ⟨qw_98, qw_74, (by decide +kernel), (by decide +kernel), qw_442, qw_100, qw_101⟩
theorem qw_443 : Cond.methodLink RX10 252 yX5_sendOut ∈ zWs := zq _ 761 (by decide +kernel) (by decide +kernel)
theorem vs_94 : zcv RX10 252 RX5 yX5_sendOut cX5_sendOut 2 (Option.none : Option Jvm.ClassFile.FieldType) 1 := ⟨qw_102, qw_74, (by decide +kernel), (by decide +kernel), qw_443, qw_104, qw_105⟩
theorem qw_444 : Cond.methodLink RX10 256 yX5_canCallHome ∈ zWs := zq _ 776 (by decide +kernel) (by decide +kernel)
theorem vs_95 : zcv RX10 256 RX5 yX5_canCallHome cX5_canCallHome 2 (Option.some Jvm.ClassFile.FieldType.boolean) 1 := ⟨qw_114, qw_74, (by decide +kernel), (by decide +kernel), qw_444, qw_116, qw_117⟩
theorem qw_445 : Cond.methodLink RX10 259 yX5_callHome ∈ zWs := zq _ 780 (by decide +kernel) (by decide +kernel)
theorem vs_96 : zcv RX10 259 RX5 yX5_callHome cX5_callHome 2 (Option.none : Option Jvm.ClassFile.FieldType) 1 := ⟨qw_118, qw_74, (by decide +kernel), (by decide +kernel), qw_445, qw_120, qw_121⟩
theorem qw_446 : Cond.methodLink RX10 262 yX5_canProlong ∈ zWs := zq _ 799 (by decide +kernel) (by decide +kernel)
theorem vs_97 : zcv RX10 262 RX5 yX5_canProlong cX5_canProlong 3 (Option.some Jvm.ClassFile.FieldType.boolean) 2 := ⟨qw_124, qw_74, (by decide +kernel), (by decide +kernel), qw_446, qw_126, qw_127⟩
theorem qw_447 : Cond.methodLink RX10 266 yX5_prolong ∈ zWs := zq _ 803 (by decide +kernel) (by decide +kernel)
theorem vs_98 : zcv RX10 266 RX5 yX5_prolong cX5_prolong 3 (Option.none : Option Jvm.ClassFile.FieldType) 2 := ⟨qw_128, qw_74, (by decide +kernel), (by decide +kernel), qw_447, qw_130, qw_131⟩
theorem qw_448 : Cond.methodLink RX10 270 yX5_canPurchase ∈ zWs := zq _ 814 (by decide +kernel) (by decide +kernel)
theorem vs_99 : zcv RX10 270 RX5 yX5_canPurchase cX5_canPurchase 2 (Option.some Jvm.ClassFile.FieldType.boolean) 1 := ⟨qw_218, qw_74, (by decide +kernel), (by decide +kernel), qw_448, qw_220, qw_221⟩
theorem qw_449 : Cond.methodLink RX10 274 yX5_purchase ∈ zWs := zq _ 818 (by decide +kernel) (by decide +kernel)
theorem vs_100 : zcv RX10 274 RX5 yX5_purchase cX5_purchase 2 (Option.none : Option Jvm.ClassFile.FieldType) 1 := ⟨qw_222, qw_74, (by decide +kernel), (by decide +kernel), qw_449, qw_224, qw_225⟩
theorem qw_450 : Cond.fieldLink RX10 277 (TX8 0).1 (TX8 0).2.1 (TX8 0).2.2.1 ∈ zWs := zq _ 82 (by decide +kernel) (by decide +kernel)
theorem qw_451 : Cond.methodLink RX10 278 yX8_change ∈ zWs := zq _ 829 (by decide +kernel) (by decide +kernel)
theorem vs_101 : zcv RX10 278 RX8 yX8_change cX8_change 4 (Option.some Jvm.ClassFile.FieldType.int) 2 := ⟨qw_276, qw_33, (by decide +kernel), (by decide +kernel), qw_451, qw_278, qw_279⟩
theorem qw_452 : Cond.methodLink RX10 282 yX5_passDays ∈ zWs := zq _ 840 (by decide +kernel) (by decide +kernel)
theorem vs_102 : zcv RX10 282 RX5 yX5_passDays cX5_passDays 3 (Option.none : Option Jvm.ClassFile.FieldType) 1 := ⟨qw_242, qw_74, (by decide +kernel), (by decide +kernel), qw_452, qw_244, qw_245⟩
theorem qw_453 : Cond.fieldLink RX10 285 (TX0 2).1 (TX0 2).2.1 (TX0 2).2.2.1 ∈ zWs := zq _ 300 (by decide +kernel) (by decide +kernel)
theorem qw_454 : Cond.code yX0_takeBack cX0_takeBack 3 (Option.some Jvm.ClassFile.FieldType.int) ∈ zWs := zq _ 575 (by decide +kernel) (by decide +kernel)
theorem qw_455 : Cond.methodLink RX10 286 yX0_takeBack ∈ zWs := zq _ 572 (by decide +kernel) (by decide +kernel)
theorem qw_456 : Cond.instanceMethod yX0_takeBack ∈ zWs := zq _ 573 (by decide +kernel) (by decide +kernel)
theorem qw_457 : Cond.selects RX0 yX0_takeBack yX0_takeBack ∈ zWs := zq _ 574 (by decide +kernel) (by decide +kernel)
theorem vs_103 : zcv RX10 286 RX0 yX0_takeBack cX0_takeBack 3 (Option.some Jvm.ClassFile.FieldType.int) 1 := ⟨qw_454, qw_69, (by decide +kernel), (by decide +kernel), qw_455, qw_456, qw_457⟩
theorem qw_458 : Cond.methodLink RX10 289 yX9_cableFor ∈ zWs := zq _ 904 (by decide +kernel) (by decide +kernel)
theorem vs_104 : zcv RX10 289 RX9 yX9_cableFor cX9_cableFor 2 (Option.some Jvm.ClassFile.FieldType.int) 1 := ⟨qw_153, qw_64, (by decide +kernel), (by decide +kernel), qw_458, qw_155, qw_156⟩
theorem qw_459 : Cond.methodLink RX10 292 yX9_mostUnits ∈ zWs := zq _ 912 (by decide +kernel) (by decide +kernel)
theorem vs_105 : zcv RX10 292 RX9 yX9_mostUnits cX9_mostUnits 4 (Option.some Jvm.ClassFile.FieldType.int) 2 := ⟨qw_149, qw_64, (by decide +kernel), (by decide +kernel), qw_459, qw_151, qw_152⟩
theorem qw_460 : Cond.methodLink RX10 295 Lib.Math.max.name ∈ zWs := zq _ 920 (by decide +kernel) (by decide +kernel)
theorem qw_461 : Cond.static Lib.Math.max.name ∈ zWs := zq _ 921 (by decide +kernel) (by decide +kernel)
theorem qw_462 : Cond.code Lib.Math.max.name Lib.Math.max.code 2 (some .int) ∈ zWs := zq _ 922 (by decide +kernel) (by decide +kernel)
theorem qw_463 : Cond.code yX5_daysUntilDone cX5_daysUntilDone 3 (Option.some Jvm.ClassFile.FieldType.int) ∈ zWs := zq _ 940 (by decide +kernel) (by decide +kernel)
theorem qw_464 : Cond.methodLink RX10 300 yX5_daysUntilDone ∈ zWs := zq _ 937 (by decide +kernel) (by decide +kernel)
theorem qw_465 : Cond.instanceMethod yX5_daysUntilDone ∈ zWs := zq _ 938 (by decide +kernel) (by decide +kernel)
theorem qw_466 : Cond.selects RX5 yX5_daysUntilDone yX5_daysUntilDone ∈ zWs := zq _ 939 (by decide +kernel) (by decide +kernel)
theorem vs_106 : zcv RX10 300 RX5 yX5_daysUntilDone cX5_daysUntilDone 3 (Option.some Jvm.ClassFile.FieldType.int) 1 := ⟨qw_463, qw_74, (by decide +kernel), (by decide +kernel), qw_464, qw_465, qw_466⟩
theorem qw_467 : Cond.methodLink RX10 303 yX5_fillAndSend ∈ zWs := zq _ 1031 (by decide +kernel) (by decide +kernel)
theorem vs_107 : zcv RX10 303 RX5 yX5_fillAndSend cX5_fillAndSend 3 (Option.some Jvm.ClassFile.FieldType.boolean) 1 := ⟨qw_272, qw_74, (by decide +kernel), (by decide +kernel), qw_467, qw_274, qw_275⟩
theorem qw_468 : Cond.methodLink RX10 306 Lib.Math.min.name ∈ zWs := zq _ 948 (by decide +kernel) (by decide +kernel)
theorem qw_469 : Cond.code yX2_withoutLast cX2_withoutLast 6 (Option.some Jvm.ClassFile.FieldType.long) ∈ zWs := zq _ 958 (by decide +kernel) (by decide +kernel)
theorem qw_470 : Cond.methodLink RX10 309 yX2_withoutLast ∈ zWs := zq _ 956 (by decide +kernel) (by decide +kernel)
theorem qw_471 : Cond.static yX2_withoutLast ∈ zWs := zq _ 957 (by decide +kernel) (by decide +kernel)
theorem vs_108 : zcs RX10 309 yX2_withoutLast cX2_withoutLast 6 (Option.some Jvm.ClassFile.FieldType.long) 2 := ⟨qw_469, qw_229, (by decide +kernel), (by decide +kernel), qw_470, qw_471⟩
theorem qw_472 : Cond.constantLong RX10 317 (100000 : Int64) ∈ zWs := zq _ 961 (by decide +kernel) (by decide +kernel)
theorem qw_473 : Cond.code yX2_succeeds cX2_succeeds 4 (Option.some Jvm.ClassFile.FieldType.boolean) ∈ zWs := zq _ 964 (by decide +kernel) (by decide +kernel)
theorem qw_474 : Cond.methodLink RX10 319 yX2_succeeds ∈ zWs := zq _ 962 (by decide +kernel) (by decide +kernel)
theorem qw_475 : Cond.static yX2_succeeds ∈ zWs := zq _ 963 (by decide +kernel) (by decide +kernel)
theorem vs_109 : zcs RX10 319 yX2_succeeds cX2_succeeds 4 (Option.some Jvm.ClassFile.FieldType.boolean) 2 := ⟨qw_473, qw_229, (by decide +kernel), (by decide +kernel), qw_474, qw_475⟩
theorem qw_476 : Cond.constantLong RX10 323 (6364136223846793005 : Int64) ∈ zWs := zq _ 1004 (by decide +kernel) (by decide +kernel)
theorem qw_477 : Cond.constantLong RX10 325 (1442695040888963407 : Int64) ∈ zWs := zq _ 1005 (by decide +kernel) (by decide +kernel)
theorem qw_478 : Cond.code yX5_playRound cX5_playRound 3 (Option.none : Option Jvm.ClassFile.FieldType) ∈ zWs := zq _ 1009 (by decide +kernel) (by decide +kernel)
theorem qw_479 : Cond.methodLink RX10 327 yX5_playRound ∈ zWs := zq _ 1006 (by decide +kernel) (by decide +kernel)
theorem qw_480 : Cond.instanceMethod yX5_playRound ∈ zWs := zq _ 1007 (by decide +kernel) (by decide +kernel)
theorem qw_481 : Cond.selects RX5 yX5_playRound yX5_playRound ∈ zWs := zq _ 1008 (by decide +kernel) (by decide +kernel)
theorem vs_110 : zcv RX10 327 RX5 yX5_playRound cX5_playRound 3 (Option.none : Option Jvm.ClassFile.FieldType) 1 := ⟨qw_478, qw_74, (by decide +kernel), (by decide +kernel), qw_479, qw_480, qw_481⟩
theorem qw_482 : Cond.code yX10_existingSlot cX10_existingSlot 2 (Option.some (Jvm.ClassFile.FieldType.object "CableLanding$Slot")) ∈ zWs := zq _ 614 (by decide +kernel) (by decide +kernel)
theorem qw_483 : Cond.methodLink RX10 330 yX10_existingSlot ∈ zWs := zq _ 611 (by decide +kernel) (by decide +kernel)
theorem qw_484 : Cond.instanceMethod yX10_existingSlot ∈ zWs := zq _ 613 (by decide +kernel) (by decide +kernel)
theorem qw_485 : Cond.selects RX10 yX10_existingSlot yX10_existingSlot ∈ zWs := zq _ 10 (by decide +kernel) (by decide +kernel)
theorem vs_111 : zcv RX10 330 RX10 yX10_existingSlot cX10_existingSlot 2 (Option.some (Jvm.ClassFile.FieldType.object "CableLanding$Slot")) 1 := ⟨qw_482, qw_344, (by decide +kernel), (by decide +kernel), qw_483, qw_484, qw_485⟩
theorem qw_486 : Cond.fieldLink RX10 334 (TX4 0).1 (TX4 0).2.1 (TX4 0).2.2.1 ∈ zWs := zq _ 318 (by decide +kernel) (by decide +kernel)
theorem qw_487 : Cond.methodLink RX8 3 objectInit ∈ zWs := zq _ 79 (by decide +kernel) (by decide +kernel)
theorem qw_488 : Cond.instanceMethod objectInit ∈ zWs := zq _ 42 (by decide +kernel) (by decide +kernel)
theorem qw_489 : Cond.code objectInit ⟨#[0xb1]⟩ 1 none ∈ zWs := zq _ 43 (by decide +kernel) (by decide +kernel)
theorem qw_490 : Cond.arrayClass (newarray.typeOf .int) ∈ zWs := zq _ 89 (by decide +kernel) (by decide +kernel)
theorem qw_491 : Cond.methodLink RX6 3 objectInit ∈ zWs := zq _ 95 (by decide +kernel) (by decide +kernel)
theorem qw_492 : Cond.methodLink RX1 1 objectInit ∈ zWs := zq _ 128 (by decide +kernel) (by decide +kernel)
theorem qw_493 : Cond.methodLink RX9 1 objectInit ∈ zWs := zq _ 169 (by decide +kernel) (by decide +kernel)
theorem qw_494 : Cond.methodLink RX3 1 objectInit ∈ zWs := zq _ 195 (by decide +kernel) (by decide +kernel)
theorem qw_495 : Cond.methodLink RX5 3 objectInit ∈ zWs := zq _ 69 (by decide +kernel) (by decide +kernel)
theorem qw_496 : Cond.classLink RX5 11 "CableLanding$Zone" ∈ zWs := zq _ 70 (by decide +kernel) (by decide +kernel)
theorem qw_497 : Cond.arrayOver (.object "CableLanding$Zone") ∈ zWs := zq _ 71 (by decide +kernel) (by decide +kernel)
theorem qw_498 : Cond.classLink RX5 17 "CableLanding$Ship" ∈ zWs := zq _ 72 (by decide +kernel) (by decide +kernel)
theorem qw_499 : Cond.arrayOver (.object "CableLanding$Ship") ∈ zWs := zq _ 73 (by decide +kernel) (by decide +kernel)
theorem qw_500 : Cond.classLink RX5 23 RX8 ∈ zWs := zq _ 74 (by decide +kernel) (by decide +kernel)
theorem qw_501 : Cond.instantiable RX8 2 ∈ zWs := zq _ 75 (by decide +kernel) (by decide +kernel)
theorem qw_502 : Cond.methodLinkNest RX5 25 yX8_init "CableLanding" ∈ zWs := zq _ 76 (by decide +kernel) (by decide +kernel)
theorem qw_503 : Cond.code yX8_init cX8_init 1 (Option.none : Option Jvm.ClassFile.FieldType) ∈ zWs := zq _ 78 (by decide +kernel) (by decide +kernel)
theorem qw_504 : Cond.instanceMethod yX8_init ∈ zWs := zq _ 77 (by decide +kernel) (by decide +kernel)
theorem vs_112 : zci RX5 25 yX8_init cX8_init 1 := ⟨qw_503, qw_33, (by decide +kernel), (by decide +kernel), Or.inr ⟨"CableLanding", qw_502⟩, qw_504, rfl⟩
theorem qw_505 : Cond.classLink RX5 30 RX6 ∈ zWs := zq _ 90 (by decide +kernel) (by decide +kernel)
theorem qw_506 : Cond.instantiable RX6 7 ∈ zWs := zq _ 91 (by decide +kernel) (by decide +kernel)
theorem qw_507 : Cond.methodLinkNest RX5 32 yX6_init "CableLanding" ∈ zWs := zq _ 92 (by decide +kernel) (by decide +kernel)
theorem qw_508 : Cond.code yX6_init cX6_init 1 (Option.none : Option Jvm.ClassFile.FieldType) ∈ zWs := zq _ 94 (by decide +kernel) (by decide +kernel)
theorem qw_509 : Cond.instanceMethod yX6_init ∈ zWs := zq _ 93 (by decide +kernel) (by decide +kernel)
theorem vs_113 : zci RX5 32 yX6_init cX6_init 1 := ⟨qw_508, qw_39, (by decide +kernel), (by decide +kernel), Or.inr ⟨"CableLanding", qw_507⟩, qw_509, rfl⟩
theorem qw_510 : Cond.classLink RX5 37 RX1 ∈ zWs := zq _ 123 (by decide +kernel) (by decide +kernel)
theorem qw_511 : Cond.instantiable RX1 7 ∈ zWs := zq _ 124 (by decide +kernel) (by decide +kernel)
theorem qw_512 : Cond.methodLinkNest RX5 39 yX1_init "CableLanding" ∈ zWs := zq _ 125 (by decide +kernel) (by decide +kernel)
theorem qw_513 : Cond.code yX1_init cX1_init 1 (Option.none : Option Jvm.ClassFile.FieldType) ∈ zWs := zq _ 127 (by decide +kernel) (by decide +kernel)
theorem qw_514 : Cond.instanceMethod yX1_init ∈ zWs := zq _ 126 (by decide +kernel) (by decide +kernel)
theorem vs_114 : zci RX5 39 yX1_init cX1_init 1 := ⟨qw_513, qw_45, (by decide +kernel), (by decide +kernel), Or.inr ⟨"CableLanding", qw_512⟩, qw_514, rfl⟩
theorem qw_515 : Cond.instantiable RX9 4 ∈ zWs := zq _ 165 (by decide +kernel) (by decide +kernel)
theorem qw_516 : Cond.methodLinkNest RX5 44 yX9_init "CableLanding" ∈ zWs := zq _ 166 (by decide +kernel) (by decide +kernel)
theorem qw_517 : Cond.code yX9_init cX9_init 1 (Option.none : Option Jvm.ClassFile.FieldType) ∈ zWs := zq _ 168 (by decide +kernel) (by decide +kernel)
theorem qw_518 : Cond.instanceMethod yX9_init ∈ zWs := zq _ 167 (by decide +kernel) (by decide +kernel)
theorem vs_115 : zci RX5 44 yX9_init cX9_init 1 := ⟨qw_517, qw_64, (by decide +kernel), (by decide +kernel), Or.inr ⟨"CableLanding", qw_516⟩, qw_518, rfl⟩
theorem qw_519 : Cond.instantiable RX3 8 ∈ zWs := zq _ 191 (by decide +kernel) (by decide +kernel)
theorem qw_520 : Cond.methodLinkNest RX5 45 yX3_init "CableLanding" ∈ zWs := zq _ 192 (by decide +kernel) (by decide +kernel)
theorem qw_521 : Cond.code yX3_init cX3_init 1 (Option.none : Option Jvm.ClassFile.FieldType) ∈ zWs := zq _ 194 (by decide +kernel) (by decide +kernel)
theorem qw_522 : Cond.instanceMethod yX3_init ∈ zWs := zq _ 193 (by decide +kernel) (by decide +kernel)
theorem vs_116 : zci RX5 45 yX3_init cX3_init 1 := ⟨qw_521, qw_58, (by decide +kernel), (by decide +kernel), Or.inr ⟨"CableLanding", qw_520⟩, qw_522, rfl⟩
theorem qw_523 : Cond.methodLink RX0 1 objectInit ∈ zWs := zq _ 293 (by decide +kernel) (by decide +kernel)
theorem qw_524 : Cond.classLink RX0 9 "CableLanding$State" ∈ zWs := zq _ 294 (by decide +kernel) (by decide +kernel)
theorem qw_525 : Cond.arrayOver (.object "CableLanding$State") ∈ zWs := zq _ 295 (by decide +kernel) (by decide +kernel)
theorem qw_526 : Cond.instantiable RX5 12 ∈ zWs := zq _ 65 (by decide +kernel) (by decide +kernel)
theorem qw_527 : Cond.methodLink RX0 15 yX5_init ∈ zWs := zq _ 296 (by decide +kernel) (by decide +kernel)
theorem qw_528 : Cond.code yX5_init cX5_init 2 (Option.none : Option Jvm.ClassFile.FieldType) ∈ zWs := zq _ 68 (by decide +kernel) (by decide +kernel)
theorem qw_529 : Cond.instanceMethod yX5_init ∈ zWs := zq _ 67 (by decide +kernel) (by decide +kernel)
theorem vs_117 : zci RX0 15 yX5_init cX5_init 2 := ⟨qw_528, qw_74, (by decide +kernel), (by decide +kernel), Or.inl qw_527, qw_529, rfl⟩
theorem qw_530 : Cond.methodLink RX4 1 objectInit ∈ zWs := zq _ 314 (by decide +kernel) (by decide +kernel)
theorem qw_531 : Cond.classLink RX4 7 RX5 ∈ zWs := zq _ 315 (by decide +kernel) (by decide +kernel)
theorem qw_532 : Cond.methodLink RX4 9 yX5_init ∈ zWs := zq _ 316 (by decide +kernel) (by decide +kernel)
theorem vs_118 : zci RX4 9 yX5_init cX5_init 2 := ⟨qw_528, qw_74, (by decide +kernel), (by decide +kernel), Or.inl qw_532, qw_529, rfl⟩
theorem qw_533 : Cond.fieldLink RX4 10 (TX4 0).1 (TX4 0).2.1 (TX4 0).2.2.1 ∈ zWs := zq _ 317 (by decide +kernel) (by decide +kernel)
theorem qw_534 : Cond.methodLink RX7 3 objectInit ∈ zWs := zq _ 49 (by decide +kernel) (by decide +kernel)
theorem qw_535 : Cond.arrayClass (newarray.typeOf .char) ∈ zWs := zq _ 63 (by decide +kernel) (by decide +kernel)
theorem qw_536 : Cond.methodLink RX10 1 objectInit ∈ zWs := zq _ 41 (by decide +kernel) (by decide +kernel)
theorem qw_537 : Cond.classLink RX10 7 RX7 ∈ zWs := zq _ 44 (by decide +kernel) (by decide +kernel)
end
section
theorem qw_538 : Cond.instantiable RX7 4 ∈ zWs := zq _ 45 (by decide +kernel) (by decide +kernel)
theorem qw_539 : Cond.methodLinkNest RX10 9 yX7_init "CableLanding" ∈ zWs := zq _ 46 (by decide +kernel) (by decide +kernel)
theorem qw_540 : Cond.code yX7_init cX7_init 1 (Option.none : Option Jvm.ClassFile.FieldType) ∈ zWs := zq _ 48 (by decide +kernel) (by decide +kernel)
theorem qw_541 : Cond.instanceMethod yX7_init ∈ zWs := zq _ 47 (by decide +kernel) (by decide +kernel)
theorem vs_119 : zci RX10 9 yX7_init cX7_init 1 := ⟨qw_540, qw_284, (by decide +kernel), (by decide +kernel), Or.inr ⟨"CableLanding", qw_539⟩, qw_541, rfl⟩
theorem qw_542 : Cond.classLink RX10 16 RX5 ∈ zWs := zq _ 64 (by decide +kernel) (by decide +kernel)
theorem qw_543 : Cond.methodLink RX10 18 yX5_init ∈ zWs := zq _ 66 (by decide +kernel) (by decide +kernel)
theorem vs_120 : zci RX10 18 yX5_init cX5_init 2 := ⟨qw_528, qw_74, (by decide +kernel), (by decide +kernel), Or.inl qw_543, qw_529, rfl⟩
theorem qw_544 : Cond.classLink RX10 26 RX0 ∈ zWs := zq _ 288 (by decide +kernel) (by decide +kernel)
theorem qw_545 : Cond.instantiable RX0 3 ∈ zWs := zq _ 289 (by decide +kernel) (by decide +kernel)
theorem qw_546 : Cond.methodLink RX10 28 yX0_init ∈ zWs := zq _ 290 (by decide +kernel) (by decide +kernel)
theorem qw_547 : Cond.code yX0_init cX0_init 2 (Option.none : Option Jvm.ClassFile.FieldType) ∈ zWs := zq _ 292 (by decide +kernel) (by decide +kernel)
theorem qw_548 : Cond.instanceMethod yX0_init ∈ zWs := zq _ 291 (by decide +kernel) (by decide +kernel)
theorem vs_121 : zci RX10 28 yX0_init cX0_init 2 := ⟨qw_547, qw_69, (by decide +kernel), (by decide +kernel), Or.inl qw_546, qw_548, rfl⟩
theorem qw_549 : Cond.classLink RX10 33 "CableLanding$Slot" ∈ zWs := zq _ 308 (by decide +kernel) (by decide +kernel)
theorem qw_550 : Cond.arrayOver (.object "CableLanding$Slot") ∈ zWs := zq _ 309 (by decide +kernel) (by decide +kernel)
theorem qw_551 : Cond.instantiable RX4 2 ∈ zWs := zq _ 310 (by decide +kernel) (by decide +kernel)
theorem qw_552 : Cond.initialized RX4 ∈ zWs := zq _ 27 (by decide +kernel) (by decide +kernel)
theorem qw_553 : Cond.methodLinkNest RX10 39 yX4_init "CableLanding" ∈ zWs := zq _ 311 (by decide +kernel) (by decide +kernel)
theorem qw_554 : Cond.code yX4_init cX4_init 1 (Option.none : Option Jvm.ClassFile.FieldType) ∈ zWs := zq _ 313 (by decide +kernel) (by decide +kernel)
theorem qw_555 : Cond.instanceMethod yX4_init ∈ zWs := zq _ 312 (by decide +kernel) (by decide +kernel)
theorem vs_122 : zci RX10 39 yX4_init cX4_init 1 := ⟨qw_554, qw_552, (by decide +kernel), (by decide +kernel), Or.inr ⟨"CableLanding", qw_553⟩, qw_555, rfl⟩
theorem qw_556 : Cond.methodLink RX10 40 yX5_begin ∈ zWs := zq _ 325 (by decide +kernel) (by decide +kernel)
theorem vs_123 : zcv RX10 40 RX5 yX5_begin cX5_begin 8 (Option.none : Option Jvm.ClassFile.FieldType) 3 := ⟨qw_306, qw_74, (by decide +kernel), (by decide +kernel), qw_556, qw_308, qw_309⟩
theorem qw_557 : Cond.methodLink RX10 44 yX5_addZone ∈ zWs := zq _ 341 (by decide +kernel) (by decide +kernel)
theorem vs_124 : zcv RX10 44 RX5 yX5_addZone cX5_addZone 6 (Option.none : Option Jvm.ClassFile.FieldType) 4 := ⟨qw_310, qw_74, (by decide +kernel), (by decide +kernel), qw_557, qw_312, qw_313⟩
theorem qw_558 : Cond.methodLink RX10 48 yX5_addShip ∈ zWs := zq _ 345 (by decide +kernel) (by decide +kernel)
theorem vs_125 : zcv RX10 48 RX5 yX5_addShip cX5_addShip 5 (Option.none : Option Jvm.ClassFile.FieldType) 4 := ⟨qw_314, qw_74, (by decide +kernel), (by decide +kernel), qw_558, qw_316, qw_317⟩
theorem qw_559 : Cond.methodLink RX10 55 yX8_add ∈ zWs := zq _ 349 (by decide +kernel) (by decide +kernel)
theorem vs_126 : zcv RX10 55 RX8 yX8_add cX8_add 2 (Option.none : Option Jvm.ClassFile.FieldType) 1 := ⟨qw_319, qw_33, (by decide +kernel), (by decide +kernel), qw_559, qw_321, qw_322⟩
theorem qw_560 : Cond.code yX10_append cX10_append 2 (Option.some Jvm.ClassFile.FieldType.int) ∈ zWs := zq _ 653 (by decide +kernel) (by decide +kernel)
theorem qw_561 : Cond.methodLink RL 7 yX10_append ∈ zWs := zq _ 650 (by decide +kernel) (by decide +kernel)
theorem qw_562 : Cond.instanceMethod yX10_append ∈ zWs := zq _ 651 (by decide +kernel) (by decide +kernel)
theorem qw_563 : Cond.selects RX10 yX10_append yX10_append ∈ zWs := zq _ 652 (by decide +kernel) (by decide +kernel)
theorem vs_127 : zcv RL 7 RX10 yX10_append cX10_append 2 (Option.some Jvm.ClassFile.FieldType.int) 1 := ⟨qw_560, qw_344, (by decide +kernel), (by decide +kernel), qw_561, qw_562, qw_563⟩
theorem qw_564 : Cond.classLink RL 13 (zex 1) ∈ zWs := zq _ 416 (by decide +kernel) (by decide +kernel)
theorem qw_565 : Cond.castable (zex 1) (zex 1) ∈ zWs := zq _ 443 (by decide +kernel) (by decide +kernel)
theorem qw_566 : Cond.classLink RL 15 (zex 2) ∈ zWs := zq _ 548 (by decide +kernel) (by decide +kernel)
theorem qw_567 : Cond.castable (zex 2) (zex 2) ∈ zWs := zq _ 558 (by decide +kernel) (by decide +kernel)
theorem qw_568 : Cond.code yX10_load cX10_load 5 (Option.some Jvm.ClassFile.FieldType.int) ∈ zWs := zq _ 680 (by decide +kernel) (by decide +kernel)
theorem qw_569 : Cond.methodLink RL 17 yX10_load ∈ zWs := zq _ 677 (by decide +kernel) (by decide +kernel)
theorem qw_570 : Cond.instanceMethod yX10_load ∈ zWs := zq _ 678 (by decide +kernel) (by decide +kernel)
theorem qw_571 : Cond.selects RX10 yX10_load yX10_load ∈ zWs := zq _ 679 (by decide +kernel) (by decide +kernel)
theorem vs_128 : zcv RL 17 RX10 yX10_load cX10_load 5 (Option.some Jvm.ClassFile.FieldType.int) 0 := ⟨qw_568, qw_344, (by decide +kernel), (by decide +kernel), qw_569, qw_570, qw_571⟩
theorem qw_572 : Cond.code yX10_about cX10_about 3 (Option.some Jvm.ClassFile.FieldType.int) ∈ zWs := zq _ 420 (by decide +kernel) (by decide +kernel)
theorem qw_573 : Cond.methodLink RL 21 yX10_about ∈ zWs := zq _ 417 (by decide +kernel) (by decide +kernel)
theorem qw_574 : Cond.instanceMethod yX10_about ∈ zWs := zq _ 418 (by decide +kernel) (by decide +kernel)
theorem qw_575 : Cond.selects RX10 yX10_about yX10_about ∈ zWs := zq _ 419 (by decide +kernel) (by decide +kernel)
theorem vs_129 : zcv RL 21 RX10 yX10_about cX10_about 3 (Option.some Jvm.ClassFile.FieldType.int) 1 := ⟨qw_572, qw_344, (by decide +kernel), (by decide +kernel), qw_573, qw_574, qw_575⟩
theorem qw_576 : Cond.code yX10_zone cX10_zone 4 (Option.some Jvm.ClassFile.FieldType.int) ∈ zWs := zq _ 516 (by decide +kernel) (by decide +kernel)
theorem qw_577 : Cond.methodLink RL 24 yX10_zone ∈ zWs := zq _ 513 (by decide +kernel) (by decide +kernel)
theorem qw_578 : Cond.instanceMethod yX10_zone ∈ zWs := zq _ 514 (by decide +kernel) (by decide +kernel)
theorem qw_579 : Cond.selects RX10 yX10_zone yX10_zone ∈ zWs := zq _ 515 (by decide +kernel) (by decide +kernel)
theorem vs_130 : zcv RL 24 RX10 yX10_zone cX10_zone 4 (Option.some Jvm.ClassFile.FieldType.int) 2 := ⟨qw_576, qw_344, (by decide +kernel), (by decide +kernel), qw_577, qw_578, qw_579⟩
theorem qw_580 : Cond.classLink RL 28 (zex 3) ∈ zWs := zq _ 512 (by decide +kernel) (by decide +kernel)
theorem qw_581 : Cond.castable (zex 3) (zex 3) ∈ zWs := zq _ 526 (by decide +kernel) (by decide +kernel)
theorem qw_582 : Cond.code yX10_ship cX10_ship 4 (Option.some Jvm.ClassFile.FieldType.int) ∈ zWs := zq _ 699 (by decide +kernel) (by decide +kernel)
theorem qw_583 : Cond.methodLink RL 30 yX10_ship ∈ zWs := zq _ 696 (by decide +kernel) (by decide +kernel)
theorem qw_584 : Cond.instanceMethod yX10_ship ∈ zWs := zq _ 697 (by decide +kernel) (by decide +kernel)
theorem qw_585 : Cond.selects RX10 yX10_ship yX10_ship ∈ zWs := zq _ 698 (by decide +kernel) (by decide +kernel)
theorem vs_131 : zcv RL 30 RX10 yX10_ship cX10_ship 4 (Option.some Jvm.ClassFile.FieldType.int) 2 := ⟨qw_582, qw_344, (by decide +kernel), (by decide +kernel), qw_583, qw_584, qw_585⟩
theorem qw_586 : Cond.code yX10_waves cX10_waves 2 (Option.some Jvm.ClassFile.FieldType.int) ∈ zWs := zq _ 719 (by decide +kernel) (by decide +kernel)
theorem qw_587 : Cond.methodLink RL 33 yX10_waves ∈ zWs := zq _ 716 (by decide +kernel) (by decide +kernel)
theorem qw_588 : Cond.instanceMethod yX10_waves ∈ zWs := zq _ 717 (by decide +kernel) (by decide +kernel)
theorem qw_589 : Cond.selects RX10 yX10_waves yX10_waves ∈ zWs := zq _ 718 (by decide +kernel) (by decide +kernel)
theorem vs_132 : zcv RL 33 RX10 yX10_waves cX10_waves 2 (Option.some Jvm.ClassFile.FieldType.int) 1 := ⟨qw_586, qw_344, (by decide +kernel), (by decide +kernel), qw_587, qw_588, qw_589⟩
theorem qw_590 : Cond.code yX10_account cX10_account 3 (Option.some Jvm.ClassFile.FieldType.int) ∈ zWs := zq _ 687 (by decide +kernel) (by decide +kernel)
theorem qw_591 : Cond.methodLink RL 36 yX10_account ∈ zWs := zq _ 684 (by decide +kernel) (by decide +kernel)
theorem qw_592 : Cond.instanceMethod yX10_account ∈ zWs := zq _ 685 (by decide +kernel) (by decide +kernel)
theorem qw_593 : Cond.selects RX10 yX10_account yX10_account ∈ zWs := zq _ 686 (by decide +kernel) (by decide +kernel)
theorem vs_133 : zcv RL 36 RX10 yX10_account cX10_account 3 (Option.some Jvm.ClassFile.FieldType.int) 1 := ⟨qw_590, qw_344, (by decide +kernel), (by decide +kernel), qw_591, qw_592, qw_593⟩
theorem qw_594 : Cond.code yX10_take cX10_take 4 (Option.some Jvm.ClassFile.FieldType.int) ∈ zWs := zq _ 733 (by decide +kernel) (by decide +kernel)
theorem qw_595 : Cond.methodLink RL 39 yX10_take ∈ zWs := zq _ 730 (by decide +kernel) (by decide +kernel)
theorem qw_596 : Cond.instanceMethod yX10_take ∈ zWs := zq _ 731 (by decide +kernel) (by decide +kernel)
theorem qw_597 : Cond.selects RX10 yX10_take yX10_take ∈ zWs := zq _ 732 (by decide +kernel) (by decide +kernel)
theorem vs_134 : zcv RL 39 RX10 yX10_take cX10_take 4 (Option.some Jvm.ClassFile.FieldType.int) 2 := ⟨qw_594, qw_344, (by decide +kernel), (by decide +kernel), qw_595, qw_596, qw_597⟩
theorem qw_598 : Cond.code yX10_send cX10_send 3 (Option.some Jvm.ClassFile.FieldType.int) ∈ zWs := zq _ 752 (by decide +kernel) (by decide +kernel)
theorem qw_599 : Cond.methodLink RL 42 yX10_send ∈ zWs := zq _ 749 (by decide +kernel) (by decide +kernel)
theorem qw_600 : Cond.instanceMethod yX10_send ∈ zWs := zq _ 750 (by decide +kernel) (by decide +kernel)
theorem qw_601 : Cond.selects RX10 yX10_send yX10_send ∈ zWs := zq _ 751 (by decide +kernel) (by decide +kernel)
theorem vs_135 : zcv RL 42 RX10 yX10_send cX10_send 3 (Option.some Jvm.ClassFile.FieldType.int) 1 := ⟨qw_598, qw_344, (by decide +kernel), (by decide +kernel), qw_599, qw_600, qw_601⟩
theorem qw_602 : Cond.code yX10_recall cX10_recall 3 (Option.some Jvm.ClassFile.FieldType.int) ∈ zWs := zq _ 775 (by decide +kernel) (by decide +kernel)
theorem qw_603 : Cond.methodLink RL 45 yX10_recall ∈ zWs := zq _ 772 (by decide +kernel) (by decide +kernel)
theorem qw_604 : Cond.instanceMethod yX10_recall ∈ zWs := zq _ 773 (by decide +kernel) (by decide +kernel)
theorem qw_605 : Cond.selects RX10 yX10_recall yX10_recall ∈ zWs := zq _ 774 (by decide +kernel) (by decide +kernel)
theorem vs_136 : zcv RL 45 RX10 yX10_recall cX10_recall 3 (Option.some Jvm.ClassFile.FieldType.int) 1 := ⟨qw_602, qw_344, (by decide +kernel), (by decide +kernel), qw_603, qw_604, qw_605⟩
theorem qw_606 : Cond.code yX10_extend cX10_extend 4 (Option.some Jvm.ClassFile.FieldType.int) ∈ zWs := zq _ 798 (by decide +kernel) (by decide +kernel)
theorem qw_607 : Cond.methodLink RL 48 yX10_extend ∈ zWs := zq _ 795 (by decide +kernel) (by decide +kernel)
theorem qw_608 : Cond.instanceMethod yX10_extend ∈ zWs := zq _ 796 (by decide +kernel) (by decide +kernel)
theorem qw_609 : Cond.selects RX10 yX10_extend yX10_extend ∈ zWs := zq _ 797 (by decide +kernel) (by decide +kernel)
theorem vs_137 : zcv RL 48 RX10 yX10_extend cX10_extend 4 (Option.some Jvm.ClassFile.FieldType.int) 2 := ⟨qw_606, qw_344, (by decide +kernel), (by decide +kernel), qw_607, qw_608, qw_609⟩
theorem qw_610 : Cond.code yX10_buy cX10_buy 2 (Option.some Jvm.ClassFile.FieldType.int) ∈ zWs := zq _ 813 (by decide +kernel) (by decide +kernel)
theorem qw_611 : Cond.methodLink RL 51 yX10_buy ∈ zWs := zq _ 810 (by decide +kernel) (by decide +kernel)
theorem qw_612 : Cond.instanceMethod yX10_buy ∈ zWs := zq _ 811 (by decide +kernel) (by decide +kernel)
theorem qw_613 : Cond.selects RX10 yX10_buy yX10_buy ∈ zWs := zq _ 812 (by decide +kernel) (by decide +kernel)
theorem vs_138 : zcv RL 51 RX10 yX10_buy cX10_buy 2 (Option.some Jvm.ClassFile.FieldType.int) 1 := ⟨qw_610, qw_344, (by decide +kernel), (by decide +kernel), qw_611, qw_612, qw_613⟩
theorem qw_614 : Cond.code yX10_setWaves cX10_setWaves 3 (Option.some Jvm.ClassFile.FieldType.int) ∈ zWs := zq _ 828 (by decide +kernel) (by decide +kernel)
theorem qw_615 : Cond.methodLink RL 54 yX10_setWaves ∈ zWs := zq _ 825 (by decide +kernel) (by decide +kernel)
theorem qw_616 : Cond.instanceMethod yX10_setWaves ∈ zWs := zq _ 826 (by decide +kernel) (by decide +kernel)
theorem qw_617 : Cond.selects RX10 yX10_setWaves yX10_setWaves ∈ zWs := zq _ 827 (by decide +kernel) (by decide +kernel)
theorem vs_139 : zcv RL 54 RX10 yX10_setWaves cX10_setWaves 3 (Option.some Jvm.ClassFile.FieldType.int) 2 := ⟨qw_614, qw_344, (by decide +kernel), (by decide +kernel), qw_615, qw_616, qw_617⟩
theorem qw_618 : Cond.code yX10_pass cX10_pass 3 (Option.some Jvm.ClassFile.FieldType.int) ∈ zWs := zq _ 839 (by decide +kernel) (by decide +kernel)
theorem qw_619 : Cond.methodLink RL 57 yX10_pass ∈ zWs := zq _ 836 (by decide +kernel) (by decide +kernel)
theorem qw_620 : Cond.instanceMethod yX10_pass ∈ zWs := zq _ 837 (by decide +kernel) (by decide +kernel)
theorem qw_621 : Cond.selects RX10 yX10_pass yX10_pass ∈ zWs := zq _ 838 (by decide +kernel) (by decide +kernel)
theorem vs_140 : zcv RL 57 RX10 yX10_pass cX10_pass 3 (Option.some Jvm.ClassFile.FieldType.int) 1 := ⟨qw_618, qw_344, (by decide +kernel), (by decide +kernel), qw_619, qw_620, qw_621⟩
theorem qw_622 : Cond.code yX10_undo cX10_undo 1 (Option.some Jvm.ClassFile.FieldType.int) ∈ zWs := zq _ 552 (by decide +kernel) (by decide +kernel)
theorem qw_623 : Cond.methodLink RL 60 yX10_undo ∈ zWs := zq _ 549 (by decide +kernel) (by decide +kernel)
theorem qw_624 : Cond.instanceMethod yX10_undo ∈ zWs := zq _ 550 (by decide +kernel) (by decide +kernel)
theorem qw_625 : Cond.selects RX10 yX10_undo yX10_undo ∈ zWs := zq _ 551 (by decide +kernel) (by decide +kernel)
theorem vs_141 : zcv RL 60 RX10 yX10_undo cX10_undo 1 (Option.some Jvm.ClassFile.FieldType.int) 0 := ⟨qw_622, qw_344, (by decide +kernel), (by decide +kernel), qw_623, qw_624, qw_625⟩
theorem qw_626 : Cond.code yX10_needs cX10_needs 4 (Option.some Jvm.ClassFile.FieldType.int) ∈ zWs := zq _ 903 (by decide +kernel) (by decide +kernel)
theorem qw_627 : Cond.methodLink RL 63 yX10_needs ∈ zWs := zq _ 900 (by decide +kernel) (by decide +kernel)
theorem qw_628 : Cond.instanceMethod yX10_needs ∈ zWs := zq _ 901 (by decide +kernel) (by decide +kernel)
theorem qw_629 : Cond.selects RX10 yX10_needs yX10_needs ∈ zWs := zq _ 902 (by decide +kernel) (by decide +kernel)
theorem vs_142 : zcv RL 63 RX10 yX10_needs cX10_needs 4 (Option.some Jvm.ClassFile.FieldType.int) 2 := ⟨qw_626, qw_344, (by decide +kernel), (by decide +kernel), qw_627, qw_628, qw_629⟩
theorem qw_630 : Cond.code yX10_reach cX10_reach 5 (Option.some Jvm.ClassFile.FieldType.int) ∈ zWs := zq _ 911 (by decide +kernel) (by decide +kernel)
theorem qw_631 : Cond.methodLink RL 66 yX10_reach ∈ zWs := zq _ 908 (by decide +kernel) (by decide +kernel)
theorem qw_632 : Cond.instanceMethod yX10_reach ∈ zWs := zq _ 909 (by decide +kernel) (by decide +kernel)
theorem qw_633 : Cond.selects RX10 yX10_reach yX10_reach ∈ zWs := zq _ 910 (by decide +kernel) (by decide +kernel)
theorem vs_143 : zcv RL 66 RX10 yX10_reach cX10_reach 5 (Option.some Jvm.ClassFile.FieldType.int) 2 := ⟨qw_630, qw_344, (by decide +kernel), (by decide +kernel), qw_631, qw_632, qw_633⟩
theorem qw_634 : Cond.code yX10_calmDays cX10_calmDays 7 (Option.some Jvm.ClassFile.FieldType.int) ∈ zWs := zq _ 919 (by decide +kernel) (by decide +kernel)
theorem qw_635 : Cond.methodLink RL 69 yX10_calmDays ∈ zWs := zq _ 916 (by decide +kernel) (by decide +kernel)
theorem qw_636 : Cond.instanceMethod yX10_calmDays ∈ zWs := zq _ 917 (by decide +kernel) (by decide +kernel)
theorem qw_637 : Cond.selects RX10 yX10_calmDays yX10_calmDays ∈ zWs := zq _ 918 (by decide +kernel) (by decide +kernel)
theorem vs_144 : zcv RL 69 RX10 yX10_calmDays cX10_calmDays 7 (Option.some Jvm.ClassFile.FieldType.int) 2 := ⟨qw_634, qw_344, (by decide +kernel), (by decide +kernel), qw_635, qw_636, qw_637⟩
theorem qw_638 : Cond.code yX10_ahead cX10_ahead 3 (Option.some Jvm.ClassFile.FieldType.int) ∈ zWs := zq _ 929 (by decide +kernel) (by decide +kernel)
theorem qw_639 : Cond.methodLink RL 72 yX10_ahead ∈ zWs := zq _ 926 (by decide +kernel) (by decide +kernel)
theorem qw_640 : Cond.instanceMethod yX10_ahead ∈ zWs := zq _ 927 (by decide +kernel) (by decide +kernel)
theorem qw_641 : Cond.selects RX10 yX10_ahead yX10_ahead ∈ zWs := zq _ 928 (by decide +kernel) (by decide +kernel)
theorem vs_145 : zcv RL 72 RX10 yX10_ahead cX10_ahead 3 (Option.some Jvm.ClassFile.FieldType.int) 2 := ⟨qw_638, qw_344, (by decide +kernel), (by decide +kernel), qw_639, qw_640, qw_641⟩
theorem qw_642 : Cond.code yX10_doneAfter cX10_doneAfter 2 (Option.some Jvm.ClassFile.FieldType.int) ∈ zWs := zq _ 936 (by decide +kernel) (by decide +kernel)
theorem qw_643 : Cond.methodLink RL 75 yX10_doneAfter ∈ zWs := zq _ 933 (by decide +kernel) (by decide +kernel)
theorem qw_644 : Cond.instanceMethod yX10_doneAfter ∈ zWs := zq _ 934 (by decide +kernel) (by decide +kernel)
theorem qw_645 : Cond.selects RX10 yX10_doneAfter yX10_doneAfter ∈ zWs := zq _ 935 (by decide +kernel) (by decide +kernel)
theorem vs_146 : zcv RL 75 RX10 yX10_doneAfter cX10_doneAfter 2 (Option.some Jvm.ClassFile.FieldType.int) 1 := ⟨qw_642, qw_344, (by decide +kernel), (by decide +kernel), qw_643, qw_644, qw_645⟩
theorem qw_646 : Cond.code yX10_extension cX10_extension 5 (Option.some Jvm.ClassFile.FieldType.int) ∈ zWs := zq _ 947 (by decide +kernel) (by decide +kernel)
theorem qw_647 : Cond.methodLink RL 78 yX10_extension ∈ zWs := zq _ 944 (by decide +kernel) (by decide +kernel)
theorem qw_648 : Cond.instanceMethod yX10_extension ∈ zWs := zq _ 945 (by decide +kernel) (by decide +kernel)
theorem qw_649 : Cond.selects RX10 yX10_extension yX10_extension ∈ zWs := zq _ 946 (by decide +kernel) (by decide +kernel)
theorem vs_147 : zcv RL 78 RX10 yX10_extension cX10_extension 5 (Option.some Jvm.ClassFile.FieldType.int) 1 := ⟨qw_646, qw_344, (by decide +kernel), (by decide +kernel), qw_647, qw_648, qw_649⟩
theorem qw_650 : Cond.code yX10_runScript cX10_runScript 6 (Option.some Jvm.ClassFile.FieldType.int) ∈ zWs := zq _ 955 (by decide +kernel) (by decide +kernel)
theorem qw_651 : Cond.methodLink RL 81 yX10_runScript ∈ zWs := zq _ 952 (by decide +kernel) (by decide +kernel)
theorem qw_652 : Cond.instanceMethod yX10_runScript ∈ zWs := zq _ 953 (by decide +kernel) (by decide +kernel)
theorem qw_653 : Cond.selects RX10 yX10_runScript yX10_runScript ∈ zWs := zq _ 954 (by decide +kernel) (by decide +kernel)
theorem vs_148 : zcv RL 81 RX10 yX10_runScript cX10_runScript 6 (Option.some Jvm.ClassFile.FieldType.int) 2 := ⟨qw_650, qw_344, (by decide +kernel), (by decide +kernel), qw_651, qw_652, qw_653⟩
theorem qw_654 : Cond.code yX10_simulate cX10_simulate 7 (Option.some Jvm.ClassFile.FieldType.int) ∈ zWs := zq _ 1003 (by decide +kernel) (by decide +kernel)
theorem qw_655 : Cond.methodLink RL 85 yX10_simulate ∈ zWs := zq _ 1000 (by decide +kernel) (by decide +kernel)
theorem qw_656 : Cond.instanceMethod yX10_simulate ∈ zWs := zq _ 1001 (by decide +kernel) (by decide +kernel)
theorem qw_657 : Cond.selects RX10 yX10_simulate yX10_simulate ∈ zWs := zq _ 1002 (by decide +kernel) (by decide +kernel)
theorem vs_149 : zcv RL 85 RX10 yX10_simulate cX10_simulate 7 (Option.some Jvm.ClassFile.FieldType.int) 2 := ⟨qw_654, qw_344, (by decide +kernel), (by decide +kernel), qw_655, qw_656, qw_657⟩
theorem qw_658 : Cond.code yX10_save cX10_save 3 (Option.some Jvm.ClassFile.FieldType.int) ∈ zWs := zq _ 610 (by decide +kernel) (by decide +kernel)
theorem qw_659 : Cond.methodLink RL 89 yX10_save ∈ zWs := zq _ 607 (by decide +kernel) (by decide +kernel)
theorem qw_660 : Cond.instanceMethod yX10_save ∈ zWs := zq _ 608 (by decide +kernel) (by decide +kernel)
theorem qw_661 : Cond.selects RX10 yX10_save yX10_save ∈ zWs := zq _ 609 (by decide +kernel) (by decide +kernel)
theorem vs_150 : zcv RL 89 RX10 yX10_save cX10_save 3 (Option.some Jvm.ClassFile.FieldType.int) 1 := ⟨qw_658, qw_344, (by decide +kernel), (by decide +kernel), qw_659, qw_660, qw_661⟩
theorem qw_662 : Cond.code yX10_restore cX10_restore 3 (Option.some Jvm.ClassFile.FieldType.int) ∈ zWs := zq _ 623 (by decide +kernel) (by decide +kernel)
theorem qw_663 : Cond.methodLink RL 92 yX10_restore ∈ zWs := zq _ 620 (by decide +kernel) (by decide +kernel)
theorem qw_664 : Cond.instanceMethod yX10_restore ∈ zWs := zq _ 621 (by decide +kernel) (by decide +kernel)
theorem qw_665 : Cond.selects RX10 yX10_restore yX10_restore ∈ zWs := zq _ 622 (by decide +kernel) (by decide +kernel)
theorem vs_151 : zcv RL 92 RX10 yX10_restore cX10_restore 3 (Option.some Jvm.ClassFile.FieldType.int) 1 := ⟨qw_662, qw_344, (by decide +kernel), (by decide +kernel), qw_663, qw_664, qw_665⟩
theorem qw_666 : Cond.constant RL 95 (15516779 : Int32) ∈ zWs := zq _ 631 (by decide +kernel) (by decide +kernel)
theorem qw_667 : Cond.constant RL 96 (2147483647 : Int32) ∈ zWs := zq _ 632 (by decide +kernel) (by decide +kernel)
theorem qw_668 : Cond.codeWith yL_tryAppend cL_tryAppend 3 (Option.some Jvm.ClassFile.FieldType.int) [(0, 5, 6, 13), (0, 5, 11, 15)] ∈ zWs := zq _ 649 (by decide +kernel) (by decide +kernel)
theorem qw_669 : Cond.initialized RL ∈ zWs := zq _ 17 (by decide +kernel) (by decide +kernel)
theorem qw_670 : Cond.methodLink RL 97 yL_tryAppend ∈ zWs := zq _ 647 (by decide +kernel) (by decide +kernel)
theorem qw_671 : Cond.static yL_tryAppend ∈ zWs := zq _ 648 (by decide +kernel) (by decide +kernel)
theorem vs_152 : zcsW RL 97 yL_tryAppend cL_tryAppend 3 (Option.some Jvm.ClassFile.FieldType.int) [(0, 5, 6, 13), (0, 5, 11, 15)] 2 := ⟨qw_668, qw_669, (by decide +kernel), (by decide +kernel), qw_670, qw_671⟩
theorem qw_672 : Cond.code yL_put cL_put 3 (Option.some Jvm.ClassFile.FieldType.boolean) ∈ zWs := zq _ 646 (by decide +kernel) (by decide +kernel)
theorem qw_673 : Cond.methodLink RL 103 yL_put ∈ zWs := zq _ 644 (by decide +kernel) (by decide +kernel)
theorem qw_674 : Cond.static yL_put ∈ zWs := zq _ 645 (by decide +kernel) (by decide +kernel)
theorem vs_153 : zcs RL 103 yL_put cL_put 3 (Option.some Jvm.ClassFile.FieldType.boolean) 3 := ⟨qw_672, qw_669, (by decide +kernel), (by decide +kernel), qw_673, qw_674⟩
theorem qw_675 : Cond.code yL_number cL_number 2 (Option.some Jvm.ClassFile.FieldType.int) ∈ zWs := zq _ 630 (by decide +kernel) (by decide +kernel)
theorem qw_676 : Cond.methodLink RL 107 yL_number ∈ zWs := zq _ 628 (by decide +kernel) (by decide +kernel)
theorem qw_677 : Cond.static yL_number ∈ zWs := zq _ 629 (by decide +kernel) (by decide +kernel)
theorem vs_154 : zcs RL 107 yL_number cL_number 2 (Option.some Jvm.ClassFile.FieldType.int) 2 := ⟨qw_675, qw_669, (by decide +kernel), (by decide +kernel), qw_676, qw_677⟩
theorem qw_678 : Cond.code yX10_clearText cX10_clearText 1 (Option.some Jvm.ClassFile.FieldType.int) ∈ zWs := zq _ 639 (by decide +kernel) (by decide +kernel)
theorem qw_679 : Cond.methodLink RL 111 yX10_clearText ∈ zWs := zq _ 636 (by decide +kernel) (by decide +kernel)
theorem qw_680 : Cond.instanceMethod yX10_clearText ∈ zWs := zq _ 637 (by decide +kernel) (by decide +kernel)
theorem qw_681 : Cond.selects RX10 yX10_clearText yX10_clearText ∈ zWs := zq _ 638 (by decide +kernel) (by decide +kernel)
theorem vs_155 : zcv RL 111 RX10 yX10_clearText cX10_clearText 1 (Option.some Jvm.ClassFile.FieldType.int) 0 := ⟨qw_678, qw_344, (by decide +kernel), (by decide +kernel), qw_679, qw_680, qw_681⟩
theorem qw_682 : Cond.constant RL 114 (524288 : Int32) ∈ zWs := zq _ 667 (by decide +kernel) (by decide +kernel)
theorem qw_683 : Cond.code yX10_errorPosition cX10_errorPosition 1 (Option.some Jvm.ClassFile.FieldType.int) ∈ zWs := zq _ 372 (by decide +kernel) (by decide +kernel)
theorem qw_684 : Cond.methodLink RL 115 yX10_errorPosition ∈ zWs := zq _ 369 (by decide +kernel) (by decide +kernel)
theorem qw_685 : Cond.instanceMethod yX10_errorPosition ∈ zWs := zq _ 370 (by decide +kernel) (by decide +kernel)
theorem qw_686 : Cond.selects RX10 yX10_errorPosition yX10_errorPosition ∈ zWs := zq _ 371 (by decide +kernel) (by decide +kernel)
theorem vs_156 : zcv RL 115 RX10 yX10_errorPosition cX10_errorPosition 1 (Option.some Jvm.ClassFile.FieldType.int) 0 := ⟨qw_683, qw_344, (by decide +kernel), (by decide +kernel), qw_684, qw_685, qw_686⟩
theorem qw_687 : Cond.constant RL 118 (2097152 : Int32) ∈ zWs := zq _ 668 (by decide +kernel) (by decide +kernel)
theorem qw_688 : Cond.code yL_digits cL_digits 6 (Option.some Jvm.ClassFile.FieldType.boolean) ∈ zWs := zq _ 671 (by decide +kernel) (by decide +kernel)
theorem qw_689 : Cond.methodLink RL 119 yL_digits ∈ zWs := zq _ 669 (by decide +kernel) (by decide +kernel)
theorem qw_690 : Cond.static yL_digits ∈ zWs := zq _ 670 (by decide +kernel) (by decide +kernel)
theorem vs_157 : zcs RL 119 yL_digits cL_digits 6 (Option.some Jvm.ClassFile.FieldType.boolean) 4 := ⟨qw_688, qw_669, (by decide +kernel), (by decide +kernel), qw_689, qw_690⟩
theorem qw_691 : Cond.constant RL 123 (1048576 : Int32) ∈ zWs := zq _ 672 (by decide +kernel) (by decide +kernel)
theorem qw_692 : Cond.constant RL 124 (131072 : Int32) ∈ zWs := zq _ 673 (by decide +kernel) (by decide +kernel)
theorem qw_693 : Cond.codeWith yL_tryLoad cL_tryLoad 2 (Option.some Jvm.ClassFile.FieldType.int) [(0, 4, 5, 15)] ∈ zWs := zq _ 676 (by decide +kernel) (by decide +kernel)
theorem qw_694 : Cond.methodLink RL 125 yL_tryLoad ∈ zWs := zq _ 674 (by decide +kernel) (by decide +kernel)
theorem qw_695 : Cond.static yL_tryLoad ∈ zWs := zq _ 675 (by decide +kernel) (by decide +kernel)
theorem vs_158 : zcsW RL 125 yL_tryLoad cL_tryLoad 2 (Option.some Jvm.ClassFile.FieldType.int) [(0, 4, 5, 15)] 1 := ⟨qw_693, qw_669, (by decide +kernel), (by decide +kernel), qw_694, qw_695⟩
theorem qw_696 : Cond.codeWith yL_tryAbout cL_tryAbout 3 (Option.some Jvm.ClassFile.FieldType.int) [(0, 5, 6, 13)] ∈ zWs := zq _ 415 (by decide +kernel) (by decide +kernel)
theorem qw_697 : Cond.methodLink RL 129 yL_tryAbout ∈ zWs := zq _ 413 (by decide +kernel) (by decide +kernel)
theorem qw_698 : Cond.static yL_tryAbout ∈ zWs := zq _ 414 (by decide +kernel) (by decide +kernel)
theorem vs_159 : zcsW RL 129 yL_tryAbout cL_tryAbout 3 (Option.some Jvm.ClassFile.FieldType.int) [(0, 5, 6, 13)] 2 := ⟨qw_696, qw_669, (by decide +kernel), (by decide +kernel), qw_697, qw_698⟩
theorem qw_699 : Cond.codeWith yL_tryAccount cL_tryAccount 3 (Option.some Jvm.ClassFile.FieldType.int) [(0, 5, 6, 13)] ∈ zWs := zq _ 683 (by decide +kernel) (by decide +kernel)
theorem qw_700 : Cond.methodLink RL 132 yL_tryAccount ∈ zWs := zq _ 681 (by decide +kernel) (by decide +kernel)
theorem qw_701 : Cond.static yL_tryAccount ∈ zWs := zq _ 682 (by decide +kernel) (by decide +kernel)
theorem vs_160 : zcsW RL 132 yL_tryAccount cL_tryAccount 3 (Option.some Jvm.ClassFile.FieldType.int) [(0, 5, 6, 13)] 2 := ⟨qw_699, qw_669, (by decide +kernel), (by decide +kernel), qw_700, qw_701⟩
theorem qw_702 : Cond.codeWith yL_tryShip cL_tryShip 4 (Option.some Jvm.ClassFile.FieldType.int) [(0, 6, 7, 28), (0, 6, 12, 13)] ∈ zWs := zq _ 695 (by decide +kernel) (by decide +kernel)
theorem qw_703 : Cond.methodLink RL 135 yL_tryShip ∈ zWs := zq _ 693 (by decide +kernel) (by decide +kernel)
theorem qw_704 : Cond.static yL_tryShip ∈ zWs := zq _ 694 (by decide +kernel) (by decide +kernel)
theorem vs_161 : zcsW RL 135 yL_tryShip cL_tryShip 4 (Option.some Jvm.ClassFile.FieldType.int) [(0, 6, 7, 28), (0, 6, 12, 13)] 3 := ⟨qw_702, qw_669, (by decide +kernel), (by decide +kernel), qw_703, qw_704⟩
theorem qw_705 : Cond.codeWith yL_tryUndo cL_tryUndo 2 (Option.some Jvm.ClassFile.FieldType.int) [(0, 4, 5, 15)] ∈ zWs := zq _ 547 (by decide +kernel) (by decide +kernel)
theorem qw_706 : Cond.methodLink RL 139 yL_tryUndo ∈ zWs := zq _ 545 (by decide +kernel) (by decide +kernel)
theorem qw_707 : Cond.static yL_tryUndo ∈ zWs := zq _ 546 (by decide +kernel) (by decide +kernel)
theorem vs_162 : zcsW RL 139 yL_tryUndo cL_tryUndo 2 (Option.some Jvm.ClassFile.FieldType.int) [(0, 4, 5, 15)] 1 := ⟨qw_705, qw_669, (by decide +kernel), (by decide +kernel), qw_706, qw_707⟩
theorem qw_708 : Cond.codeWith yL_tryRestore cL_tryRestore 3 (Option.some Jvm.ClassFile.FieldType.int) [(0, 5, 6, 28), (0, 5, 11, 15)] ∈ zWs := zq _ 619 (by decide +kernel) (by decide +kernel)
theorem qw_709 : Cond.methodLink RL 142 yL_tryRestore ∈ zWs := zq _ 617 (by decide +kernel) (by decide +kernel)
theorem qw_710 : Cond.static yL_tryRestore ∈ zWs := zq _ 618 (by decide +kernel) (by decide +kernel)
theorem vs_163 : zcsW RL 142 yL_tryRestore cL_tryRestore 3 (Option.some Jvm.ClassFile.FieldType.int) [(0, 5, 6, 28), (0, 5, 11, 15)] 2 := ⟨qw_708, qw_669, (by decide +kernel), (by decide +kernel), qw_709, qw_710⟩
theorem qw_711 : Cond.codeWith yL_tryZone cL_tryZone 4 (Option.some Jvm.ClassFile.FieldType.int) [(0, 6, 7, 28), (0, 6, 12, 13)] ∈ zWs := zq _ 511 (by decide +kernel) (by decide +kernel)
theorem qw_712 : Cond.methodLink RL 145 yL_tryZone ∈ zWs := zq _ 509 (by decide +kernel) (by decide +kernel)
end
section
set_option maxRecDepth 100000 in
theorem qw_801 : Cond.code yL_told cL_told 14 (Option.some Jvm.ClassFile.FieldType.boolean) ∈ zWs := zq _ 635 rfl (by decide +kernel)
set_option maxRecDepth 100000 in
theorem qw_810 : Cond.code yL_hands cL_hands 32 (Option.some Jvm.ClassFile.FieldType.boolean) ∈ zWs := zq _ 1026 rfl (by decide +kernel)
set_option maxRecDepth 100000 in
theorem qw_813 : Cond.code yL_days cL_days 28 (Option.some Jvm.ClassFile.FieldType.boolean) ∈ zWs := zq _ 1023 rfl (by decide +kernel)
end
section
theorem qw_713 : Cond.static yL_tryZone ∈ zWs := zq _ 510 (by decide +kernel) (by decide +kernel)
theorem vs_164 : zcsW RL 145 yL_tryZone cL_tryZone 4 (Option.some Jvm.ClassFile.FieldType.int) [(0, 6, 7, 28), (0, 6, 12, 13)] 3 := ⟨qw_711, qw_669, (by decide +kernel), (by decide +kernel), qw_712, qw_713⟩
theorem qw_714 : Cond.codeWith yL_tryWaves cL_tryWaves 3 (Option.some Jvm.ClassFile.FieldType.int) [(0, 5, 6, 13)] ∈ zWs := zq _ 715 (by decide +kernel) (by decide +kernel)
theorem qw_715 : Cond.methodLink RL 148 yL_tryWaves ∈ zWs := zq _ 713 (by decide +kernel) (by decide +kernel)
theorem qw_716 : Cond.static yL_tryWaves ∈ zWs := zq _ 714 (by decide +kernel) (by decide +kernel)
theorem vs_165 : zcsW RL 148 yL_tryWaves cL_tryWaves 3 (Option.some Jvm.ClassFile.FieldType.int) [(0, 5, 6, 13)] 2 := ⟨qw_714, qw_669, (by decide +kernel), (by decide +kernel), qw_715, qw_716⟩
theorem qw_717 : Cond.codeWith yL_tryTake cL_tryTake 4 (Option.some Jvm.ClassFile.FieldType.int) [(0, 6, 7, 28), (0, 6, 12, 13), (0, 6, 17, 15)] ∈ zWs := zq _ 729 (by decide +kernel) (by decide +kernel)
theorem qw_718 : Cond.methodLink RL 151 yL_tryTake ∈ zWs := zq _ 727 (by decide +kernel) (by decide +kernel)
theorem qw_719 : Cond.static yL_tryTake ∈ zWs := zq _ 728 (by decide +kernel) (by decide +kernel)
theorem vs_166 : zcsW RL 151 yL_tryTake cL_tryTake 4 (Option.some Jvm.ClassFile.FieldType.int) [(0, 6, 7, 28), (0, 6, 12, 13), (0, 6, 17, 15)] 3 := ⟨qw_717, qw_669, (by decide +kernel), (by decide +kernel), qw_718, qw_719⟩
theorem qw_720 : Cond.codeWith yL_trySend cL_trySend 3 (Option.some Jvm.ClassFile.FieldType.int) [(0, 5, 6, 28), (0, 5, 11, 15)] ∈ zWs := zq _ 748 (by decide +kernel) (by decide +kernel)
theorem qw_721 : Cond.methodLink RL 154 yL_trySend ∈ zWs := zq _ 746 (by decide +kernel) (by decide +kernel)
theorem qw_722 : Cond.static yL_trySend ∈ zWs := zq _ 747 (by decide +kernel) (by decide +kernel)
theorem vs_167 : zcsW RL 154 yL_trySend cL_trySend 3 (Option.some Jvm.ClassFile.FieldType.int) [(0, 5, 6, 28), (0, 5, 11, 15)] 2 := ⟨qw_720, qw_669, (by decide +kernel), (by decide +kernel), qw_721, qw_722⟩
theorem qw_723 : Cond.codeWith yL_tryRecall cL_tryRecall 3 (Option.some Jvm.ClassFile.FieldType.int) [(0, 5, 6, 28), (0, 5, 11, 15)] ∈ zWs := zq _ 771 (by decide +kernel) (by decide +kernel)
theorem qw_724 : Cond.methodLink RL 157 yL_tryRecall ∈ zWs := zq _ 769 (by decide +kernel) (by decide +kernel)
theorem qw_725 : Cond.static yL_tryRecall ∈ zWs := zq _ 770 (by decide +kernel) (by decide +kernel)
theorem vs_168 : zcsW RL 157 yL_tryRecall cL_tryRecall 3 (Option.some Jvm.ClassFile.FieldType.int) [(0, 5, 6, 28), (0, 5, 11, 15)] 2 := ⟨qw_723, qw_669, (by decide +kernel), (by decide +kernel), qw_724, qw_725⟩
theorem qw_726 : Cond.codeWith yL_tryExtend cL_tryExtend 4 (Option.some Jvm.ClassFile.FieldType.int) [(0, 6, 7, 28), (0, 6, 12, 13), (0, 6, 17, 15)] ∈ zWs := zq _ 794 (by decide +kernel) (by decide +kernel)
theorem qw_727 : Cond.methodLink RL 160 yL_tryExtend ∈ zWs := zq _ 792 (by decide +kernel) (by decide +kernel)
theorem qw_728 : Cond.static yL_tryExtend ∈ zWs := zq _ 793 (by decide +kernel) (by decide +kernel)
theorem vs_169 : zcsW RL 160 yL_tryExtend cL_tryExtend 4 (Option.some Jvm.ClassFile.FieldType.int) [(0, 6, 7, 28), (0, 6, 12, 13), (0, 6, 17, 15)] 3 := ⟨qw_726, qw_669, (by decide +kernel), (by decide +kernel), qw_727, qw_728⟩
theorem qw_729 : Cond.codeWith yL_tryBuy cL_tryBuy 3 (Option.some Jvm.ClassFile.FieldType.int) [(0, 5, 6, 13), (0, 5, 11, 15)] ∈ zWs := zq _ 809 (by decide +kernel) (by decide +kernel)
theorem qw_730 : Cond.methodLink RL 163 yL_tryBuy ∈ zWs := zq _ 807 (by decide +kernel) (by decide +kernel)
theorem qw_731 : Cond.static yL_tryBuy ∈ zWs := zq _ 808 (by decide +kernel) (by decide +kernel)
theorem vs_170 : zcsW RL 163 yL_tryBuy cL_tryBuy 3 (Option.some Jvm.ClassFile.FieldType.int) [(0, 5, 6, 13), (0, 5, 11, 15)] 2 := ⟨qw_729, qw_669, (by decide +kernel), (by decide +kernel), qw_730, qw_731⟩
theorem qw_732 : Cond.codeWith yL_trySetWaves cL_trySetWaves 4 (Option.some Jvm.ClassFile.FieldType.int) [(0, 6, 7, 13)] ∈ zWs := zq _ 824 (by decide +kernel) (by decide +kernel)
theorem qw_733 : Cond.methodLink RL 166 yL_trySetWaves ∈ zWs := zq _ 822 (by decide +kernel) (by decide +kernel)
theorem qw_734 : Cond.static yL_trySetWaves ∈ zWs := zq _ 823 (by decide +kernel) (by decide +kernel)
theorem vs_171 : zcsW RL 166 yL_trySetWaves cL_trySetWaves 4 (Option.some Jvm.ClassFile.FieldType.int) [(0, 6, 7, 13)] 3 := ⟨qw_732, qw_669, (by decide +kernel), (by decide +kernel), qw_733, qw_734⟩
theorem qw_735 : Cond.codeWith yL_tryPass cL_tryPass 3 (Option.some Jvm.ClassFile.FieldType.int) [(0, 5, 6, 13)] ∈ zWs := zq _ 835 (by decide +kernel) (by decide +kernel)
theorem qw_736 : Cond.methodLink RL 169 yL_tryPass ∈ zWs := zq _ 833 (by decide +kernel) (by decide +kernel)
theorem qw_737 : Cond.static yL_tryPass ∈ zWs := zq _ 834 (by decide +kernel) (by decide +kernel)
theorem vs_172 : zcsW RL 169 yL_tryPass cL_tryPass 3 (Option.some Jvm.ClassFile.FieldType.int) [(0, 5, 6, 13)] 2 := ⟨qw_735, qw_669, (by decide +kernel), (by decide +kernel), qw_736, qw_737⟩
theorem qw_738 : Cond.codeWith yL_tryNeeds cL_tryNeeds 4 (Option.some Jvm.ClassFile.FieldType.int) [(0, 6, 7, 28), (0, 6, 12, 13)] ∈ zWs := zq _ 899 (by decide +kernel) (by decide +kernel)
theorem qw_739 : Cond.methodLink RL 172 yL_tryNeeds ∈ zWs := zq _ 897 (by decide +kernel) (by decide +kernel)
theorem qw_740 : Cond.static yL_tryNeeds ∈ zWs := zq _ 898 (by decide +kernel) (by decide +kernel)
theorem vs_173 : zcsW RL 172 yL_tryNeeds cL_tryNeeds 4 (Option.some Jvm.ClassFile.FieldType.int) [(0, 6, 7, 28), (0, 6, 12, 13)] 3 := ⟨qw_738, qw_669, (by decide +kernel), (by decide +kernel), qw_739, qw_740⟩
theorem qw_741 : Cond.codeWith yL_tryReach cL_tryReach 4 (Option.some Jvm.ClassFile.FieldType.int) [(0, 6, 7, 28)] ∈ zWs := zq _ 907 (by decide +kernel) (by decide +kernel)
theorem qw_742 : Cond.methodLink RL 175 yL_tryReach ∈ zWs := zq _ 905 (by decide +kernel) (by decide +kernel)
theorem qw_743 : Cond.static yL_tryReach ∈ zWs := zq _ 906 (by decide +kernel) (by decide +kernel)
theorem vs_174 : zcsW RL 175 yL_tryReach cL_tryReach 4 (Option.some Jvm.ClassFile.FieldType.int) [(0, 6, 7, 28)] 3 := ⟨qw_741, qw_669, (by decide +kernel), (by decide +kernel), qw_742, qw_743⟩
theorem qw_744 : Cond.codeWith yL_tryCalmDays cL_tryCalmDays 4 (Option.some Jvm.ClassFile.FieldType.int) [(0, 6, 7, 28)] ∈ zWs := zq _ 915 (by decide +kernel) (by decide +kernel)
theorem qw_745 : Cond.methodLink RL 178 yL_tryCalmDays ∈ zWs := zq _ 913 (by decide +kernel) (by decide +kernel)
theorem qw_746 : Cond.static yL_tryCalmDays ∈ zWs := zq _ 914 (by decide +kernel) (by decide +kernel)
theorem vs_175 : zcsW RL 178 yL_tryCalmDays cL_tryCalmDays 4 (Option.some Jvm.ClassFile.FieldType.int) [(0, 6, 7, 28)] 3 := ⟨qw_744, qw_669, (by decide +kernel), (by decide +kernel), qw_745, qw_746⟩
theorem qw_747 : Cond.codeWith yL_tryAhead cL_tryAhead 4 (Option.some Jvm.ClassFile.FieldType.int) [(0, 6, 7, 13)] ∈ zWs := zq _ 925 (by decide +kernel) (by decide +kernel)
theorem qw_748 : Cond.methodLink RL 181 yL_tryAhead ∈ zWs := zq _ 923 (by decide +kernel) (by decide +kernel)
theorem qw_749 : Cond.static yL_tryAhead ∈ zWs := zq _ 924 (by decide +kernel) (by decide +kernel)
theorem vs_176 : zcsW RL 181 yL_tryAhead cL_tryAhead 4 (Option.some Jvm.ClassFile.FieldType.int) [(0, 6, 7, 13)] 3 := ⟨qw_747, qw_669, (by decide +kernel), (by decide +kernel), qw_748, qw_749⟩
theorem qw_750 : Cond.codeWith yL_tryDoneAfter cL_tryDoneAfter 3 (Option.some Jvm.ClassFile.FieldType.int) [(0, 5, 6, 28)] ∈ zWs := zq _ 932 (by decide +kernel) (by decide +kernel)
theorem qw_751 : Cond.methodLink RL 184 yL_tryDoneAfter ∈ zWs := zq _ 930 (by decide +kernel) (by decide +kernel)
theorem qw_752 : Cond.static yL_tryDoneAfter ∈ zWs := zq _ 931 (by decide +kernel) (by decide +kernel)
theorem vs_177 : zcsW RL 184 yL_tryDoneAfter cL_tryDoneAfter 3 (Option.some Jvm.ClassFile.FieldType.int) [(0, 5, 6, 28)] 2 := ⟨qw_750, qw_669, (by decide +kernel), (by decide +kernel), qw_751, qw_752⟩
theorem qw_753 : Cond.codeWith yL_tryExtension cL_tryExtension 3 (Option.some Jvm.ClassFile.FieldType.int) [(0, 5, 6, 28)] ∈ zWs := zq _ 943 (by decide +kernel) (by decide +kernel)
theorem qw_754 : Cond.methodLink RL 187 yL_tryExtension ∈ zWs := zq _ 941 (by decide +kernel) (by decide +kernel)
theorem qw_755 : Cond.static yL_tryExtension ∈ zWs := zq _ 942 (by decide +kernel) (by decide +kernel)
theorem vs_178 : zcsW RL 187 yL_tryExtension cL_tryExtension 3 (Option.some Jvm.ClassFile.FieldType.int) [(0, 5, 6, 28)] 2 := ⟨qw_753, qw_669, (by decide +kernel), (by decide +kernel), qw_754, qw_755⟩
theorem qw_756 : Cond.codeWith yL_tryScript cL_tryScript 5 (Option.some Jvm.ClassFile.FieldType.int) [(0, 6, 7, 13)] ∈ zWs := zq _ 951 (by decide +kernel) (by decide +kernel)
theorem qw_757 : Cond.methodLink RL 190 yL_tryScript ∈ zWs := zq _ 949 (by decide +kernel) (by decide +kernel)
theorem qw_758 : Cond.static yL_tryScript ∈ zWs := zq _ 950 (by decide +kernel) (by decide +kernel)
theorem vs_179 : zcsW RL 190 yL_tryScript cL_tryScript 5 (Option.some Jvm.ClassFile.FieldType.int) [(0, 6, 7, 13)] 3 := ⟨qw_756, qw_669, (by decide +kernel), (by decide +kernel), qw_757, qw_758⟩
theorem qw_759 : Cond.constantLong RL 194 (100000 : Int64) ∈ zWs := zq _ 996 (by decide +kernel) (by decide +kernel)
theorem qw_760 : Cond.codeWith yL_trySimulate cL_trySimulate 5 (Option.some Jvm.ClassFile.FieldType.int) [(0, 6, 7, 13)] ∈ zWs := zq _ 999 (by decide +kernel) (by decide +kernel)
theorem qw_761 : Cond.methodLink RL 196 yL_trySimulate ∈ zWs := zq _ 997 (by decide +kernel) (by decide +kernel)
theorem qw_762 : Cond.static yL_trySimulate ∈ zWs := zq _ 998 (by decide +kernel) (by decide +kernel)
theorem vs_180 : zcsW RL 196 yL_trySimulate cL_trySimulate 5 (Option.some Jvm.ClassFile.FieldType.int) [(0, 6, 7, 13)] 3 := ⟨qw_760, qw_669, (by decide +kernel), (by decide +kernel), qw_761, qw_762⟩
theorem qw_763 : Cond.codeWith yL_trySave cL_trySave 3 (Option.some Jvm.ClassFile.FieldType.int) [(0, 5, 6, 28)] ∈ zWs := zq _ 606 (by decide +kernel) (by decide +kernel)
theorem qw_764 : Cond.methodLink RL 200 yL_trySave ∈ zWs := zq _ 604 (by decide +kernel) (by decide +kernel)
theorem qw_765 : Cond.static yL_trySave ∈ zWs := zq _ 605 (by decide +kernel) (by decide +kernel)
theorem vs_181 : zcsW RL 200 yL_trySave cL_trySave 3 (Option.some Jvm.ClassFile.FieldType.int) [(0, 5, 6, 28)] 2 := ⟨qw_763, qw_669, (by decide +kernel), (by decide +kernel), qw_764, qw_765⟩
theorem qw_766 : Cond.code yL_sound cL_sound 8 (Option.some Jvm.ClassFile.FieldType.boolean) ∈ zWs := zq _ 1020 (by decide +kernel) (by decide +kernel)
theorem qw_767 : Cond.methodLink RL 203 yL_sound ∈ zWs := zq _ 1018 (by decide +kernel) (by decide +kernel)
theorem qw_768 : Cond.static yL_sound ∈ zWs := zq _ 1019 (by decide +kernel) (by decide +kernel)
theorem vs_182 : zcs RL 203 yL_sound cL_sound 8 (Option.some Jvm.ClassFile.FieldType.boolean) 1 := ⟨qw_766, qw_669, (by decide +kernel), (by decide +kernel), qw_767, qw_768⟩
theorem qw_769 : Cond.code yX10_bestShip cX10_bestShip 7 (Option.some Jvm.ClassFile.FieldType.int) ∈ zWs := zq _ 1030 (by decide +kernel) (by decide +kernel)
theorem qw_770 : Cond.methodLink RL 207 yX10_bestShip ∈ zWs := zq _ 1027 (by decide +kernel) (by decide +kernel)
theorem qw_771 : Cond.instanceMethod yX10_bestShip ∈ zWs := zq _ 1028 (by decide +kernel) (by decide +kernel)
theorem qw_772 : Cond.selects RX10 yX10_bestShip yX10_bestShip ∈ zWs := zq _ 1029 (by decide +kernel) (by decide +kernel)
theorem vs_183 : zcv RL 207 RX10 yX10_bestShip cX10_bestShip 7 (Option.some Jvm.ClassFile.FieldType.int) 0 := ⟨qw_769, qw_344, (by decide +kernel), (by decide +kernel), qw_770, qw_771, qw_772⟩
theorem qw_773 : Cond.code yL_after cL_after 9 (Option.some Jvm.ClassFile.FieldType.int) ∈ zWs := zq _ 1034 (by decide +kernel) (by decide +kernel)
theorem qw_774 : Cond.methodLink RL 210 yL_after ∈ zWs := zq _ 1032 (by decide +kernel) (by decide +kernel)
theorem qw_775 : Cond.static yL_after ∈ zWs := zq _ 1033 (by decide +kernel) (by decide +kernel)
theorem vs_184 : zcs RL 210 yL_after cL_after 9 (Option.some Jvm.ClassFile.FieldType.int) 4 := ⟨qw_773, qw_669, (by decide +kernel), (by decide +kernel), qw_774, qw_775⟩
theorem qw_776 : Cond.constantLong RL 214 (163 : Int64) ∈ zWs := zq _ 1038 (by decide +kernel) (by decide +kernel)
theorem qw_777 : Cond.constantLong RL 216 (70000 : Int64) ∈ zWs := zq _ 1039 (by decide +kernel) (by decide +kernel)
theorem qw_778 : Cond.constantLong RL 218 (1000 : Int64) ∈ zWs := zq _ 1040 (by decide +kernel) (by decide +kernel)
theorem qw_779 : Cond.constantLong RL 220 (70001 : Int64) ∈ zWs := zq _ 1041 (by decide +kernel) (by decide +kernel)
theorem qw_780 : Cond.constantLong RL 222 (80000 : Int64) ∈ zWs := zq _ 1042 (by decide +kernel) (by decide +kernel)
theorem qw_781 : Cond.constantLong RL 224 (80005 : Int64) ∈ zWs := zq _ 1043 (by decide +kernel) (by decide +kernel)
theorem qw_782 : Cond.constantLong RL 226 (90000 : Int64) ∈ zWs := zq _ 1044 (by decide +kernel) (by decide +kernel)
theorem qw_783 : Cond.constantLong RL 228 (90007 : Int64) ∈ zWs := zq _ 1045 (by decide +kernel) (by decide +kernel)
theorem qw_784 : Cond.constantLong RL 230 (20000 : Int64) ∈ zWs := zq _ 1046 (by decide +kernel) (by decide +kernel)
theorem qw_785 : Cond.constantLong RL 232 (30000 : Int64) ∈ zWs := zq _ 1047 (by decide +kernel) (by decide +kernel)
theorem qw_786 : Cond.constantLong RL 234 (20001 : Int64) ∈ zWs := zq _ 1048 (by decide +kernel) (by decide +kernel)
theorem qw_787 : Cond.constantLong RL 236 (10000 : Int64) ∈ zWs := zq _ 1049 (by decide +kernel) (by decide +kernel)
theorem qw_788 : Cond.constantLong RL 238 (10999 : Int64) ∈ zWs := zq _ 1050 (by decide +kernel) (by decide +kernel)
theorem qw_789 : Cond.constantLong RL 240 (40000 : Int64) ∈ zWs := zq _ 1051 (by decide +kernel) (by decide +kernel)
theorem qw_790 : Cond.constantLong RL 242 (40100 : Int64) ∈ zWs := zq _ 1052 (by decide +kernel) (by decide +kernel)
theorem qw_791 : Cond.constantLong RL 244 (40001 : Int64) ∈ zWs := zq _ 1053 (by decide +kernel) (by decide +kernel)
theorem qw_792 : Cond.constantLong RL 246 (50000 : Int64) ∈ zWs := zq _ 1054 (by decide +kernel) (by decide +kernel)
theorem qw_793 : Cond.constantLong RL 248 (50099 : Int64) ∈ zWs := zq _ 1055 (by decide +kernel) (by decide +kernel)
theorem qw_794 : Cond.constantLong RL 250 (60000 : Int64) ∈ zWs := zq _ 1056 (by decide +kernel) (by decide +kernel)
theorem qw_795 : Cond.code yL_refuses cL_refuses 6 (Option.some Jvm.ClassFile.FieldType.boolean) ∈ zWs := zq _ 726 (by decide +kernel) (by decide +kernel)
theorem qw_796 : Cond.methodLink RL 253 yL_refuses ∈ zWs := zq _ 724 (by decide +kernel) (by decide +kernel)
theorem qw_797 : Cond.static yL_refuses ∈ zWs := zq _ 725 (by decide +kernel) (by decide +kernel)
theorem vs_185 : zcs RL 253 yL_refuses cL_refuses 6 (Option.some Jvm.ClassFile.FieldType.boolean) 1 := ⟨qw_795, qw_669, (by decide +kernel), (by decide +kernel), qw_796, qw_797⟩
theorem qw_798 : Cond.code yL_alike cL_alike 4 (Option.some Jvm.ClassFile.FieldType.boolean) ∈ zWs := zq _ 712 (by decide +kernel) (by decide +kernel)
theorem qw_799 : Cond.methodLink RL 256 yL_alike ∈ zWs := zq _ 710 (by decide +kernel) (by decide +kernel)
theorem qw_800 : Cond.static yL_alike ∈ zWs := zq _ 711 (by decide +kernel) (by decide +kernel)
theorem vs_186 : zcs RL 256 yL_alike cL_alike 4 (Option.some Jvm.ClassFile.FieldType.boolean) 2 := ⟨qw_798, qw_669, (by decide +kernel), (by decide +kernel), qw_799, qw_800⟩
theorem qw_802 : Cond.methodLink RL 260 yL_told ∈ zWs := zq _ 633 (by decide +kernel) (by decide +kernel)
theorem qw_803 : Cond.static yL_told ∈ zWs := zq _ 634 (by decide +kernel) (by decide +kernel)
theorem vs_187 : zcs RL 260 yL_told cL_told 14 (Option.some Jvm.ClassFile.FieldType.boolean) 4 := ⟨qw_801, qw_669, (by decide +kernel), (by decide +kernel), qw_802, qw_803⟩
theorem qw_804 : Cond.code yL_act cL_act 4 (Option.some Jvm.ClassFile.FieldType.int) ∈ zWs := zq _ 1059 (by decide +kernel) (by decide +kernel)
theorem qw_805 : Cond.methodLink RL 264 yL_act ∈ zWs := zq _ 1057 (by decide +kernel) (by decide +kernel)
theorem qw_806 : Cond.static yL_act ∈ zWs := zq _ 1058 (by decide +kernel) (by decide +kernel)
theorem vs_188 : zcs RL 264 yL_act cL_act 4 (Option.some Jvm.ClassFile.FieldType.int) 3 := ⟨qw_804, qw_669, (by decide +kernel), (by decide +kernel), qw_805, qw_806⟩
theorem qw_807 : Cond.code yL_scripts cL_scripts 11 (Option.some Jvm.ClassFile.FieldType.boolean) ∈ zWs := zq _ 1037 (by decide +kernel) (by decide +kernel)
theorem qw_808 : Cond.methodLink RL 267 yL_scripts ∈ zWs := zq _ 1035 (by decide +kernel) (by decide +kernel)
theorem qw_809 : Cond.static yL_scripts ∈ zWs := zq _ 1036 (by decide +kernel) (by decide +kernel)
theorem vs_189 : zcs RL 267 yL_scripts cL_scripts 11 (Option.some Jvm.ClassFile.FieldType.boolean) 2 := ⟨qw_807, qw_669, (by decide +kernel), (by decide +kernel), qw_808, qw_809⟩
theorem qw_811 : Cond.methodLink RL 271 yL_hands ∈ zWs := zq _ 1024 (by decide +kernel) (by decide +kernel)
theorem qw_812 : Cond.static yL_hands ∈ zWs := zq _ 1025 (by decide +kernel) (by decide +kernel)
theorem vs_190 : zcs RL 271 yL_hands cL_hands 32 (Option.some Jvm.ClassFile.FieldType.boolean) 2 := ⟨qw_810, qw_669, (by decide +kernel), (by decide +kernel), qw_811, qw_812⟩
theorem qw_814 : Cond.methodLink RL 274 yL_days ∈ zWs := zq _ 1021 (by decide +kernel) (by decide +kernel)
theorem qw_815 : Cond.static yL_days ∈ zWs := zq _ 1022 (by decide +kernel) (by decide +kernel)
theorem vs_191 : zcs RL 274 yL_days cL_days 28 (Option.some Jvm.ClassFile.FieldType.boolean) 2 := ⟨qw_813, qw_669, (by decide +kernel), (by decide +kernel), qw_814, qw_815⟩
theorem qw_816 : Cond.instantiable RX10 5 ∈ zWs := zq _ 37 (by decide +kernel) (by decide +kernel)
theorem qw_817 : Cond.classLink RL 8 RX10 ∈ zWs := zq _ 36 (by decide +kernel) (by decide +kernel)
theorem qw_818 : Cond.code yX10_init cX10_init 2 (Option.none : Option Jvm.ClassFile.FieldType) ∈ zWs := zq _ 40 (by decide +kernel) (by decide +kernel)
theorem qw_819 : Cond.methodLink RL 252 yX10_init ∈ zWs := zq _ 38 (by decide +kernel) (by decide +kernel)
theorem qw_820 : Cond.instanceMethod yX10_init ∈ zWs := zq _ 39 (by decide +kernel) (by decide +kernel)
theorem vs_192 : zci RL 252 yX10_init cX10_init 2 := ⟨qw_818, qw_344, (by decide +kernel), (by decide +kernel), Or.inl qw_819, qw_820, rfl⟩
end
