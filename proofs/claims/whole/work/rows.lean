section
-- ===== PART A: goes FIRST, ahead of the names: the tables' words, and 'selects' of the private methods out of them =====
/-- a private method of a class that the tables say can be made, by its rows of tables_1 -/
def lw_okq (q : MethodName × Nat) : Prop := (q.1.cls ≠ "java/lang/invoke/MethodHandle" ∧ q.1.cls ≠ "java/lang/invoke/VarHandle") ∧ Cond.instantiable q.1.cls q.2 ∈ tables_1 ∧ Cond.privateMethod q.1 ∈ tables_1 ∧ Cond.instanceMethod q.1 ∈ tables_1
theorem lw_p0 : lw_okq (⟨"CableLanding$Text", "readHead", "(LCableLanding$State;)V"⟩, 4) := ⟨⟨by decide +kernel, by decide +kernel⟩, List.mem_of_getElem? (i := 29) (by decide +kernel), List.mem_of_getElem? (i := 370) (by decide +kernel), List.mem_of_getElem? (i := 371) (by decide +kernel)⟩
theorem lw_p1 : lw_okq (⟨"CableLanding$Text", "readLetter", "(C)V"⟩, 4) := ⟨⟨by decide +kernel, by decide +kernel⟩, List.mem_of_getElem? (i := 29) (by decide +kernel), List.mem_of_getElem? (i := 374) (by decide +kernel), List.mem_of_getElem? (i := 375) (by decide +kernel)⟩
theorem lw_p2 : lw_okq (⟨"CableLanding$Text", "nextIs", "(C)Z"⟩, 4) := ⟨⟨by decide +kernel, by decide +kernel⟩, List.mem_of_getElem? (i := 29) (by decide +kernel), List.mem_of_getElem? (i := 378) (by decide +kernel), List.mem_of_getElem? (i := 379) (by decide +kernel)⟩
theorem lw_p3 : lw_okq (⟨"CableLanding$Text", "readNumber", "(III)I"⟩, 4) := ⟨⟨by decide +kernel, by decide +kernel⟩, List.mem_of_getElem? (i := 29) (by decide +kernel), List.mem_of_getElem? (i := 382) (by decide +kernel), List.mem_of_getElem? (i := 383) (by decide +kernel)⟩
theorem lw_p4 : lw_okq (⟨"CableLanding$Text", "nextDigit", "()I"⟩, 4) := ⟨⟨by decide +kernel, by decide +kernel⟩, List.mem_of_getElem? (i := 29) (by decide +kernel), List.mem_of_getElem? (i := 386) (by decide +kernel), List.mem_of_getElem? (i := 387) (by decide +kernel)⟩
theorem lw_p5 : lw_okq (⟨"CableLanding$Text", "readZone", "(LCableLanding$State;)V"⟩, 4) := ⟨⟨by decide +kernel, by decide +kernel⟩, List.mem_of_getElem? (i := 29) (by decide +kernel), List.mem_of_getElem? (i := 391) (by decide +kernel), List.mem_of_getElem? (i := 392) (by decide +kernel)⟩
theorem lw_p6 : lw_okq (⟨"CableLanding$Text", "readShip", "(LCableLanding$State;)V"⟩, 4) := ⟨⟨by decide +kernel, by decide +kernel⟩, List.mem_of_getElem? (i := 29) (by decide +kernel), List.mem_of_getElem? (i := 396) (by decide +kernel), List.mem_of_getElem? (i := 397) (by decide +kernel)⟩
theorem lw_p7 : lw_okq (⟨"CableLanding$Text", "readWeather", "(LCableLanding$State;)V"⟩, 4) := ⟨⟨by decide +kernel, by decide +kernel⟩, List.mem_of_getElem? (i := 29) (by decide +kernel), List.mem_of_getElem? (i := 401) (by decide +kernel), List.mem_of_getElem? (i := 402) (by decide +kernel)⟩
theorem lw_p8 : lw_okq (⟨"CableLanding$State", "comeToFront", "()V"⟩, 12) := ⟨⟨by decide +kernel, by decide +kernel⟩, List.mem_of_getElem? (i := 49) (by decide +kernel), List.mem_of_getElem? (i := 477) (by decide +kernel), List.mem_of_getElem? (i := 478) (by decide +kernel)⟩
theorem lw_p9 : lw_okq (⟨"CableLanding$State", "workAtFront", "()I"⟩, 12) := ⟨⟨by decide +kernel, by decide +kernel⟩, List.mem_of_getElem? (i := 49) (by decide +kernel), List.mem_of_getElem? (i := 485) (by decide +kernel), List.mem_of_getElem? (i := 486) (by decide +kernel)⟩
theorem lw_p10 : lw_okq (⟨"CableLanding$Teams", "sendToRest", "(I)V"⟩, 7) := ⟨⟨by decide +kernel, by decide +kernel⟩, List.mem_of_getElem? (i := 75) (by decide +kernel), List.mem_of_getElem? (i := 513) (by decide +kernel), List.mem_of_getElem? (i := 514) (by decide +kernel)⟩
theorem lw_p11 : lw_okq (⟨"CableLanding$State", "lay", "(LCableLanding$Ship;LCableLanding$Zone;)I"⟩, 12) := ⟨⟨by decide +kernel, by decide +kernel⟩, List.mem_of_getElem? (i := 49) (by decide +kernel), List.mem_of_getElem? (i := 517) (by decide +kernel), List.mem_of_getElem? (i := 518) (by decide +kernel)⟩
theorem lw_p12 : lw_okq (⟨"CableLanding$State", "bookDay", "()V"⟩, 12) := ⟨⟨by decide +kernel, by decide +kernel⟩, List.mem_of_getElem? (i := 49) (by decide +kernel), List.mem_of_getElem? (i := 530) (by decide +kernel), List.mem_of_getElem? (i := 531) (by decide +kernel)⟩
theorem lw_p13 : lw_okq (⟨"java/lang/Throwable", "fillInStackTrace", "(I)Ljava/lang/Throwable;"⟩, 6) := ⟨⟨by decide +kernel, by decide +kernel⟩, List.mem_of_getElem? (i := 588) (by decide +kernel), List.mem_of_getElem? (i := 586) (by decide +kernel), List.mem_of_getElem? (i := 587) (by decide +kernel)⟩
theorem lw_p14 : lw_okq (⟨"CableLanding", "existingShip", "(I)LCableLanding$Ship;"⟩, 5) := ⟨⟨by decide +kernel, by decide +kernel⟩, List.mem_of_getElem? (i := 21) (by decide +kernel), List.mem_of_getElem? (i := 715) (by decide +kernel), List.mem_of_getElem? (i := 716) (by decide +kernel)⟩
theorem lw_p15 : lw_okq (⟨"CableLanding$History", "placeOf", "(I)LCableLanding$State;"⟩, 3) := ⟨⟨by decide +kernel, by decide +kernel⟩, List.mem_of_getElem? (i := 273) (by decide +kernel), List.mem_of_getElem? (i := 757) (by decide +kernel), List.mem_of_getElem? (i := 758) (by decide +kernel)⟩
def lw_privs_1 : List (MethodName × Nat) := [(⟨"CableLanding$Text", "readHead", "(LCableLanding$State;)V"⟩, 4), (⟨"CableLanding$Text", "readLetter", "(C)V"⟩, 4), (⟨"CableLanding$Text", "nextIs", "(C)Z"⟩, 4), (⟨"CableLanding$Text", "readNumber", "(III)I"⟩, 4), (⟨"CableLanding$Text", "nextDigit", "()I"⟩, 4), (⟨"CableLanding$Text", "readZone", "(LCableLanding$State;)V"⟩, 4), (⟨"CableLanding$Text", "readShip", "(LCableLanding$State;)V"⟩, 4), (⟨"CableLanding$Text", "readWeather", "(LCableLanding$State;)V"⟩, 4), (⟨"CableLanding$State", "comeToFront", "()V"⟩, 12), (⟨"CableLanding$State", "workAtFront", "()I"⟩, 12), (⟨"CableLanding$Teams", "sendToRest", "(I)V"⟩, 7), (⟨"CableLanding$State", "lay", "(LCableLanding$Ship;LCableLanding$Zone;)I"⟩, 12), (⟨"CableLanding$State", "bookDay", "()V"⟩, 12), (⟨"java/lang/Throwable", "fillInStackTrace", "(I)Ljava/lang/Throwable;"⟩, 6), (⟨"CableLanding", "existingShip", "(I)LCableLanding$Ship;"⟩, 5), (⟨"CableLanding$History", "placeOf", "(I)LCableLanding$State;"⟩, 3)]
theorem lw_r1 : ∀ q ∈ lw_privs_1, lw_okq q := List.forall_mem_cons.mpr ⟨lw_p0, List.forall_mem_cons.mpr ⟨lw_p1, List.forall_mem_cons.mpr ⟨lw_p2, List.forall_mem_cons.mpr ⟨lw_p3, List.forall_mem_cons.mpr ⟨lw_p4, List.forall_mem_cons.mpr ⟨lw_p5, List.forall_mem_cons.mpr ⟨lw_p6, List.forall_mem_cons.mpr ⟨lw_p7, List.forall_mem_cons.mpr ⟨lw_p8, List.forall_mem_cons.mpr ⟨lw_p9, List.forall_mem_cons.mpr ⟨lw_p10, List.forall_mem_cons.mpr ⟨lw_p11, List.forall_mem_cons.mpr ⟨lw_p12, List.forall_mem_cons.mpr ⟨lw_p13, List.forall_mem_cons.mpr ⟨lw_p14, List.forall_mem_cons.mpr ⟨lw_p15, fun _ h => absurd h List.not_mem_nil⟩⟩⟩⟩⟩⟩⟩⟩⟩⟩⟩⟩⟩⟩⟩⟩
theorem lw_p16 : lw_okq (⟨"CableLanding", "existingSlot", "(I)LCableLanding$Slot;"⟩, 5) := ⟨⟨by decide +kernel, by decide +kernel⟩, List.mem_of_getElem? (i := 21) (by decide +kernel), List.mem_of_getElem? (i := 971) (by decide +kernel), List.mem_of_getElem? (i := 972) (by decide +kernel)⟩
theorem lw_p17 : lw_okq (⟨"CableLandingModel", "refused", "(I)Z"⟩, 11) := ⟨⟨by decide +kernel, by decide +kernel⟩, List.mem_of_getElem? (i := 983) (by decide +kernel), List.mem_of_getElem? (i := 1036) (by decide +kernel), List.mem_of_getElem? (i := 1037) (by decide +kernel)⟩
theorem lw_p18 : lw_okq (⟨"CableLandingModel", "readAll", "()Z"⟩, 11) := ⟨⟨by decide +kernel, by decide +kernel⟩, List.mem_of_getElem? (i := 983) (by decide +kernel), List.mem_of_getElem? (i := 1048) (by decide +kernel), List.mem_of_getElem? (i := 1049) (by decide +kernel)⟩
theorem lw_p19 : lw_okq (⟨"CableLandingModel", "eat", "(I)Z"⟩, 11) := ⟨⟨by decide +kernel, by decide +kernel⟩, List.mem_of_getElem? (i := 983) (by decide +kernel), List.mem_of_getElem? (i := 1052) (by decide +kernel), List.mem_of_getElem? (i := 1053) (by decide +kernel)⟩
theorem lw_p20 : lw_okq (⟨"CableLandingModel", "put", "(IIII)Z"⟩, 11) := ⟨⟨by decide +kernel, by decide +kernel⟩, List.mem_of_getElem? (i := 983) (by decide +kernel), List.mem_of_getElem? (i := 1056) (by decide +kernel), List.mem_of_getElem? (i := 1057) (by decide +kernel)⟩
theorem lw_p21 : lw_okq (⟨"CableLandingModel", "readZone", "()Z"⟩, 11) := ⟨⟨by decide +kernel, by decide +kernel⟩, List.mem_of_getElem? (i := 983) (by decide +kernel), List.mem_of_getElem? (i := 1061) (by decide +kernel), List.mem_of_getElem? (i := 1062) (by decide +kernel)⟩
theorem lw_p22 : lw_okq (⟨"CableLandingModel", "readShip", "()Z"⟩, 11) := ⟨⟨by decide +kernel, by decide +kernel⟩, List.mem_of_getElem? (i := 983) (by decide +kernel), List.mem_of_getElem? (i := 1068) (by decide +kernel), List.mem_of_getElem? (i := 1069) (by decide +kernel)⟩
theorem lw_p23 : lw_okq (⟨"CableLandingModel", "note", "()V"⟩, 11) := ⟨⟨by decide +kernel, by decide +kernel⟩, List.mem_of_getElem? (i := 983) (by decide +kernel), List.mem_of_getElem? (i := 1129) (by decide +kernel), List.mem_of_getElem? (i := 1130) (by decide +kernel)⟩
theorem lw_p24 : lw_okq (⟨"CableLandingModel", "doneOf", "(I)I"⟩, 11) := ⟨⟨by decide +kernel, by decide +kernel⟩, List.mem_of_getElem? (i := 983) (by decide +kernel), List.mem_of_getElem? (i := 1244) (by decide +kernel), List.mem_of_getElem? (i := 1245) (by decide +kernel)⟩
theorem lw_p25 : lw_okq (⟨"CableLandingModel", "does", "(IIII)Z"⟩, 11) := ⟨⟨by decide +kernel, by decide +kernel⟩, List.mem_of_getElem? (i := 983) (by decide +kernel), List.mem_of_getElem? (i := 1266) (by decide +kernel), List.mem_of_getElem? (i := 1267) (by decide +kernel)⟩
def lw_privs_2 : List (MethodName × Nat) := [(⟨"CableLanding", "existingSlot", "(I)LCableLanding$Slot;"⟩, 5), (⟨"CableLandingModel", "refused", "(I)Z"⟩, 11), (⟨"CableLandingModel", "readAll", "()Z"⟩, 11), (⟨"CableLandingModel", "eat", "(I)Z"⟩, 11), (⟨"CableLandingModel", "put", "(IIII)Z"⟩, 11), (⟨"CableLandingModel", "readZone", "()Z"⟩, 11), (⟨"CableLandingModel", "readShip", "()Z"⟩, 11), (⟨"CableLandingModel", "note", "()V"⟩, 11), (⟨"CableLandingModel", "doneOf", "(I)I"⟩, 11), (⟨"CableLandingModel", "does", "(IIII)Z"⟩, 11)]
theorem lw_r2 : ∀ q ∈ lw_privs_2, lw_okq q := List.forall_mem_cons.mpr ⟨lw_p16, List.forall_mem_cons.mpr ⟨lw_p17, List.forall_mem_cons.mpr ⟨lw_p18, List.forall_mem_cons.mpr ⟨lw_p19, List.forall_mem_cons.mpr ⟨lw_p20, List.forall_mem_cons.mpr ⟨lw_p21, List.forall_mem_cons.mpr ⟨lw_p22, List.forall_mem_cons.mpr ⟨lw_p23, List.forall_mem_cons.mpr ⟨lw_p24, List.forall_mem_cons.mpr ⟨lw_p25, fun _ h => absurd h List.not_mem_nil⟩⟩⟩⟩⟩⟩⟩⟩⟩⟩
def lw_privs : List (MethodName × Nat) := lw_privs_1 ++ (lw_privs_2)
def lw_tbl : List Cond := k2_sels lw_privs ++ tables_1
theorem lw_privs_ok : ∀ q ∈ lw_privs, lw_okq q := by
  show ∀ q ∈ lw_privs_1 ++ (lw_privs_2), lw_okq q
  exact List.forall_mem_append.mpr ⟨lw_r1, lw_r2⟩
-- ===== end of PART A; then your names; then what follows =====
end
section
/-! ===== BEGIN words of one list among another's, by their places ===== -/
theorem goodIn_r {big : List Cond} (ws : List Cond) (ps : List Nat) (hp : ws = ps.filterMap (fun i => big[i]?)) (h : ws.all goodWord = true) : GoodIn big ws := by
  intro w hw
  have h1 := List.all_eq_true.mp h w hw
  rw [hp] at hw
  obtain ⟨i, -, hi⟩ := List.mem_filterMap.mp hw
  have hm : w ∈ big := by first | exact List.mem_of_getElem? hi | exact List.getElem?_mem hi
  exact ⟨hm, good_of_word h1⟩
theorem goodIn_app {big a b : List Cond} (ha : GoodIn big a) (hb : GoodIn big b) : GoodIn big (a ++ b) := fun w h => (List.mem_append.mp h).elim (ha w) (hb w)
theorem goodIn_ca {big a b : List Cond} {c : Cond} (ha : GoodIn big (c :: a)) (hb : GoodIn big b) : GoodIn big (c :: (a ++ b)) := fun w h => (List.mem_cons.mp h).elim (fun e => ha w (List.mem_cons.mpr (Or.inl e))) (fun h => (List.mem_append.mp h).elim (fun h => ha w (List.mem_cons.mpr (Or.inr h))) (hb w))
theorem goodIn_sub {big ws : List Cond} (hm : ∀ w ∈ ws, w ∈ big) (h : ws.all goodWord = true) : GoodIn big ws := fun w hw => ⟨hm w hw, good_of_word (List.all_eq_true.mp h w hw)⟩
/-! ===== END ===== -/
/-! ===== BEGIN exceptions that leave a method, and their catching by the caller (launches without stack traces) ===== -/
section VXA
/-! The laws vx_back, vx_callV, vx_callS, vx_callSW, vx_throw0, vx_throwS follow proofs of the library, with one case more: JvmDerived/Free/Laws.lean (Back.of_free), Shelf42/LK1.lean (callV, callS), Shelf/KitTraced.lean (throwNew0V, throwNewS). -/
/-- where a method has thrown q: the class by its name, the cell, what was written, the world -/
def vx_T (XC : String → State → State → Prop) (st : State) (q : Addr) (t : State) (mc ms : Nat) (free : Addr → Prop) : Prop :=
  ∃ (E : String) (ce : Cell) (L : List Loc), XC E st t ∧ t.heap[q]? = some ce ∧ ce.vm = .none ∧ st.vm.findClass E = some ce.cls ∧ st.WarmedH t.vm ∧ st.sameButNew ({ t with vm := st.vm } : State) L mc ms ∧ ∀ z ∈ L, free z.base
def vx_Q (Qc : Array Value → State → Outcome → State → Prop) (XC : String → State → State → Prop) (mc ms : Nat) (free : Addr → Prop) : Array Value → State → Outcome → State → Prop := fun a st o t =>
  (Qc a st o t ∧ ∃ L, FrameEnd st o t L mc ms ∧ ∀ q ∈ L, free q.base) ∨ ∃ q, o = .threw q ∧ vx_T XC st q t mc ms free
/-- a callee that returns or throws -/
def vx_Met (l : Launch) (y : MethodName) (ws : List Cond) (rm : Room) (Pc : Array Value → State → Prop) (Qc : Array Value → State → Outcome → State → Prop) (XC : String → State → State → Prop) (mc ms : Nat) (free : Addr → Prop) : Prop :=
  MetFree l y (headSpec ws rm) Pc (fun _ _ _ _ _ => True) (vx_Q Qc XC mc ms free)
def vx_Post (XC : String → State → State → Prop) (mc ms : Nat) (free : Addr → Prop) : Pt → Array Value → Addr → Pt → Prop := fun A a q B =>
  ∃ (g : JFrame) (mk : MethodId) (t : State) (L : List Loc) (E : String) (ce : Cell), B.U.heap = t.heap ∧ B.U.vm = t.vm ∧ XC E (A.U.calling g mk a) t ∧ t.heap[q]? = some ce ∧ ce.vm = .none ∧ A.U.vm.findClass E = some ce.cls ∧ B.locs = A.locs ++ L ∧ (∀ z ∈ L, free z.base) ∧ B.cells = A.cells + mc ∧ B.slots = A.slots + ms
def vx_Back (l : Launch) (R : Room) (p : Program) (e : Env) (below : List Frame) (s : State) (sargs : Array Value) (y : MethodName) (len W9 : Nat)
    (Pre : Pt → Array Value → Prop) (Post : Pt → Array Value → Option Value → Pt → Prop) (PostX : Pt → Array Value → Addr → Pt → Prop) : Prop :=
  ∀ (m : MethodId) (meth : Method) (c : Code) (A : Pt) (g : JFrame) (ig : Instr) (mk : MethodId) (a : Array Value),
    Stand p l e R s m sargs below meth c A.U A.locs A.cells A.slots → g.method = m → g.locals.size = c.maxLocals → decode c.code g.pc = .ok (ig, len) →
    2 * g.monitorRoom + (g.stack.map fun v => v.category).sum ≤ W9 → A.U.methodNamed? y = some mk → Pre A a →
    (∃ (v : Option Value) (B : Pt), Stand p l e R s m sargs below meth c B.U B.locs B.cells B.slots ∧ Post A a v B ∧
      Steps p.tables e below (doInvoke e (A.U.setTop g) [] mk a).1 (B.U.setTop { g with pc := g.pc + len, stack := v.toList ++ g.stack })) ∨
    (∃ (q : Addr) (B : Pt), Stand p l e R s m sargs below meth c B.U B.locs B.cells B.slots ∧ PostX A a q B ∧
      Steps p.tables e below (doInvoke e (A.U.setTop g) [] mk a).1 ((B.U.setTop g).pushFrame (.throwing q)))
section Payer
variable {l : Launch} {R : Room} {p : Program} {e : Env} {below : List Frame} {s : State} {sargs : Array Value} {y : MethodName} {len W9 : Nat}
theorem vx_back {ws : List Cond} {rm : Room} {Pc : Array Value → State → Prop} {Qc : Array Value → State → Outcome → State → Prop} {XC : String → State → State → Prop} {mc ms : Nat} {free : Addr → Prop} {bytes : ByteArray} {maxL : Nat} {ret : Option FieldType}
    (hM : vx_Met l y ws rm Pc Qc XC mc ms free) (hblind : FrameBlind Pc) (hrc : rm.cells = mc) (hrs : rm.slots = ms)
    (hframes : rm.frames + 1 ≤ R.frames) (hlocals : W9 + (maxL + 11) + rm.locals ≤ R.locals)
    (hws : ∀ w ∈ ws, ∀ a' U, s.WarmedH U.vm → w.before a' U = true) (hcode : Cond.code y bytes maxL ret ∈ ws) (hinit : ∀ a' U, s.WarmedH U.vm → (Cond.initialized y.cls).before a' U = true) :
    vx_Back l R p e below s sargs y len W9 (PreOf R mc ms Pc) (PostOf Qc mc ms free) (vx_Post XC mc ms free) := by
  intro m meth c A g ig mk a X hg hsize hdg hW hn hp
  have h1 : (headSpec ws rm).pre.before a A.U = true := atoms_intro fun w hw => hws w hw _ _ X.warmed
  have h2 : (Cond.code y bytes maxL ret).before a A.U = true := hws _ hcode _ _ X.warmed
  have h3 : (Cond.initialized y.cls).before a A.U = true := hinit _ _ X.warmed
  have h4 : A.cells + (headSpec ws rm).room.cells ≤ R.cells := by rw [show (headSpec ws rm).room.cells = mc from hrc]; exact hp.1
  have h5 : A.slots + (headSpec ws rm).room.slots ≤ R.slots := by rw [show (headSpec ws rm).room.slots = ms from hrs]; exact hp.2.1
  have hPc : Pc a (A.U.calling g mk a) := hblind _ _ _ _ hp.2.2
  obtain ⟨U, Ls, c0, s0⟩ := A
  dsimp only [Pt.U, Pt.locs, Pt.cells, Pt.slots] at h1 h2 h3 h4 h5 X hn hPc ⊢
  obtain ⟨methY, cY, hmY, hcY, -, hlY, -, -, -, -⟩ := Cond.code_spec hn h2
  obtain ⟨kY, hkY, -⟩ := className_of_methodNamed hn
  have hinitY : kY.init = .initialized := Cond.initialized_spec (findClass_of_methodNamed hn) hkY h3
  have h : At U g.method c below := by rw [hg]; exact X.here
  have hlocals9 : W9 + (maxL + 11) + (headSpec ws rm).room.locals ≤ R.locals := hlocals
  have happ : (headSpec ws rm).appliesLoose y e.platform (U.calling g mk a) = true :=
    Spec.appliesLoose_calling (g := g) h hdg hn hkY hinitY
      (X.room_calling (g := g) (R' := (headSpec ws rm).room) hsize hmY hcY hframes (by rw [hlY]; omega) h4 h5) h1
  obtain ⟨mid, hmid⟩ := h.above
  have hfr : (U.setTop g).frames = (.java g :: mid) ++ below := by rw [State.frames_setTop' g h.top, hmid]; rfl
  obtain ⟨o, s₂, hsteps, -, hend, hq⟩ := Steps.callFree hM p X.admits X.cas X.clock (acts := []) hfr happ hPc trivial
  have hq' : vx_Q Qc XC mc ms free a (U.calling g mk a) o s₂ := hq
  rw [State.frames_setTop' g h.top] at hend
  obtain ⟨g₀, hg0⟩ := Option.isSome_iff_exists.mp h.top
  obtain ⟨r, hr⟩ := State.topJava?_eq_some.mp hg0
  have hr' : (({ U with heap := s₂.heap, slotsUsed := s₂.slotsUsed } : State).setVm s₂.vm).frames = .java g₀ :: r := hr
  rcases hq' with ⟨hqc, L, hfe, hL⟩ | ⟨q, rfl, E, ce, L, hx, hce, hcv, hcl, hW₂, hsm, hL⟩
  · obtain ⟨⟨v, rfl⟩, hW₂, e2, q2, q3, q4, q5, q6⟩ := id hfe
    have e3 : s₂ = ({ (U.calling g mk a).setFrames s₂.frames with heap := s₂.heap, slotsUsed := s₂.slotsUsed } : State).setVm s₂.vm := by
      have : s₂ = ({ s₂ with vm := (U.calling g mk a).vm } : State).setVm s₂.vm := rfl
      rw [e2] at this
      exact this
    obtain ⟨c₂, i₂, len₂, hc₂, hd₂, hf₂⟩ := hend
    have hW' : U.WarmedH s₂.vm := hW₂
    have hcc : c₂ = c := by
      have h1 : s₂.code? g.method = U.code? g.method := by
        rw [State.code?_eq, State.code?_eq, hW'.alike.method?]
      exact Option.some.inj (hc₂.symm.trans (h1.trans h.code))
    subst hcc
    have hlen : len₂ = len := by rw [hdg] at hd₂; cases hd₂; rfl
    subst hlen
    have hs₂ : s₂ = (({ U with heap := s₂.heap, slotsUsed := s₂.slotsUsed } : State).setVm s₂.vm).setTop { g with pc := g.pc + len₂, stack := v.toList ++ g.stack } := by
      refine e3.trans ?_
      rw [hf₂, State.calling_eq h.top, State.setFrames_setFrames, State.setTop_of_frames _ hr', hr]
      rfl
    have hsame : U.sameButNew ({ U with heap := s₂.heap, slotsUsed := s₂.slotsUsed } : State) L mc ms := by
      refine ⟨?_, q2, q3, q4, q5, q6⟩
      obtain ⟨t, ht, -⟩ := State.frames_cons hr
      show ({ U with heap := s₂.heap, slotsUsed := s₂.slotsUsed } : State) = { U.setFrames U.frames with heap := s₂.heap, slotsUsed := s₂.slotsUsed }
      rw [State.setFrames_self ht]
    subst hg
    refine Or.inl ⟨v, ⟨(({ U with heap := s₂.heap, slotsUsed := s₂.slotsUsed } : State).setVm s₂.vm), Ls ++ L, c0 + mc, s0 + ms⟩,
      ⟨X.admits, X.cas, X.clock, X.frames, X.room, X.hears, X.method, X.code, (X.here.setHeapUsed s₂.heap s₂.slotsUsed).setVm hW'.alike, X.tail, State.WarmedH.trans X.warmed hW', X.limits, X.bytes, X.same.trans (hsame.setVm s.vm)⟩,
      ⟨g, mk, s₂, L, rfl, rfl, hqc, rfl, hL, rfl, rfl⟩, ?_⟩
    show Steps p.tables e below _ ((({ U with heap := s₂.heap, slotsUsed := s₂.slotsUsed } : State).setVm s₂.vm).setTop { g with pc := g.pc + len₂, stack := v.toList ++ g.stack })
    rw [← hs₂]
    exact hsteps
  · obtain ⟨e2, q2, q3, q4, q5, q6⟩ := id hsm
    have e3 : s₂ = ({ (U.calling g mk a).setFrames s₂.frames with heap := s₂.heap, slotsUsed := s₂.slotsUsed } : State).setVm s₂.vm := by
      have : s₂ = ({ s₂ with vm := (U.calling g mk a).vm } : State).setVm s₂.vm := rfl
      rw [e2] at this
      exact this
    have hf₂ : s₂.frames = .throwing q :: .java g :: U.frames.tail := hend
    have hW' : U.WarmedH s₂.vm := hW₂
    have hs₂ : s₂ = ((({ U with heap := s₂.heap, slotsUsed := s₂.slotsUsed } : State).setVm s₂.vm).setTop g).pushFrame (.throwing q) := by
      refine e3.trans ?_
      rw [hf₂, State.calling_eq h.top, State.setFrames_setFrames, State.pushFrame, State.frames_setTop _ hr', State.setTop_of_frames _ hr', State.setFrames_setFrames, hr]
      rfl
    have hsame : U.sameButNew ({ U with heap := s₂.heap, slotsUsed := s₂.slotsUsed } : State) L mc ms := by
      refine ⟨?_, q2, q3, q4, q5, q6⟩
      obtain ⟨t, ht, -⟩ := State.frames_cons hr
      show ({ U with heap := s₂.heap, slotsUsed := s₂.slotsUsed } : State) = { U.setFrames U.frames with heap := s₂.heap, slotsUsed := s₂.slotsUsed }
      rw [State.setFrames_self ht]
    subst hg
    refine Or.inr ⟨q, ⟨(({ U with heap := s₂.heap, slotsUsed := s₂.slotsUsed } : State).setVm s₂.vm), Ls ++ L, c0 + mc, s0 + ms⟩,
      ⟨X.admits, X.cas, X.clock, X.frames, X.room, X.hears, X.method, X.code, (X.here.setHeapUsed s₂.heap s₂.slotsUsed).setVm hW'.alike, X.tail, State.WarmedH.trans X.warmed hW', X.limits, X.bytes, X.same.trans (hsame.setVm s.vm)⟩,
      ⟨g, mk, s₂, L, E, ce, rfl, rfl, hx, hce, hcv, hcl, rfl, hL, rfl, rfl⟩, ?_⟩
    show Steps p.tables e below _ (((({ U with heap := s₂.heap, slotsUsed := s₂.slotsUsed } : State).setVm s₂.vm).setTop g).pushFrame (.throwing q))
    rw [← hs₂]
    exact hsteps
end Payer
section Calls
variable {p : Program} {l : Launch} {e : Env} {R : Room} {s : State} {m : MethodId} {args : Array Value} {below : List Frame} {meth : Method} {c : Code} {T : State} {locs : List Loc} {cells slots : Nat}
theorem vx_callV (X : Stand p l e R s m args below meth c T locs cells slots) (hexec : p.tables.exec = Jvm.exec) {own C : String} {index : Nat} {y : MethodName} {bytes : ByteArray} {maxL : Nat} {ret : Option FieldType}
    (hown : s.vm.findClass own = some m.cls) (hlink : (Cond.methodLink own index y).before args s = true) (hinst : (Cond.instanceMethod y).before args s = true) (hsel : (Cond.selects C y y).before args s = true)
    (hcode : (Cond.code y bytes maxL ret).before args s = true) (hy : y.cls ≠ "java/lang/invoke/MethodHandle" ∧ y.cls ≠ "java/lang/invoke/VarHandle")
    {W9 : Nat} {Pre : Pt → Array Value → Prop} {Post : Pt → Array Value → Option Value → Pt → Prop} {PostX : Pt → Array Value → Addr → Pt → Prop} (hK : vx_Back l R p e below s args y 3 W9 Pre Post PostX)
    {b : Addr} {cellB : Cell} (hcell : T.heap[b]? = some cellB) (hobj : cellB.vm.isStatics = false) (hcls : s.vm.findClass C = some cellB.cls)
    {g : JFrame} (hg : g.method = m) (hsize : g.locals.size = c.maxLocals) {argsL rest : List Value} (hlen : ∀ sig, parseMethodDescriptor y.desc = some sig → argsL.length = sig.parameters.length)
    (hstack : g.stack = argsL.reverse ++ .ref b :: rest) (hW : 2 * g.monitorRoom + (rest.map fun v => v.category).sum ≤ W9) (hdg : decode c.code g.pc = .ok (.invokevirtual index, 3))
    (hpre : ∀ vm₁, s.WarmedH vm₁ → Pre ⟨T.setVm vm₁, locs, cells, slots⟩ (Value.ref b :: argsL).toArray) :
    (∃ (v : Option Value) (vm₁ : Vm) (B : Pt), s.WarmedH vm₁ ∧ Stand p l e R s m args below meth c B.U B.locs B.cells B.slots ∧ Post ⟨T.setVm vm₁, locs, cells, slots⟩ (Value.ref b :: argsL).toArray v B ∧
      ∀ target, Steps p.tables e below (B.U.setTop { g with pc := g.pc + 3, stack := v.toList ++ rest }) target → Steps p.tables e below (T.setTop g) target) ∨
    (∃ (q : Addr) (vm₁ : Vm) (B : Pt), s.WarmedH vm₁ ∧ Stand p l e R s m args below meth c B.U B.locs B.cells B.slots ∧ PostX ⟨T.setVm vm₁, locs, cells, slots⟩ (Value.ref b :: argsL).toArray q B ∧
      Steps p.tables e below (T.setTop g) ((B.U.setTop { g with stack := rest }).pushFrame (.throwing q))) := by
  obtain ⟨mk, methM, hnamed, hmethM, hstM, habM⟩ := Cond.instanceMethod_spec hinst
  obtain ⟨methM', cM, hmethM', -, -, -, -, -, -, hsigM⟩ := Cond.code_spec hnamed hcode
  cases hmethM.symm.trans hmethM'
  obtain ⟨c2, r2, m2, q1, q2, q3, q4, kP, hkP, hkPi⟩ := Cond.selects_spec hsel
  cases hcls.symm.trans q1
  cases (State.methodFound?_of_named hnamed hy).symm.trans q2
  cases hnamed.symm.trans q3
  have hselP : selectMethod e.platform s.vm cellB.cls mk = .method mk := by rw [Launch.admits_selectMethod X.admits]; exact q4
  obtain ⟨vm₁, X₁, hstep₁⟩ := X.invokevirtual hexec hown hlink hnamed hmethM hstM hkP hkPi hy (a := b) (cell := cellB) hcell
    (fun z h => by rw [h] at hobj; cases hobj) hselP hmethM habM hkP hkPi (g := g) hg (argsL := argsL) (rest := rest) (hlen _ hsigM) hstack hdg
  rcases hK m meth c ⟨T.setVm vm₁, locs, cells, slots⟩ { g with stack := rest } (.invokevirtual index) mk (Value.ref b :: argsL).toArray X₁ hg hsize hdg hW (X₁.named hnamed) (hpre vm₁ X₁.warmed) with ⟨v, B, X', hpost, hsteps⟩ | ⟨q, B, X', hpost, hsteps⟩
  · exact Or.inl ⟨v, vm₁, B, X₁.warmed, X', hpost, fun target h => hstep₁ _ fun acts => by rw [doInvoke_state]; exact hsteps.trans h⟩
  · exact Or.inr ⟨q, vm₁, B, X₁.warmed, X', hpost, hstep₁ _ fun acts => by rw [doInvoke_state]; exact hsteps⟩
theorem vx_callS (X : Stand p l e R s m args below meth c T locs cells slots) (hexec : p.tables.exec = Jvm.exec) {own : String} {index : Nat} {y : MethodName} {bytes : ByteArray} {maxL : Nat} {ret : Option FieldType}
    (hown : s.vm.findClass own = some m.cls) (hlink : (Cond.methodLink own index y).before args s = true) (hstat : (Cond.static y).before args s = true) (hinit : (Cond.initialized y.cls).before args s = true)
    (hcode : (Cond.code y bytes maxL ret).before args s = true) (hy : y.cls ≠ "java/lang/invoke/MethodHandle" ∧ y.cls ≠ "java/lang/invoke/VarHandle")
    {W9 : Nat} {Pre : Pt → Array Value → Prop} {Post : Pt → Array Value → Option Value → Pt → Prop} {PostX : Pt → Array Value → Addr → Pt → Prop} (hK : vx_Back l R p e below s args y 3 W9 Pre Post PostX)
    {g : JFrame} (hg : g.method = m) (hsize : g.locals.size = c.maxLocals) {argsL rest : List Value} (hlen : ∀ sig, parseMethodDescriptor y.desc = some sig → argsL.length = sig.parameters.length)
    (hstack : g.stack = argsL.reverse ++ rest) (hW : 2 * g.monitorRoom + (rest.map fun v => v.category).sum ≤ W9) (hdg : decode c.code g.pc = .ok (.invokestatic index, 3))
    (hpre : ∀ vm₁, s.WarmedH vm₁ → Pre ⟨T.setVm vm₁, locs, cells, slots⟩ argsL.toArray) :
    (∃ (v : Option Value) (vm₁ : Vm) (B : Pt), s.WarmedH vm₁ ∧ Stand p l e R s m args below meth c B.U B.locs B.cells B.slots ∧ Post ⟨T.setVm vm₁, locs, cells, slots⟩ argsL.toArray v B ∧
      ∀ target, Steps p.tables e below (B.U.setTop { g with pc := g.pc + 3, stack := v.toList ++ rest }) target → Steps p.tables e below (T.setTop g) target) ∨
    (∃ (q : Addr) (vm₁ : Vm) (B : Pt), s.WarmedH vm₁ ∧ Stand p l e R s m args below meth c B.U B.locs B.cells B.slots ∧ PostX ⟨T.setVm vm₁, locs, cells, slots⟩ argsL.toArray q B ∧
      Steps p.tables e below (T.setTop g) ((B.U.setTop { g with stack := rest }).pushFrame (.throwing q))) := by
  obtain ⟨mk, hnamed⟩ := Cond.code_named hcode
  obtain ⟨methM, cM, hmethM, -, -, -, -, -, -, hsigM⟩ := Cond.code_spec hnamed hcode
  have hstatic : methM.isStatic = true := Cond.static_spec hnamed hmethM hstat
  obtain ⟨kP, hkP, -⟩ := className_of_methodNamed hnamed
  have hinitP : kP.init = .initialized := Cond.initialized_spec (findClass_of_methodNamed hnamed) hkP hinit
  obtain ⟨vm₁, X₁, hstep₁⟩ := X.invokestatic hexec hown hlink hnamed hmethM hstatic hkP hinitP hy (g := g) hg (argsL := argsL) (rest := rest) (hlen _ hsigM) hstack hdg
  rcases hK m meth c ⟨T.setVm vm₁, locs, cells, slots⟩ { g with stack := rest } (.invokestatic index) mk argsL.toArray X₁ hg hsize hdg hW (X₁.named hnamed) (hpre vm₁ X₁.warmed) with ⟨v, B, X', hpost, hsteps⟩ | ⟨q, B, X', hpost, hsteps⟩
  · exact Or.inl ⟨v, vm₁, B, X₁.warmed, X', hpost, fun target h => hstep₁ _ fun acts => by rw [doInvoke_state]; exact hsteps.trans h⟩
  · exact Or.inr ⟨q, vm₁, B, X₁.warmed, X', hpost, hstep₁ _ fun acts => by rw [doInvoke_state]; exact hsteps⟩
end Calls
theorem vx_cls {s : State} {T : State} {vm₁ : Vm} {E : String} {k : ClassId} (hW : s.WarmedH vm₁) (h : (T.setVm vm₁).vm.findClass E = some k) : s.vm.findClass E = some k := by
  have h1 : vm₁.findClass E = some k := h
  rw [hW.alike.findClass] at h1
  exact h1
/-- the method's frame g, with q thrown over it -/
def vx_W (p : Program) (l : Launch) (e : Env) (R : Room) (s : State) (m : MethodId) (args : Array Value) (below : List Frame) (meth : Method) (c : Code) (H : Heap) (locs : List Loc) (cells slots : Nat) (Q : State → Prop) (g : JFrame) (q : Addr) : Prop :=
  ∀ T : State, T.heap = H → Stand p l e R s m args below meth c T locs cells slots → ∃ t, Steps p.tables e below ((T.setTop g).pushFrame (.throwing q)) t ∧ Q t
def vx_Run (p : Program) (l : Launch) (e : Env) (R : Room) (s : State) (m : MethodId) (args : Array Value) (below : List Frame) (meth : Method) (c : Code) (H : Heap) (locs : List Loc) (cells slots mc ms : Nat) (g : JFrame) (rest : List Value) (Qa : State → Outcome → State → Prop) (XC : String → State → State → Prop) (free : Addr → Prop) : Prop :=
  ∀ T : State, T.heap = H → Stand p l e R s m args below meth c T locs cells slots →
    (∃ (v : Option Value) (st₀ t T' : State) (L : List Loc), st₀.heap = H ∧ Stand p l e R s m args below meth c T' (locs ++ L) (cells + mc) (slots + ms) ∧ (∀ q ∈ L, free q.base) ∧ T'.heap = t.heap ∧ T'.vm = t.vm ∧ Qa st₀ (.returned v) t ∧
      Goes p e below T g T' { g with pc := g.pc + 3, stack := v.toList ++ rest }) ∨
    (∃ (q : Addr) (st₀ t T' : State) (L : List Loc) (E : String) (ce : Cell), st₀.heap = H ∧ Stand p l e R s m args below meth c T' (locs ++ L) (cells + mc) (slots + ms) ∧ (∀ z ∈ L, free z.base) ∧ T'.heap = t.heap ∧ T'.vm = t.vm ∧ XC E st₀ t ∧ t.heap[q]? = some ce ∧ ce.vm = .none ∧ s.vm.findClass E = some ce.cls ∧
      Steps p.tables e below (T.setTop g) ((T'.setTop { g with stack := rest }).pushFrame (.throwing q)))
def vx_X {S : Type} (px : S → Prop) (B : String → S → State → Prop) (A : Nat → Prop) : String → State → State → Prop := fun E st t => ∃ u : S, px u ∧ B E u t ∧ va_F A st t
section Runs
variable {p : Program} {l : Launch} {e : Env} {R : Room} {s : State} {m : MethodId} {args : Array Value} {below : List Frame} {meth : Method} {c : Code} {H : Heap} {locs : List Loc} {cells slots : Nat}
variable {y : MethodName} {bytes cc : ByteArray} {maxL nL mc ms n index : Nat} {ret : Option FieldType} {ws : List Cond} {rm : Room} {Pc : Array Value → State → Prop} {Qc : Array Value → State → Outcome → State → Prop} {XC : String → State → State → Prop} {free : Addr → Prop} {Ts : List Cond} {own C : String} {b : Addr} {As rest : List Value} {g : JFrame}
theorem vx_callBack (cb : CallB R s args own index y bytes maxL ret ws rm mc ms n) (hM : vx_Met l y ws rm Pc Qc XC mc ms free) (hbl : FrameBlind Pc) : vx_Back l R p e below s args y 3 8 (PreOf R mc ms Pc) (PostOf Qc mc ms free) (vx_Post XC mc ms free) := by
  obtain ⟨hrc, hrs, hfr, hlo, hws, hcw, -, hini, -⟩ := cb
  exact vx_back (bytes := bytes) (maxL := maxL) (ret := ret) hM hbl hrc hrs hfr hlo hws hcw (fun a' U hW => word_at hW (Or.inl (by first | rfl | simp [Cond.onTables, Cond.keeps, Cond.steady])) hini)
theorem vx_runV (S : CallFix p m c cc nL s args Ts own) (hM : vx_Met l y ws rm Pc Qc XC mc ms free) (cw : CallW R s args own C index y bytes maxL ret ws rm mc ms n) (hp : PreV s H C b Pc As)
    (hg : g.method = m) (hn : As.length = n) (hsize : g.locals.size = nL) (hstack : g.stack = As.reverse ++ .ref b :: rest) (hW : 2 * g.monitorRoom + (rest.map fun v => v.category).sum ≤ 8) (hdg : decode cc g.pc = .ok (.invokevirtual index, 3)) (hf : cells + mc ≤ R.cells ∧ slots + ms ≤ R.slots) :
    vx_Run p l e R s m args below meth c H locs cells slots mc ms g rest (Qc (Value.ref b :: As).toArray) XC free := by
  have hK : vx_Back l R p e below s args y 3 8 (PreOf R mc ms Pc) (PostOf Qc mc ms free) (vx_Post XC mc ms free) := vx_callBack cw.1 hM hp.1
  obtain ⟨⟨-, -, -, -, -, -, hcode, -, hy, hlen, hl⟩, hin, hse⟩ := cw
  obtain ⟨hx, hb, hml, ho, -⟩ := S
  obtain ⟨-, ⟨cellB, hcB, hoB, hclB⟩, hPc⟩ := hp
  intro T hT X
  rcases vx_callV X hx (C := C) (bytes := bytes) (maxL := maxL) (ret := ret) ho hl hin hse hcode hy hK (by rw [hT]; exact hcB) hoB hclB hg (hsize.trans hml.symm) (argsL := As) (rest := rest) (fun sig h => hn.trans (hlen sig h)) hstack hW (by rw [hb]; exact hdg)
    (fun vm₁ hW₁ => ⟨hf.1, hf.2, hPc (T.setVm vm₁) hT hW₁⟩) with ⟨v, vm₁, ⟨U', l2, c2, s2⟩, hW₁, X', ⟨g', mk, t, L, e1, e2, hq, h1, hL, h2, h3⟩, st⟩ | ⟨q, vm₁, ⟨U', l2, c2, s2⟩, hW₁, X', ⟨g', mk, t, L, E, ce, e1, e2, hq, hce, hcv, hcl, h1, hL, h2, h3⟩, st⟩
  · dsimp only [Pt.U, Pt.locs, Pt.cells, Pt.slots] at X' e1 e2 h1 h2 h3 st
    subst h1; subst h2; subst h3
    exact Or.inl ⟨v, (T.setVm vm₁).calling g' mk (Value.ref b :: As).toArray, t, U', L, hT, X', hL, e1, e2, hq, st⟩
  · dsimp only [Pt.U, Pt.locs, Pt.cells, Pt.slots] at X' e1 e2 h1 h2 h3 st hcl
    subst h1; subst h2; subst h3
    exact Or.inr ⟨q, (T.setVm vm₁).calling g' mk (Value.ref b :: As).toArray, t, U', L, E, ce, hT, X', hL, e1, e2, hq, hce, hcv, vx_cls hW₁ hcl, st⟩
theorem vx_runS (S : CallFix p m c cc nL s args Ts own) (hM : vx_Met l y ws rm Pc Qc XC mc ms free) (cw : CallB R s args own index y bytes maxL ret ws rm mc ms n ∧ (Cond.static y).before args s = true) (hp : PreS s H Pc As)
    (hg : g.method = m) (hn : As.length = n) (hsize : g.locals.size = nL) (hstack : g.stack = As.reverse ++ rest) (hW : 2 * g.monitorRoom + (rest.map fun v => v.category).sum ≤ 8) (hdg : decode cc g.pc = .ok (.invokestatic index, 3)) (hf : cells + mc ≤ R.cells ∧ slots + ms ≤ R.slots) :
    vx_Run p l e R s m args below meth c H locs cells slots mc ms g rest (Qc As.toArray) XC free := by
  have hK : vx_Back l R p e below s args y 3 8 (PreOf R mc ms Pc) (PostOf Qc mc ms free) (vx_Post XC mc ms free) := vx_callBack cw.1 hM hp.1
  obtain ⟨⟨-, -, -, -, -, -, hcode, hini, hy, hlen, hl⟩, hstt⟩ := cw
  obtain ⟨hx, hb, hml, ho, -⟩ := S
  intro T hT X
  rcases vx_callS X hx (bytes := bytes) (maxL := maxL) (ret := ret) ho hl hstt hini hcode hy hK hg (hsize.trans hml.symm) (argsL := As) (rest := rest) (fun sig h => hn.trans (hlen sig h)) hstack hW (by rw [hb]; exact hdg)
    (fun vm₁ hW₁ => ⟨hf.1, hf.2, hp.2 (T.setVm vm₁) hT hW₁⟩) with ⟨v, vm₁, ⟨U', l2, c2, s2⟩, hW₁, X', ⟨g', mk, t, L, e1, e2, hq, h1, hL, h2, h3⟩, st⟩ | ⟨q, vm₁, ⟨U', l2, c2, s2⟩, hW₁, X', ⟨g', mk, t, L, E, ce, e1, e2, hq, hce, hcv, hcl, h1, hL, h2, h3⟩, st⟩
  · dsimp only [Pt.U, Pt.locs, Pt.cells, Pt.slots] at X' e1 e2 h1 h2 h3 st
    subst h1; subst h2; subst h3
    exact Or.inl ⟨v, (T.setVm vm₁).calling g' mk As.toArray, t, U', L, hT, X', hL, e1, e2, hq, st⟩
  · dsimp only [Pt.U, Pt.locs, Pt.cells, Pt.slots] at X' e1 e2 h1 h2 h3 st hcl
    subst h1; subst h2; subst h3
    exact Or.inr ⟨q, (T.setVm vm₁).calling g' mk As.toArray, t, U', L, E, ce, hT, X', hL, e1, e2, hq, hce, hcv, vx_cls hW₁ hcl, st⟩
end Runs
section Rows
variable {p : Program} {l : Launch} {e : Env} {R : Room} {s : State} {m : MethodId} {args : Array Value} {below : List Frame} {meth : Method} {c : Code} {H : Heap} {locs : List Loc} {cells slots : Nat} {Q : State → Prop}
variable {mc ms : Nat} {free : Addr → Prop} {A0 A1 : Nat → Prop} {H0 : Heap} {a : Array Value} {pc : Nat} {ls : Array Slot} {st0 rest : List Value}
theorem vx_keep {st₀ t T' : State} {L : List Loc} (h0 : st₀.heap = H) (e1 : T'.heap = t.heap) (hS : va_S A0 H0 H locs) (hA : ∀ q, q < H.size → A1 q → A0 q) (hf : ∀ q, free q → A0 q) (hL : ∀ q ∈ L, free q.base) (hF : va_F A1 st₀ t) :
    H.size ≤ T'.heap.size ∧ (∀ q : Nat, q < H.size → ¬ A1 q → T'.heap[q]? = H[q]?) ∧ va_S A0 H0 T'.heap (locs ++ L) := by
  obtain ⟨hz, hk⟩ := hF
  rw [h0] at hz hk
  exact ⟨by rw [e1]; exact hz, fun q h1 h2 => by rw [e1]; exact hk q h1 h2,
    ⟨Nat.le_trans hS.1 (by rw [e1]; exact hz), fun q h1 h2 => by rw [e1, hk q (Nat.lt_of_lt_of_le h1 hS.1) (fun z => h2 (hA q (Nat.lt_of_lt_of_le h1 hS.1) z))]; exact hS.2.1 q h1 h2, fun q hq => by
      rcases List.mem_append.mp hq with h | h
      · exact hS.2.2 q h
      · exact hf _ (hL q h)⟩⟩
theorem vx_calli {S SX : Type} {post : Int32 → S → Prop} {px : SX → Prop} {B : S → State → Prop} {BX : String → SX → State → Prop} {AX : Nat → Prop} (hr : vx_Run p l e R s m args below meth c H locs cells slots mc ms (F0 m pc ls st0) rest (va_Qi post B A1 a) (vx_X px BX AX) free) (hS : va_S A0 H0 H locs) (hA : ∀ q, q < H.size → A1 q → A0 q) (hf : ∀ q, free q → A0 q) (hAX : ∀ q, q < H.size → AX q → A0 q)
    (kx : ∀ (E : String) (ce : Cell) (q9 : Addr) (u : SX) (t : State) (H1 : Heap) (locs1 : List Loc), t.heap = H1 → s.vm.Alike t.vm → px u → BX E u t → H.size ≤ H1.size → (∀ q : Nat, q < H.size → ¬ AX q → H1[q]? = H[q]?) → va_S A0 H0 H1 locs1 → H1[q9]? = some ce → ce.vm = .none → s.vm.findClass E = some ce.cls → vx_W p l e R s m args below meth c H1 locs1 (cells + mc) (slots + ms) Q (F0 m pc ls rest) q9)
    (kk : ∀ (r : Int32) (u : S) (t : State) (H1 : Heap) (locs1 : List Loc), t.heap = H1 → s.vm.Alike t.vm → post r u → B u t → H.size ≤ H1.size → (∀ q : Nat, q < H.size → ¬ A1 q → H1[q]? = H[q]?) → va_S A0 H0 H1 locs1 → W p l e R s m args below meth c H1 locs1 (cells + mc) (slots + ms) Q (F0 m (pc + 3) ls (.int r :: rest))) : W p l e R s m args below meth c H locs cells slots Q (F0 m pc ls st0) := by
  intro T hT X
  rcases hr T hT X with ⟨v, st₀, t, T', L, h0, X', hL, e1, e2, ⟨⟨r, u, hv, hp, hb⟩, hF⟩, st⟩ | ⟨q, st₀, t, T', L, E, ce, h0, X', hL, e1, e2, ⟨u, hp, hb, hF⟩, hce, hcv, hcl, st⟩
  · cases hv
    obtain ⟨k1, k2, k3⟩ := vx_keep h0 e1 hS hA hf hL hF
    obtain ⟨t2, a1, b1⟩ := kk r u t T'.heap (locs ++ L) e1.symm (by rw [← e2]; exact X'.warmed.alike) hp hb k1 k2 k3 T' rfl X'
    exact ⟨t2, st t2 a1, b1⟩
  · obtain ⟨k1, k2, k3⟩ := vx_keep h0 e1 hS hAX hf hL hF
    obtain ⟨t2, a1, b1⟩ := kx E ce q u t T'.heap (locs ++ L) e1.symm (by rw [← e2]; exact X'.warmed.alike) hp hb k1 k2 k3 (by rw [e1]; exact hce) hcv hcl T' rfl X'
    exact ⟨t2, st.trans a1, b1⟩
theorem vx_calll {S SX : Type} {post : Int64 → S → Prop} {px : SX → Prop} {B : S → State → Prop} {BX : String → SX → State → Prop} {AX : Nat → Prop} (hr : vx_Run p l e R s m args below meth c H locs cells slots mc ms (F0 m pc ls st0) rest (va_Ql post B A1 a) (vx_X px BX AX) free) (hS : va_S A0 H0 H locs) (hA : ∀ q, q < H.size → A1 q → A0 q) (hf : ∀ q, free q → A0 q) (hAX : ∀ q, q < H.size → AX q → A0 q)
    (kx : ∀ (E : String) (ce : Cell) (q9 : Addr) (u : SX) (t : State) (H1 : Heap) (locs1 : List Loc), t.heap = H1 → s.vm.Alike t.vm → px u → BX E u t → H.size ≤ H1.size → (∀ q : Nat, q < H.size → ¬ AX q → H1[q]? = H[q]?) → va_S A0 H0 H1 locs1 → H1[q9]? = some ce → ce.vm = .none → s.vm.findClass E = some ce.cls → vx_W p l e R s m args below meth c H1 locs1 (cells + mc) (slots + ms) Q (F0 m pc ls rest) q9)
    (kk : ∀ (r : Int64) (u : S) (t : State) (H1 : Heap) (locs1 : List Loc), t.heap = H1 → s.vm.Alike t.vm → post r u → B u t → H.size ≤ H1.size → (∀ q : Nat, q < H.size → ¬ A1 q → H1[q]? = H[q]?) → va_S A0 H0 H1 locs1 → W p l e R s m args below meth c H1 locs1 (cells + mc) (slots + ms) Q (F0 m (pc + 3) ls (.long r :: rest))) : W p l e R s m args below meth c H locs cells slots Q (F0 m pc ls st0) := by
  intro T hT X
  rcases hr T hT X with ⟨v, st₀, t, T', L, h0, X', hL, e1, e2, ⟨⟨r, u, hv, hp, hb⟩, hF⟩, st⟩ | ⟨q, st₀, t, T', L, E, ce, h0, X', hL, e1, e2, ⟨u, hp, hb, hF⟩, hce, hcv, hcl, st⟩
  · cases hv
    obtain ⟨k1, k2, k3⟩ := vx_keep h0 e1 hS hA hf hL hF
    obtain ⟨t2, a1, b1⟩ := kk r u t T'.heap (locs ++ L) e1.symm (by rw [← e2]; exact X'.warmed.alike) hp hb k1 k2 k3 T' rfl X'
    exact ⟨t2, st t2 a1, b1⟩
  · obtain ⟨k1, k2, k3⟩ := vx_keep h0 e1 hS hAX hf hL hF
    obtain ⟨t2, a1, b1⟩ := kx E ce q u t T'.heap (locs ++ L) e1.symm (by rw [← e2]; exact X'.warmed.alike) hp hb k1 k2 k3 (by rw [e1]; exact hce) hcv hcl T' rfl X'
    exact ⟨t2, st.trans a1, b1⟩
theorem vx_callf {S SX : Type} {post : UInt32 → S → Prop} {px : SX → Prop} {B : S → State → Prop} {BX : String → SX → State → Prop} {AX : Nat → Prop} (hr : vx_Run p l e R s m args below meth c H locs cells slots mc ms (F0 m pc ls st0) rest (va_Qf post B A1 a) (vx_X px BX AX) free) (hS : va_S A0 H0 H locs) (hA : ∀ q, q < H.size → A1 q → A0 q) (hf : ∀ q, free q → A0 q) (hAX : ∀ q, q < H.size → AX q → A0 q)
    (kx : ∀ (E : String) (ce : Cell) (q9 : Addr) (u : SX) (t : State) (H1 : Heap) (locs1 : List Loc), t.heap = H1 → s.vm.Alike t.vm → px u → BX E u t → H.size ≤ H1.size → (∀ q : Nat, q < H.size → ¬ AX q → H1[q]? = H[q]?) → va_S A0 H0 H1 locs1 → H1[q9]? = some ce → ce.vm = .none → s.vm.findClass E = some ce.cls → vx_W p l e R s m args below meth c H1 locs1 (cells + mc) (slots + ms) Q (F0 m pc ls rest) q9)
    (kk : ∀ (r : UInt32) (u : S) (t : State) (H1 : Heap) (locs1 : List Loc), t.heap = H1 → s.vm.Alike t.vm → post r u → B u t → H.size ≤ H1.size → (∀ q : Nat, q < H.size → ¬ A1 q → H1[q]? = H[q]?) → va_S A0 H0 H1 locs1 → W p l e R s m args below meth c H1 locs1 (cells + mc) (slots + ms) Q (F0 m (pc + 3) ls (.float r :: rest))) : W p l e R s m args below meth c H locs cells slots Q (F0 m pc ls st0) := by
  intro T hT X
  rcases hr T hT X with ⟨v, st₀, t, T', L, h0, X', hL, e1, e2, ⟨⟨r, u, hv, hp, hb⟩, hF⟩, st⟩ | ⟨q, st₀, t, T', L, E, ce, h0, X', hL, e1, e2, ⟨u, hp, hb, hF⟩, hce, hcv, hcl, st⟩
  · cases hv
    obtain ⟨k1, k2, k3⟩ := vx_keep h0 e1 hS hA hf hL hF
    obtain ⟨t2, a1, b1⟩ := kk r u t T'.heap (locs ++ L) e1.symm (by rw [← e2]; exact X'.warmed.alike) hp hb k1 k2 k3 T' rfl X'
    exact ⟨t2, st t2 a1, b1⟩
  · obtain ⟨k1, k2, k3⟩ := vx_keep h0 e1 hS hAX hf hL hF
    obtain ⟨t2, a1, b1⟩ := kx E ce q u t T'.heap (locs ++ L) e1.symm (by rw [← e2]; exact X'.warmed.alike) hp hb k1 k2 k3 (by rw [e1]; exact hce) hcv hcl T' rfl X'
    exact ⟨t2, st.trans a1, b1⟩
theorem vx_calld {S SX : Type} {post : UInt64 → S → Prop} {px : SX → Prop} {B : S → State → Prop} {BX : String → SX → State → Prop} {AX : Nat → Prop} (hr : vx_Run p l e R s m args below meth c H locs cells slots mc ms (F0 m pc ls st0) rest (va_Qd post B A1 a) (vx_X px BX AX) free) (hS : va_S A0 H0 H locs) (hA : ∀ q, q < H.size → A1 q → A0 q) (hf : ∀ q, free q → A0 q) (hAX : ∀ q, q < H.size → AX q → A0 q)
    (kx : ∀ (E : String) (ce : Cell) (q9 : Addr) (u : SX) (t : State) (H1 : Heap) (locs1 : List Loc), t.heap = H1 → s.vm.Alike t.vm → px u → BX E u t → H.size ≤ H1.size → (∀ q : Nat, q < H.size → ¬ AX q → H1[q]? = H[q]?) → va_S A0 H0 H1 locs1 → H1[q9]? = some ce → ce.vm = .none → s.vm.findClass E = some ce.cls → vx_W p l e R s m args below meth c H1 locs1 (cells + mc) (slots + ms) Q (F0 m pc ls rest) q9)
    (kk : ∀ (r : UInt64) (u : S) (t : State) (H1 : Heap) (locs1 : List Loc), t.heap = H1 → s.vm.Alike t.vm → post r u → B u t → H.size ≤ H1.size → (∀ q : Nat, q < H.size → ¬ A1 q → H1[q]? = H[q]?) → va_S A0 H0 H1 locs1 → W p l e R s m args below meth c H1 locs1 (cells + mc) (slots + ms) Q (F0 m (pc + 3) ls (.double r :: rest))) : W p l e R s m args below meth c H locs cells slots Q (F0 m pc ls st0) := by
  intro T hT X
  rcases hr T hT X with ⟨v, st₀, t, T', L, h0, X', hL, e1, e2, ⟨⟨r, u, hv, hp, hb⟩, hF⟩, st⟩ | ⟨q, st₀, t, T', L, E, ce, h0, X', hL, e1, e2, ⟨u, hp, hb, hF⟩, hce, hcv, hcl, st⟩
  · cases hv
    obtain ⟨k1, k2, k3⟩ := vx_keep h0 e1 hS hA hf hL hF
    obtain ⟨t2, a1, b1⟩ := kk r u t T'.heap (locs ++ L) e1.symm (by rw [← e2]; exact X'.warmed.alike) hp hb k1 k2 k3 T' rfl X'
    exact ⟨t2, st t2 a1, b1⟩
  · obtain ⟨k1, k2, k3⟩ := vx_keep h0 e1 hS hAX hf hL hF
    obtain ⟨t2, a1, b1⟩ := kx E ce q u t T'.heap (locs ++ L) e1.symm (by rw [← e2]; exact X'.warmed.alike) hp hb k1 k2 k3 (by rw [e1]; exact hce) hcv hcl T' rfl X'
    exact ⟨t2, st.trans a1, b1⟩
theorem vx_callv {S SX : Type} {post : S → Prop} {px : SX → Prop} {B : S → State → Prop} {BX : String → SX → State → Prop} {AX : Nat → Prop} (hr : vx_Run p l e R s m args below meth c H locs cells slots mc ms (F0 m pc ls st0) rest (va_Qv post B A1 a) (vx_X px BX AX) free) (hS : va_S A0 H0 H locs) (hA : ∀ q, q < H.size → A1 q → A0 q) (hf : ∀ q, free q → A0 q) (hAX : ∀ q, q < H.size → AX q → A0 q)
    (kx : ∀ (E : String) (ce : Cell) (q9 : Addr) (u : SX) (t : State) (H1 : Heap) (locs1 : List Loc), t.heap = H1 → s.vm.Alike t.vm → px u → BX E u t → H.size ≤ H1.size → (∀ q : Nat, q < H.size → ¬ AX q → H1[q]? = H[q]?) → va_S A0 H0 H1 locs1 → H1[q9]? = some ce → ce.vm = .none → s.vm.findClass E = some ce.cls → vx_W p l e R s m args below meth c H1 locs1 (cells + mc) (slots + ms) Q (F0 m pc ls rest) q9)
    (kk : ∀ (u : S) (t : State) (H1 : Heap) (locs1 : List Loc), t.heap = H1 → s.vm.Alike t.vm → post u → B u t → H.size ≤ H1.size → (∀ q : Nat, q < H.size → ¬ A1 q → H1[q]? = H[q]?) → va_S A0 H0 H1 locs1 → W p l e R s m args below meth c H1 locs1 (cells + mc) (slots + ms) Q (F0 m (pc + 3) ls (rest))) : W p l e R s m args below meth c H locs cells slots Q (F0 m pc ls st0) := by
  intro T hT X
  rcases hr T hT X with ⟨v, st₀, t, T', L, h0, X', hL, e1, e2, ⟨⟨u, hv, hp, hb⟩, hF⟩, st⟩ | ⟨q, st₀, t, T', L, E, ce, h0, X', hL, e1, e2, ⟨u, hp, hb, hF⟩, hce, hcv, hcl, st⟩
  · cases hv
    obtain ⟨k1, k2, k3⟩ := vx_keep h0 e1 hS hA hf hL hF
    obtain ⟨t2, a1, b1⟩ := kk u t T'.heap (locs ++ L) e1.symm (by rw [← e2]; exact X'.warmed.alike) hp hb k1 k2 k3 T' rfl X'
    exact ⟨t2, st t2 a1, b1⟩
  · obtain ⟨k1, k2, k3⟩ := vx_keep h0 e1 hS hAX hf hL hF
    obtain ⟨t2, a1, b1⟩ := kx E ce q u t T'.heap (locs ++ L) e1.symm (by rw [← e2]; exact X'.warmed.alike) hp hb k1 k2 k3 (by rw [e1]; exact hce) hcv hcl T' rfl X'
    exact ⟨t2, st.trans a1, b1⟩
/-- caught by the row x of this method's table; the rows ahead don't take it -/
theorem vx_catch {own name : String} {E : String} {ce : Cell} {q : Addr} (hown : s.vm.findClass own = some m.cls) (pre : List ExceptionTableEntry) (x : ExceptionTableEntry) (suf : List ExceptionTableEntry) (hsplit : c.exceptionTable.toList = pre ++ x :: suf)
    (hpass : ∀ z ∈ pre, covers z pc = false ∨ (z.catchType ≠ 0 ∧ ∃ nm : String, (Cond.classLink own z.catchType nm).before args s = true ∧ va_Nc E nm s)) (hx : covers x pc = true) (h0 : x.catchType ≠ 0)
    (hlink : (Cond.classLink own x.catchType name).before args s = true) (hcast : (Cond.castable E name).before args s = true) (hcell : H[q]? = some ce) (hv : ce.vm = .none) (hcl : s.vm.findClass E = some ce.cls)
    (kk : W p l e R s m args below meth c H locs cells slots Q (F0 m x.handlerPc ls [.ref q])) : vx_W p l e R s m args below meth c H locs cells slots Q (F0 m pc ls rest) q := by
  intro T hT X
  have hpl : e.platform.magicAccessors = ({} : Platform).magicAccessors := by rw [X.admits.platform]
  obtain ⟨c3, c4, hc3, hc4, hasg⟩ := Cond.castable_spec hcast
  cases Option.some.inj (hc3.symm.trans hcl)
  obtain ⟨c5, hc5, hcl5⟩ := Cond.classLink_spec hown hlink e.platform hpl
  cases Option.some.inj (hc4.symm.trans hc5)
  obtain ⟨vm', X', st⟩ := X.thenCaughtThrough q (g := F0 m pc ls rest) rfl (Steps.refl _) (by rw [hT]; exact hcell) (by rw [hv]; rfl) (by obtain ⟨k9, h9, -⟩ := Vm.findClass_spec hcl; exact ⟨k9, h9⟩) pre x suf hsplit
    (fun z hz => by
      rcases hpass z hz with h | ⟨hz0, nm, hl1, hn1⟩
      · exact Or.inl h
      · obtain ⟨c6, hc6, hcl6⟩ := Cond.classLink_spec hown hl1 e.platform hpl
        obtain ⟨a8, b8, h1, h2, h3⟩ := hn1
        cases Option.some.inj (h1.symm.trans hcl)
        cases Option.some.inj (h2.symm.trans hc6)
        exact Or.inr ⟨hz0, _, hcl6, h3⟩) hx (Or.inr ⟨h0, c4, hcl5, hasg⟩)
  obtain ⟨t, a1, b1⟩ := kk (T.setVm vm') hT X'
  exact ⟨t, st.trans a1, b1⟩
end Rows
section Ends
variable {p : Program} {l : Launch} {e : Env} {R : Room} {s : State} {m : MethodId} {args : Array Value} {below : List Frame} {meth : Method} {c : Code} {H : Heap} {locs : List Loc} {cells slots : Nat} {Q : State → Prop}
variable {mc ms : Nat} {free : Addr → Prop} {A0 A1 : Nat → Prop} {H0 : Heap} {a : Array Value} {ls : Array Slot} {st0 rest : List Value}
variable {Qc : Array Value → State → Outcome → State → Prop} {XC : String → State → State → Prop}
/-- what a body that may throw owes at its end -/
def vx_MQ (below : List Frame) (Qc : Array Value → State → Outcome → State → Prop) (XC : String → State → State → Prop) (a : Array Value) (s : State) (mc ms : Nat) (free : Addr → Prop) : State → Prop := fun t =>
  ∃ o, t.status = .running ∧ Ended t below o ∧ vx_Q Qc XC mc ms free a s o t
theorem vx_ret {g : JFrame} {mc ms : Nat} (k : W p l e R s m args below meth c H locs cells slots (MQ below Qc args s mc ms free) g) : W p l e R s m args below meth c H locs cells slots (vx_MQ below Qc XC args s mc ms free) g := by
  intro T hT X
  obtain ⟨t, a1, o, b1, b2, b3, b4⟩ := k T hT X
  exact ⟨t, a1, o, b1, b2, Or.inl ⟨b3, b4⟩⟩
/-- not caught here: it goes on to the caller -/
theorem vx_widen {g : JFrame} {q : Addr} {k n : Nat} (h1 : cells ≤ k) (h2 : slots ≤ n) (kk : vx_W p l e R s m args below meth c H locs k n Q g q) : vx_W p l e R s m args below meth c H locs cells slots Q g q := fun T hT X => kk T hT (stand_widen X h1 h2)
theorem vx_out {pc : Nat} {E : String} {ce : Cell} {q : Addr} {mc ms : Nat} (hout : ∀ x ∈ c.exceptionTable.toList, covers x pc = false) (hlocks : meth.locks = false) (hcell : H[q]? = some ce) (hv : ce.vm = .none) (hcl : s.vm.findClass E = some ce.cls)
    (hx : ∀ t : State, t.heap = H → s.vm.Alike t.vm → XC E s t) (hf : ∀ z ∈ locs, free z.base) (hc : cells ≤ mc) (hs : slots ≤ ms) :
    vx_W p l e R s m args below meth c H locs cells slots (vx_MQ below Qc XC args s mc ms free) (F0 m pc ls rest) q := by
  intro T hT X
  obtain ⟨st1, hrun, hend, hW, hsm⟩ := X.leaveThrown q (g := F0 m pc ls rest) rfl rfl rfl hout hlocks
  have hcell9 : (T.setFrames (.throwing q :: below)).heap[q]? = some ce := by
    show T.heap[q]? = some ce
    rw [hT]; exact hcell
  exact ⟨_, st1, .threw q, hrun, hend, Or.inr ⟨q, rfl, E, ce, locs, hx _ hT hW.alike, hcell9, hv, hcl, hW, hsm.mono hc hs, hf⟩⟩
theorem vx_frame {U : State} {k n : Nat} (h : s.sameButNew ({ U with vm := s.vm } : State) locs k n) : s.heap.size ≤ U.heap.size ∧ ∀ q : Nat, q < s.heap.size → (∀ z ∈ locs, z.base ≠ q) → U.heap[q]? = s.heap[q]? := by
  obtain ⟨-, h2, -, -, -, h6⟩ := h
  refine ⟨h2, fun q hq hz => ?_⟩
  obtain ⟨c9, e1, e2, e3, e4⟩ := h6 q _ (Array.getElem?_eq_getElem hq)
  have hs : c9.slots = (s.heap[q]).slots := Array.ext_getElem? fun i => e4 i fun hm => hz _ hm rfl
  have h9 : c9 = s.heap[q] := by
    rw [hs] at e2
    exact e2
  have e5 : U.heap[q]? = some c9 := e1
  rw [e5, h9, Array.getElem?_eq_getElem hq]
/-- the words of a throw but the four that speak of the heap -/
def vx_no (w : Cond) : Bool := decide (w ≠ .isRef (.static Bundle.tN "UNASSIGNED_STACK" Bundle.steD)) && decide (w ≠ .isRef (.static Bundle.tN "SUPPRESSED_SENTINEL" Bundle.listD)) && decide (w ≠ .laysStatic Bundle.tN "UNASSIGNED_STACK" Bundle.steD) && decide (w ≠ .laysStatic Bundle.tN "SUPPRESSED_SENTINEL" Bundle.listD)
def vx_at0 (own : String) (ic : Nat) (X : String) (names : List String) : List Cond := (Bundle.ownAtoms0 own ic X names).filter vx_no
def vx_atS (own : String) (ic : Nat) (X : String) (names : List String) : List Cond := (Bundle.ownAtoms own ic X names).filter vx_no
/-- a word that the tables alone decide, or a good one -/
def vx_ot (w : Cond) : Bool := w.onTables || goodWord w
theorem vx_ot_at {args a' : Array Value} {s U : State} {w : Cond} (hW : s.WarmedH U.vm) (hvm : s.vm = U.vm) (hg : vx_ot w = true) (h : w.before args s = true) : w.before a' U = true := by
  simp only [vx_ot, Bool.or_eq_true] at hg
  rcases hg with hg | hg
  · exact va_tabs hg hvm h
  · exact word_at hW (good_of_word hg) h
/-- a list's words: the good ones out of the method's own list, the others by premises of their own -/
theorem vx_hat {args : Array Value} {s : State} {L B : List Cond} (h1 : ∀ w ∈ L.filter goodWord, w.before args s = true) (h2 : ∀ w ∈ L.filter (fun w => !goodWord w), w ∈ B) (h3 : ∀ w ∈ B, w.before args s = true) : ∀ w ∈ L, w.before args s = true := by
  intro w hw
  by_cases g : goodWord w = true
  · exact h1 w (List.mem_filter.mpr ⟨hw, g⟩)
  · refine h3 w (h2 w (List.mem_filter.mpr ⟨hw, ?_⟩))
    show (!goodWord w) = true
    cases hgw : goodWord w
    · rfl
    · exact absurd hgw g
theorem vx_c {args : Array Value} {s : State} {w : Cond} {B : List Cond} (h : w.before args s = true) (t : ∀ w ∈ B, w.before args s = true) : ∀ w' ∈ w :: B, w'.before args s = true := fun w' h' => (List.mem_cons.mp h').elim (fun e => by rw [e]; exact h) (t w')
theorem vx_n {args : Array Value} {s : State} : ∀ w ∈ ([] : List Cond), w.before args s = true := fun _ h => nomatch h
theorem vx_own {args : Array Value} {s : State} {L : List Cond} (h1 : ∀ w ∈ L.filter vx_no, w.before args s = true)
    (hU : (Cond.isRef (.static Bundle.tN "UNASSIGNED_STACK" Bundle.steD)).before args s = true) (hN : (Cond.isRef (.static Bundle.tN "SUPPRESSED_SENTINEL" Bundle.listD)).before args s = true)
    (lU : (Cond.laysStatic Bundle.tN "UNASSIGNED_STACK" Bundle.steD).before args s = true) (lN : (Cond.laysStatic Bundle.tN "SUPPRESSED_SENTINEL" Bundle.listD).before args s = true) : ∀ w ∈ L, w.before args s = true := by
  intro w hw
  by_cases e1 : w = .isRef (.static Bundle.tN "UNASSIGNED_STACK" Bundle.steD)
  · rw [e1]; exact hU
  · by_cases e2 : w = .isRef (.static Bundle.tN "SUPPRESSED_SENTINEL" Bundle.listD)
    · rw [e2]; exact hN
    · by_cases e3 : w = .laysStatic Bundle.tN "UNASSIGNED_STACK" Bundle.steD
      · rw [e3]; exact lU
      · by_cases e4 : w = .laysStatic Bundle.tN "SUPPRESSED_SENTINEL" Bundle.listD
        · rw [e4]; exact lN
        · exact h1 w (List.mem_filter.mpr ⟨hw, by unfold vx_no; rw [decide_eq_true e1, decide_eq_true e2, decide_eq_true e3, decide_eq_true e4]; rfl⟩)
/-- where a static field lies, its class's statics cell in H -/
def vx_L (C n d : String) (A : Nat → Prop) (U : State) (H : Heap) : Prop := ∃ (c : ClassId) (k : Class) (i : Nat) (f : Field) (a : Nat) (cell : Cell), U.vm.findClass C = some c ∧ U.fieldFound? C n d = some (c, k, i, f) ∧ f.isStatic = true ∧ k.statics = some a ∧ H[a]? = some cell ∧ cell.vm.isStatics = true ∧ cell.cls = c ∧ f.slot < cell.slots.size ∧ k.staticTypes[f.slot]? = some f.type ∧ ¬ A a
theorem vx_L.moved {C n d : String} {A : Nat → Prop} {u U : State} {H : Heap} (hvm : u.vm.Alike U.vm) (h : vx_L C n d A u H) : vx_L C n d A U H := by
  obtain ⟨c, k, i, f, a, cell, h1, h2, h3, h4, h5, h6, h7, h8, h9, h10⟩ := h
  obtain ⟨k', hi', he⟩ := State.fieldFound?_setVm hvm h2
  exact ⟨c, k', i, f, a, cell, by rw [hvm.findClass]; exact h1, hi', h3, by rw [he]; exact h4, h5, h6, h7, h8, by rw [he]; exact h9, h10⟩
theorem vx_L.kept {C n d : String} {A : Nat → Prop} {U : State} {H H1 : Heap} (h : vx_L C n d A U H) (hq : ∀ a : Nat, a < H.size → ¬ A a → H1[a]? = H[a]?) : vx_L C n d A U H1 := by
  obtain ⟨c, k, i, f, a, cell, h1, h2, h3, h4, h5, h6, h7, h8, h9, h10⟩ := h
  exact ⟨c, k, i, f, a, cell, h1, h2, h3, h4, by rw [hq a (Array.getElem?_eq_some_iff.mp h5).1 h10]; exact h5, h6, h7, h8, h9, h10⟩
theorem vx_L.narrow {C n d : String} {A B : Nat → Prop} {U : State} {H : Heap} (h : vx_L C n d A U H) (hAB : ∀ q, B q → A q) : vx_L C n d B U H := by
  obtain ⟨c, k, i, f, a, cell, h1, h2, h3, h4, h5, h6, h7, h8, h9, h10⟩ := h
  exact ⟨c, k, i, f, a, cell, h1, h2, h3, h4, h5, h6, h7, h8, h9, fun z => h10 (hAB _ z)⟩
theorem vx_L.word {C n d : String} {A : Nat → Prop} {s : State} {args : Array Value} (h : vx_L C n d A s s.heap) : (Cond.laysStatic C n d).before args s = true := by
  obtain ⟨c, k, i, f, a, cell, h1, h2, h3, h4, h5, h6, h7, h8, h9, -⟩ := h
  show (Cond.laysStatic C n d).holds args s none s [] = true
  exact Cond.laysStatic_of h1 h2 h3 h4 h5 h6 h7 h8 h9
/-- .. and what it holds: null or some reference -/
def vx_Zq (C n d : String) (A : Nat → Prop) (U : State) (H : Heap) : Prop := va_Zq C n d A U H ∧ vx_L C n d A U H
theorem vx_Zq.moved {C n d : String} {A : Nat → Prop} {u U : State} {H : Heap} (hvm : u.vm.Alike U.vm) (h : vx_Zq C n d A u H) : vx_Zq C n d A U H := ⟨va_Zq.moved hvm h.1, vx_L.moved hvm h.2⟩
theorem vx_Zq.kept {C n d : String} {A : Nat → Prop} {U : State} {H H1 : Heap} (h : vx_Zq C n d A U H) (hq : ∀ a : Nat, a < H.size → ¬ A a → H1[a]? = H[a]?) : vx_Zq C n d A U H1 := ⟨va_Zq.kept h.1 hq, vx_L.kept h.2 hq⟩
theorem vx_Zq.narrow {C n d : String} {A B : Nat → Prop} {U : State} {H : Heap} (h : vx_Zq C n d A U H) (hAB : ∀ q, B q → A q) : vx_Zq C n d B U H := ⟨va_Zq.narrow h.1 hAB, vx_L.narrow h.2 hAB⟩
theorem vx_Zqof {args : Array Value} {s : State} {C n d : String} {A : Nat → Prop} (hl : (Cond.laysStatic C n d).before args s = true) (hini : (Cond.initialized C).before args s = true) (h : (Cond.isRef (.static C n d)).before args s = true) (hA : ∀ a : Nat, a < s.heap.size → ¬ A a) : vx_Zq C n d A s s.heap := by
  refine ⟨va_Zqof hl hini h hA, ?_⟩
  obtain ⟨c, k, i, f, a, cell, h1, h2, h3, h4, h5, h6, h7, h8, h9⟩ := Cond.laysStatic_spec hl
  exact ⟨c, k, i, f, a, cell, h1, h2, h3, h4, h5, h6, h7, h8, h9, hA a (Array.getElem?_eq_some_iff.mp h5).1⟩
theorem vx_isRef {C n d : String} {v : Value} {A : Nat → Prop} {s : State} {args : Array Value} (h : va_Z C n d v A s s.heap) (hv : v.isRef = true) : (Cond.isRef (.static C n d)).before args s = true := by
  obtain ⟨cf, kf, fi, f, a, cell, h1, h2, h3, h4, h5, h6, h7, -⟩ := h
  have he : (Term.static C n d).eval args s none [] s = some v := by
    simp [Term.eval, State.fieldNamed?, h1, h2, h4, h5, h6, h7]
  simp only [Cond.before, Cond.holds, Cond.value, he]
  cases v <;> simp_all [Value.isRef]
theorem vx_isRefq {C n d : String} {A : Nat → Prop} {s : State} {args : Array Value} (h : va_Zq C n d A s s.heap) : (Cond.isRef (.static C n d)).before args s = true := by
  rcases h with h | ⟨t, h⟩
  · exact vx_isRef h rfl
  · exact vx_isRef h rfl
/-- the same frame, seen from here: as if the method were called anew in this heap -/
theorem vx_rebase {T : State} (X : Stand p l e R s m args below meth c T locs cells slots) {R' : Room} (hf : R'.frames ≤ R.frames) (hl : R'.locals ≤ R.locals) (hc : cells + R'.cells ≤ R.cells) (hs : slots + R'.slots ≤ R.slots) :
    Stand p l e R' ((T.setVm s.vm).setFrames (.invoking m args :: below)) m args below meth c T [] 0 0 := by
  have htop : (T.setVm s.vm).topJava?.isSome := X.here.top
  have hF : ((T.setVm s.vm).setFrames (.invoking m args :: below)).frames = .invoking m args :: below := State.frames_setFrames _ (State.cur_lt_of_top htop)
  obtain ⟨g₀, hg0⟩ := Option.isSome_iff_exists.mp htop
  obtain ⟨r, hr⟩ := State.topJava?_eq_some.mp hg0
  have hl9 : e.platform.stackLimits (T.setVm s.vm).me = e.platform.stackLimits s.me := X.limits
  have hb9 : (T.setVm s.vm).me.stackBytes = s.me.stackBytes := X.bytes
  refine ⟨X.admits, X.cas, X.clock, hF, ?_, X.hears, X.method, X.code, X.here, X.tail, X.warmed, ?_, ?_, ?_⟩
  · have h := X.room
    have hU : ((T.setVm s.vm).setFrames (.invoking m args :: below)).localsInUse = s.localsInUse := by
      rw [State.localsInUse_invoking hF (meth := meth) (c := c) X.method X.code, State.localsInUse_invoking X.frames X.method X.code]
    simp only [State.hasRoom, Bool.and_eq_true, decide_eq_true_eq] at h ⊢
    obtain ⟨⟨⟨⟨h1, h2, h3, h4, h5, h6⟩, h7⟩, h8⟩, h9⟩ := h
    rw [X.frames, List.length_cons] at h2 h3
    have q1 := X.heapSize
    have q2 := X.used
    simp only [hF, hU, List.length_cons, State.stackLimits_setFrames, State.stackBytes_setFrames, hl9, hb9]
    refine ⟨⟨⟨⟨by omega, by omega, by omega, by omega, by omega, h6⟩, ?_⟩, ?_⟩, X.book⟩
    · show T.heap.size + R'.cells ≤ e.platform.maxCells
      omega
    · show T.slotsUsed + R'.slots ≤ e.platform.maxSlots
      omega
  · rw [State.stackLimits_setFrames]; rfl
  · rw [State.stackBytes_setFrames]; rfl
  · refine ⟨?_, Nat.le_refl _, Nat.le_refl _, ?_, ?_, fun a c9 h9 => ⟨c9, h9, rfl, rfl, fun _ _ => rfl⟩⟩
    · obtain ⟨t, ht, -⟩ := State.frames_cons hr
      show T.setVm s.vm = { ((T.setVm s.vm).setFrames (.invoking m args :: below)).setFrames (T.setVm s.vm).frames with heap := T.heap, slotsUsed := T.slotsUsed }
      rw [State.setFrames_setFrames, State.setFrames_self ht]
      rfl
    · show T.slotsUsed = T.slotsUsed + ((T.heap.toList.drop T.heap.size).map (·.slots.size)).sum
      rw [List.drop_eq_nil_of_le (Nat.le_of_eq Array.length_toList)]
      rfl
    · show ((T.heap.toList.drop T.heap.size).map (·.slots.size)).sum ≤ 0
      rw [List.drop_eq_nil_of_le (Nat.le_of_eq Array.length_toList)]
      exact Nat.le_refl _
/-- 'throw new E()': new; dup; invokespecial; athrow -/
theorem vx_throw0 {cc : ByteArray} {pc : Nat} (hexec : p.tables.exec = Jvm.exec) (hb : c.code = cc) (hl : l.stackTraces = false) {own cls : String} {names : List String} {ik ic mc ms : Nat} {A : Nat → Prop}
    (hown : s.vm.findClass own = some m.cls) (hcls : Bundle.fit cls = true) (hnames : ∀ n ∈ names, Bundle.fit n = true)
    (hk : (Cond.classLink own ik cls).before args s = true) (hini : (Cond.initialized cls).before args s = true) (hat : ∀ w ∈ vx_at0 own ic cls names, w.before args s = true)
    (hgood : ∀ w ∈ Cond.classLink own ik cls :: Cond.initialized cls :: vx_at0 own ic cls names, vx_ot w = true)
    (hU : vx_Zq Bundle.tN "UNASSIGNED_STACK" Bundle.steD A s s.heap) (hN : vx_Zq Bundle.tN "SUPPRESSED_SENTINEL" Bundle.listD A s s.heap) (hS : va_S A s.heap H locs) (hsize : ls.size = c.maxLocals)
    (d0 : decode cc pc = .ok (.new ik, 3)) (d3 : decode cc (pc + 3) = .ok (.dup, 1)) (d4 : decode cc (pc + 4) = .ok (.invokespecial ic, 3)) (d7 : decode cc (pc + 7) = .ok (.athrow, 1))
    (hout : ∀ x ∈ c.exceptionTable.toList, covers x (pc + 7) = false)
    (hRframes : names.length + 3 < R.frames) (hRlocals : (rest.map fun v => v.category).sum + (13 * (names.length + 1) + 42) ≤ R.locals) (hRcells : cells + 1 ≤ R.cells) (hRslots : slots + 6 ≤ R.slots) (hlocks : meth.locks = false)
    (hx : ∀ t : State, s.vm.Alike t.vm → H.size ≤ t.heap.size → (∀ q : Nat, q < H.size → t.heap[q]? = H[q]?) → XC cls s t)
    (hf : ∀ z ∈ locs, free z.base) (hc : cells + 1 ≤ mc) (hs : slots + 6 ≤ ms) :
    W p l e R s m args below meth c H locs cells slots (vx_MQ below Qc XC args s mc ms free) (F0 m pc ls rest) := by
  intro T hT X
  have htr : e.platform.stackTraces = false := (show e.platform.stackTraces = l.stackTraces by rw [X.admits.platform]).trans hl
  have Y := vx_rebase X (R' := { frames := R.frames, locals := R.locals, cells := 1, slots := 6 }) (Nat.le_refl _) (Nat.le_refl _) hRcells hRslots
  obtain ⟨s', hA⟩ : ∃ z, z = (T.setVm s.vm).setFrames (.invoking m args :: below) := ⟨_, rfl⟩
  rw [← hA] at Y
  have hvm : s'.vm = s.vm := by rw [hA]; rfl
  have hhp : s'.heap = H := by rw [hA]; exact hT
  have hW0 : s.WarmedH s'.vm := by rw [hvm]; exact State.WarmedH.refl s
  have hat' : ∀ w ∈ vx_at0 own ic cls names, w.before args s' = true := fun w hw => vx_ot_at hW0 hvm.symm (hgood w (List.mem_cons_of_mem _ (List.mem_cons_of_mem _ hw))) (hat w hw)
  have hk' : (Cond.classLink own ik cls).before args s' = true := vx_ot_at hW0 hvm.symm (hgood _ List.mem_cons_self) hk
  have hini' : (Cond.initialized cls).before args s' = true := vx_ot_at hW0 hvm.symm (hgood _ (List.mem_cons_of_mem _ List.mem_cons_self)) hini
  have hU' : vx_Zq Bundle.tN "UNASSIGNED_STACK" Bundle.steD A s' s'.heap := by rw [hhp]; exact vx_Zq.moved hW0.alike (hU.kept hS.2.1)
  have hN' : vx_Zq Bundle.tN "SUPPRESSED_SENTINEL" Bundle.listD A s' s'.heap := by rw [hhp]; exact vx_Zq.moved hW0.alike (hN.kept hS.2.1)
  have h : ∀ w ∈ Bundle.ownAtoms0 own ic cls names, w.before args s' = true := vx_own hat' (vx_isRefq hU'.1) (vx_isRefq hN'.1) hU'.2.word hN'.2.word
  have hown' : s'.vm.findClass own = some m.cls := by rw [hvm]; exact hown
  have hins : (Cond.instantiable cls 6).before args s' = true := h _ (by simp [Bundle.ownAtoms0])
  obtain ⟨vm₁, cX, kX, hfX, hkX, -, -, X₁, st1⟩ := Y.newCold hexec (own := own) (C := cls) (index := ik) (n := 6) hown' hk' hins hini'
    (g := F0 m pc ls rest) rfl (by rw [hb]; exact d0) (Nat.le_refl _) (Nat.le_refl _)
  generalize hT1 : (T.setVm vm₁).pushCell { cls := cX, slots := kX.instanceTypes.map defaultValue, vm := .none } = T1 at X₁ st1
  have hcat : (Value.ref T.heap.size).category = 1 := rfl
  have hcellA : T1.heap[T.heap.size]? = some (freshCell cX kX) := by rw [← hT1]; exact State.heap_pushCell_size _ _
  have d3' : decode c.code (pc + 3) = .ok (.dup, 1) := by rw [hb]; exact d3
  obtain ⟨U, hsteps, hrun, hend, hW, hsame, ce, hce, hO⟩ := X₁.ctorThrow0 hexec htr (own := own) (cls := cls) (names := names) (ic := ic) hown' hcls hnames h (fun x hx => nomatch hx) hfX hkX hcellA (by rw [hhp, hT]; exact Nat.le_refl _)
    (g := { method := m, pc := pc + 4, locals := ls, stack := .ref T.heap.size :: .ref T.heap.size :: rest, locked := none }) rfl hsize rfl rfl (rest := rest) rfl
    (by rw [hb]; exact d4) (by rw [hb]; exact d7) hout hRframes (by simp only [List.map_cons, List.sum_cons, hcat]; omega) hlocks
  obtain ⟨f1, f2⟩ := vx_frame hsame
  rw [hhp] at f1 f2
  have hWs : s.WarmedH U.vm := State.WarmedH.trans hW0 hW
  have hcl : s.vm.findClass cls = some ce.cls := by
    have h9 := hO.cls
    rw [hvm] at h9
    exact h9
  have hall : s.sameButNew ({ U with vm := s.vm } : State) locs mc ms := by
    subst hA
    obtain ⟨e1, e2⟩ := hsame
    rw [State.setFrames_setFrames] at e1
    have h2 : (T.setVm s.vm).sameButNew ({ U with vm := s.vm } : State) [] (0 + 1) (0 + 6) := ⟨e1, e2⟩
    have h3 := X.same.trans h2
    rw [List.append_nil] at h3
    exact h3.mono hc hs
  refine ⟨U, ?_, .threw T.heap.size, hrun, hend, Or.inr ⟨T.heap.size, rfl, cls, ce, locs, hx U hWs.alike f1 (fun q hq => f2 q hq (fun z hz => nomatch hz)), hce, hO.vm, hcl, hWs, hall, hf⟩⟩
  refine st1 _ ?_
  show Steps p.tables e below (T1.setTop { method := m, pc := pc + 3, locals := ls, stack := .ref T.heap.size :: rest, locked := none }) _
  jvm_step X₁.here [X₁.here.top, hexec, d3', Value.category]
  exact hsteps
/-- 'throw new E("text")': new; dup; ldc; invokespecial; athrow -/
theorem vx_throwS {cc : ByteArray} {pc : Nat} (hexec : p.tables.exec = Jvm.exec) (hb : c.code = cc) (hl : l.stackTraces = false) {own cls text : String} {names : List String} {ik is ic mc ms sa : Nat} {A : Nat → Prop}
    (hown : s.vm.findClass own = some m.cls) (hcls : Bundle.fit cls = true) (hnames : ∀ n ∈ names, Bundle.fit n = true)
    (hk : (Cond.classLink own ik cls).before args s = true) (hini : (Cond.initialized cls).before args s = true) (hstr : vk_R own is text sa s) (hat : ∀ w ∈ vx_atS own ic cls names, w.before args s = true)
    (hgood : ∀ w ∈ Cond.classLink own ik cls :: Cond.initialized cls :: vx_atS own ic cls names, vx_ot w = true)
    (hU : vx_Zq Bundle.tN "UNASSIGNED_STACK" Bundle.steD A s s.heap) (hN : vx_Zq Bundle.tN "SUPPRESSED_SENTINEL" Bundle.listD A s s.heap) (hS : va_S A s.heap H locs) (hsize : ls.size = c.maxLocals)
    (d0 : decode cc pc = .ok (.new ik, 3)) (d3 : decode cc (pc + 3) = .ok (.dup, 1)) (d4 : decode cc (pc + 4) = .ok (.ldc is, 2)) (d6 : decode cc (pc + 6) = .ok (.invokespecial ic, 3)) (d9 : decode cc (pc + 9) = .ok (.athrow, 1))
    (hout : ∀ x ∈ c.exceptionTable.toList, covers x (pc + 9) = false)
    (hRframes : names.length + 3 < R.frames) (hRlocals : (rest.map fun v => v.category).sum + (13 * (names.length + 1) + 43) ≤ R.locals) (hRcells : cells + 1 ≤ R.cells) (hRslots : slots + 6 ≤ R.slots) (hlocks : meth.locks = false)
    (hx : ∀ t : State, s.vm.Alike t.vm → H.size ≤ t.heap.size → (∀ q : Nat, q < H.size → t.heap[q]? = H[q]?) → XC cls s t)
    (hf : ∀ z ∈ locs, free z.base) (hc : cells + 1 ≤ mc) (hs : slots + 6 ≤ ms) :
    W p l e R s m args below meth c H locs cells slots (vx_MQ below Qc XC args s mc ms free) (F0 m pc ls rest) := by
  intro T hT X
  have htr : e.platform.stackTraces = false := (show e.platform.stackTraces = l.stackTraces by rw [X.admits.platform]).trans hl
  have Y := vx_rebase X (R' := { frames := R.frames, locals := R.locals, cells := 1, slots := 6 }) (Nat.le_refl _) (Nat.le_refl _) hRcells hRslots
  obtain ⟨s', hA⟩ : ∃ z, z = (T.setVm s.vm).setFrames (.invoking m args :: below) := ⟨_, rfl⟩
  rw [← hA] at Y
  have hvm : s'.vm = s.vm := by rw [hA]; rfl
  have hhp : s'.heap = H := by rw [hA]; exact hT
  have hW0 : s.WarmedH s'.vm := by rw [hvm]; exact State.WarmedH.refl s
  have hat' : ∀ w ∈ vx_atS own ic cls names, w.before args s' = true := fun w hw => vx_ot_at hW0 hvm.symm (hgood w (List.mem_cons_of_mem _ (List.mem_cons_of_mem _ hw))) (hat w hw)
  have hk' : (Cond.classLink own ik cls).before args s' = true := vx_ot_at hW0 hvm.symm (hgood _ List.mem_cons_self) hk
  have hini' : (Cond.initialized cls).before args s' = true := vx_ot_at hW0 hvm.symm (hgood _ (List.mem_cons_of_mem _ List.mem_cons_self)) hini
  have hU' : vx_Zq Bundle.tN "UNASSIGNED_STACK" Bundle.steD A s' s'.heap := by rw [hhp]; exact vx_Zq.moved hW0.alike (hU.kept hS.2.1)
  have hN' : vx_Zq Bundle.tN "SUPPRESSED_SENTINEL" Bundle.listD A s' s'.heap := by rw [hhp]; exact vx_Zq.moved hW0.alike (hN.kept hS.2.1)
  have h : ∀ w ∈ Bundle.ownAtoms own ic cls names, w.before args s' = true := vx_own hat' (vx_isRefq hU'.1) (vx_isRefq hN'.1) hU'.2.word hN'.2.word
  have hown' : s'.vm.findClass own = some m.cls := by rw [hvm]; exact hown
  have hins : (Cond.instantiable cls 6).before args s' = true := h _ (by simp [Bundle.ownAtoms])
  obtain ⟨vm₁, cX, kX, hfX, hkX, -, -, X₁, st1⟩ := Y.newCold hexec (own := own) (C := cls) (index := ik) (n := 6) hown' hk' hins hini'
    (g := F0 m pc ls rest) rfl (by rw [hb]; exact d0) (Nat.le_refl _) (Nat.le_refl _)
  generalize hT1 : (T.setVm vm₁).pushCell { cls := cX, slots := kX.instanceTypes.map defaultValue, vm := .none } = T1 at X₁ st1
  have hcat : (Value.ref T.heap.size).category = 1 := rfl
  have hcellA : T1.heap[T.heap.size]? = some (freshCell cX kX) := by rw [← hT1]; exact State.heap_pushCell_size _ _
  have d3' : decode c.code (pc + 3) = .ok (.dup, 1) := by rw [hb]; exact d3
  have d4' : decode c.code (pc + 4) = .ok (.ldc is, 2) := by rw [hb]; exact d4
  have hstr' : vk_R own is text sa s' := vk_R.warm hW0 hstr
  obtain ⟨U, hsteps, hrun, hend, hW, hsame, ce, hce, hO⟩ := X₁.ctorThrowS hexec htr (own := own) (cls := cls) (names := names) (ic := ic) hown' hcls hnames h (fun x hx => nomatch hx) hfX hkX hcellA (by rw [hhp, hT]; exact Nat.le_refl _) (msg := .ref sa) rfl
    (g := { method := m, pc := pc + 6, locals := ls, stack := .ref sa :: .ref T.heap.size :: .ref T.heap.size :: rest, locked := none }) rfl hsize rfl rfl (rest := rest) rfl
    (by rw [hb]; exact d6) (by rw [hb]; exact d9) hout hRframes (by simp only [List.map_cons, List.sum_cons, hcat]; omega) hlocks
  obtain ⟨f1, f2⟩ := vx_frame hsame
  rw [hhp] at f1 f2
  have hWs : s.WarmedH U.vm := State.WarmedH.trans hW0 hW
  have hcl : s.vm.findClass cls = some ce.cls := by
    have h9 := hO.cls
    rw [hvm] at h9
    exact h9
  have hall : s.sameButNew ({ U with vm := s.vm } : State) locs mc ms := by
    subst hA
    obtain ⟨e1, e2⟩ := hsame
    rw [State.setFrames_setFrames] at e1
    have h2 : (T.setVm s.vm).sameButNew ({ U with vm := s.vm } : State) [] (0 + 1) (0 + 6) := ⟨e1, e2⟩
    have h3 := X.same.trans h2
    rw [List.append_nil] at h3
    exact h3.mono hc hs
  refine ⟨U, ?_, .threw T.heap.size, hrun, hend, Or.inr ⟨T.heap.size, rfl, cls, ce, locs, hx U hWs.alike f1 (fun q hq => f2 q hq (fun z hz => nomatch hz)), hce, hO.vm, hcl, hWs, hall, hf⟩⟩
  refine st1 _ ?_
  show Steps p.tables e below (T1.setTop { method := m, pc := pc + 3, locals := ls, stack := .ref T.heap.size :: rest, locked := none }) _
  jvm_step X₁.here [X₁.here.top, hexec, d3', Value.category]
  exact X₁.ldcString hexec (own := own) (text := text) (index := is) (a := sa) hown' hstr'.1 hstr'.2
    (g := { method := m, pc := pc + 4, locals := ls, stack := .ref T.heap.size :: .ref T.heap.size :: rest, locked := none }) rfl d4' _ hsteps
/-- 'throw new E("text")', the text by a wide index -/
theorem vx_throwSW {cc : ByteArray} {pc : Nat} (hexec : p.tables.exec = Jvm.exec) (hb : c.code = cc) (hl : l.stackTraces = false) {own cls text : String} {names : List String} {ik is ic mc ms sa : Nat} {A : Nat → Prop}
    (hown : s.vm.findClass own = some m.cls) (hcls : Bundle.fit cls = true) (hnames : ∀ n ∈ names, Bundle.fit n = true)
    (hk : (Cond.classLink own ik cls).before args s = true) (hini : (Cond.initialized cls).before args s = true) (hstr : vk_R own is text sa s) (hat : ∀ w ∈ vx_atS own ic cls names, w.before args s = true)
    (hgood : ∀ w ∈ Cond.classLink own ik cls :: Cond.initialized cls :: vx_atS own ic cls names, vx_ot w = true)
    (hU : vx_Zq Bundle.tN "UNASSIGNED_STACK" Bundle.steD A s s.heap) (hN : vx_Zq Bundle.tN "SUPPRESSED_SENTINEL" Bundle.listD A s s.heap) (hS : va_S A s.heap H locs) (hsize : ls.size = c.maxLocals)
    (d0 : decode cc pc = .ok (.new ik, 3)) (d3 : decode cc (pc + 3) = .ok (.dup, 1)) (d4 : decode cc (pc + 4) = .ok (.ldc_w is, 3)) (d7 : decode cc (pc + 7) = .ok (.invokespecial ic, 3)) (d10 : decode cc (pc + 10) = .ok (.athrow, 1))
    (hout : ∀ x ∈ c.exceptionTable.toList, covers x (pc + 10) = false)
    (hRframes : names.length + 3 < R.frames) (hRlocals : (rest.map fun v => v.category).sum + (13 * (names.length + 1) + 43) ≤ R.locals) (hRcells : cells + 1 ≤ R.cells) (hRslots : slots + 6 ≤ R.slots) (hlocks : meth.locks = false)
    (hx : ∀ t : State, s.vm.Alike t.vm → H.size ≤ t.heap.size → (∀ q : Nat, q < H.size → t.heap[q]? = H[q]?) → XC cls s t)
    (hf : ∀ z ∈ locs, free z.base) (hc : cells + 1 ≤ mc) (hs : slots + 6 ≤ ms) :
    W p l e R s m args below meth c H locs cells slots (vx_MQ below Qc XC args s mc ms free) (F0 m pc ls rest) := by
  intro T hT X
  have htr : e.platform.stackTraces = false := (show e.platform.stackTraces = l.stackTraces by rw [X.admits.platform]).trans hl
  have Y := vx_rebase X (R' := { frames := R.frames, locals := R.locals, cells := 1, slots := 6 }) (Nat.le_refl _) (Nat.le_refl _) hRcells hRslots
  obtain ⟨s', hA⟩ : ∃ z, z = (T.setVm s.vm).setFrames (.invoking m args :: below) := ⟨_, rfl⟩
  rw [← hA] at Y
  have hvm : s'.vm = s.vm := by rw [hA]; rfl
  have hhp : s'.heap = H := by rw [hA]; exact hT
  have hW0 : s.WarmedH s'.vm := by rw [hvm]; exact State.WarmedH.refl s
  have hat' : ∀ w ∈ vx_atS own ic cls names, w.before args s' = true := fun w hw => vx_ot_at hW0 hvm.symm (hgood w (List.mem_cons_of_mem _ (List.mem_cons_of_mem _ hw))) (hat w hw)
  have hk' : (Cond.classLink own ik cls).before args s' = true := vx_ot_at hW0 hvm.symm (hgood _ List.mem_cons_self) hk
  have hini' : (Cond.initialized cls).before args s' = true := vx_ot_at hW0 hvm.symm (hgood _ (List.mem_cons_of_mem _ List.mem_cons_self)) hini
  have hU' : vx_Zq Bundle.tN "UNASSIGNED_STACK" Bundle.steD A s' s'.heap := by rw [hhp]; exact vx_Zq.moved hW0.alike (hU.kept hS.2.1)
  have hN' : vx_Zq Bundle.tN "SUPPRESSED_SENTINEL" Bundle.listD A s' s'.heap := by rw [hhp]; exact vx_Zq.moved hW0.alike (hN.kept hS.2.1)
  have h : ∀ w ∈ Bundle.ownAtoms own ic cls names, w.before args s' = true := vx_own hat' (vx_isRefq hU'.1) (vx_isRefq hN'.1) hU'.2.word hN'.2.word
  have hown' : s'.vm.findClass own = some m.cls := by rw [hvm]; exact hown
  have hins : (Cond.instantiable cls 6).before args s' = true := h _ (by simp [Bundle.ownAtoms])
  obtain ⟨vm₁, cX, kX, hfX, hkX, -, -, X₁, st1⟩ := Y.newCold hexec (own := own) (C := cls) (index := ik) (n := 6) hown' hk' hins hini'
    (g := F0 m pc ls rest) rfl (by rw [hb]; exact d0) (Nat.le_refl _) (Nat.le_refl _)
  generalize hT1 : (T.setVm vm₁).pushCell { cls := cX, slots := kX.instanceTypes.map defaultValue, vm := .none } = T1 at X₁ st1
  have hcat : (Value.ref T.heap.size).category = 1 := rfl
  have hcellA : T1.heap[T.heap.size]? = some (freshCell cX kX) := by rw [← hT1]; exact State.heap_pushCell_size _ _
  have d3' : decode c.code (pc + 3) = .ok (.dup, 1) := by rw [hb]; exact d3
  have d4' : decode c.code (pc + 4) = .ok (.ldc_w is, 3) := by rw [hb]; exact d4
  have hstr' : vk_R own is text sa s' := vk_R.warm hW0 hstr
  obtain ⟨U, hsteps, hrun, hend, hW, hsame, ce, hce, hO⟩ := X₁.ctorThrowS hexec htr (own := own) (cls := cls) (names := names) (ic := ic) hown' hcls hnames h (fun x hx => nomatch hx) hfX hkX hcellA (by rw [hhp, hT]; exact Nat.le_refl _) (msg := .ref sa) rfl
    (g := { method := m, pc := pc + 7, locals := ls, stack := .ref sa :: .ref T.heap.size :: .ref T.heap.size :: rest, locked := none }) rfl hsize rfl rfl (rest := rest) rfl
    (by rw [hb]; exact d7) (by rw [hb]; exact d10) hout hRframes (by simp only [List.map_cons, List.sum_cons, hcat]; omega) hlocks
  obtain ⟨f1, f2⟩ := vx_frame hsame
  rw [hhp] at f1 f2
  have hWs : s.WarmedH U.vm := State.WarmedH.trans hW0 hW
  have hcl : s.vm.findClass cls = some ce.cls := by
    have h9 := hO.cls
    rw [hvm] at h9
    exact h9
  have hall : s.sameButNew ({ U with vm := s.vm } : State) locs mc ms := by
    subst hA
    obtain ⟨e1, e2⟩ := hsame
    rw [State.setFrames_setFrames] at e1
    have h2 : (T.setVm s.vm).sameButNew ({ U with vm := s.vm } : State) [] (0 + 1) (0 + 6) := ⟨e1, e2⟩
    have h3 := X.same.trans h2
    rw [List.append_nil] at h3
    exact h3.mono hc hs
  refine ⟨U, ?_, .threw T.heap.size, hrun, hend, Or.inr ⟨T.heap.size, rfl, cls, ce, locs, hx U hWs.alike f1 (fun q hq => f2 q hq (fun z hz => nomatch hz)), hce, hO.vm, hcl, hWs, hall, hf⟩⟩
  refine st1 _ ?_
  show Steps p.tables e below (T1.setTop { method := m, pc := pc + 3, locals := ls, stack := .ref T.heap.size :: rest, locked := none }) _
  jvm_step X₁.here [X₁.here.top, hexec, d3', Value.category]
  exact X₁.ldcStringW hexec (own := own) (text := text) (index := is) (a := sa) hown' hstr'.1 hstr'.2
    (g := { method := m, pc := pc + 4, locals := ls, stack := .ref T.heap.size :: .ref T.heap.size :: rest, locked := none }) rfl d4' _ hsteps
end Ends
section Bodies
variable {l : Launch}
theorem vx_ofW {y : MethodName} {ws ws' : List Cond} {rm : Room} {Pc : Array Value → State → Prop} {Qc : Array Value → State → Outcome → State → Prop} {XC : String → State → State → Prop} {mc ms : Nat} {free : Addr → Prop} {cc : ByteArray} {maxL : Nat} {ret : Option FieldType}
    (hy : plainName y.cls = true) (hw : ws = Cond.code y cc maxL ret :: ws')
    (body : ∀ p e s m args below meth c s₁, BodyLoose p l y (headSpec ws rm) cc maxL ret e s m args below meth c s₁ → c.maxLocals = maxL → (∀ x ∈ c.exceptionTable.toList, False) → Pc args s →
      W p l e (headSpec ws rm).room s m args below meth c s.heap [] 0 0 (vx_MQ below Qc XC args s mc ms free) (entryFrame m args maxL)) : vx_Met l y ws rm Pc Qc XC mc ms free := by
  refine MetFree.of_bodyS (code := cc) (maxLocals := maxL) (ret := ret) hy ?_ ?_
  · intro args s m h hn
    obtain ⟨meth, c, h1, h2, h3, h4, h5, h6, -, -⟩ := Cond.code_spec hn (atoms_spec (ws := ws) h _ (by rw [hw]; exact List.mem_cons_self))
    exact ⟨meth, c, h1, h2, h3, h4, h5, h6⟩
  · intro p e s m args below meth c s₁ B hml hP _
    have hh0 : s₁.heap = s.heap := by rw [B.state]; rfl
    have ht : ∀ x ∈ c.exceptionTable.toList, False := by
      obtain ⟨meth9, c9, h1, h2, -, -, -, -, h7, -⟩ := Cond.code_spec B.named (atoms_spec (ws := ws) B.pre _ (by rw [hw]; exact List.mem_cons_self))
      cases Option.some.inj (h1.symm.trans B.method)
      cases Option.some.inj (h2.symm.trans (Stand.of_body B).code)
      intro x hx
      rw [Array.isEmpty_iff.mp h7] at hx
      cases hx
    obtain ⟨t, a1, o, b1, b2, b3⟩ := body p e s m args below meth c s₁ B hml ht hP s₁ hh0 (Stand.of_body B)
    exact ⟨t, o, a1, b1, b2, b3⟩
/-- the table of a body with handlers -/
theorem vx_table {p : Program} {x y : MethodName} {S : Spec} {cc bytes : ByteArray} {maxL maxL' : Nat} {ret ret' : Option FieldType} {e : Env} {s s₁ : State} {m : MethodId} {args : Array Value} {below : List Frame} {meth : Method} {c : Code} {hh : List (Nat × Nat × Nat × Nat)}
    (B : BodyLoose p l y S cc maxL ret e s m args below meth c s₁) (h : (Cond.codeWith y bytes maxL' ret' hh).before args s = true) : c.exceptionTable.toList = tableOf hh := by
  obtain ⟨m9, meth9, c9, hn9, h1, h2, -, -, h6, -⟩ := Cond.codeWith_spec h
  cases Option.some.inj (hn9.symm.trans B.named)
  cases Option.some.inj (h1.symm.trans B.method)
  cases Option.some.inj (h2.symm.trans (Stand.of_body B).code)
  rw [← h6, table_eq]
end Bodies
end VXA
/-! ===== END ===== -/
/-! ===== BEGIN a static call of a method with an exception table ===== -/
section VXS
variable {p : Program} {l : Launch} {e : Env} {R : Room} {s : State} {m : MethodId} {args : Array Value} {below : List Frame} {meth : Method} {c : Code} {T : State} {H : Heap} {locs : List Loc} {cells slots : Nat}
abbrev vx_CSW (R : Room) (s : State) (args : Array Value) (own : String) (index : Nat) (y : MethodName) (bytes : ByteArray) (maxL : Nat) (ret : Option FieldType) (hh : List (Nat × Nat × Nat × Nat)) (ws : List Cond) (rm : Room) (mc ms n : Nat) : Prop :=
  (rm.cells = mc ∧ rm.slots = ms ∧ rm.frames + 1 ≤ R.frames ∧ 8 + (maxL + 11) + rm.locals ≤ R.locals ∧ (∀ w ∈ ws, ∀ (a' : Array Value) (U : State), s.WarmedH U.vm → w.before a' U = true) ∧ Cond.codeWith y bytes maxL ret hh ∈ ws) ∧
  (Cond.codeWith y bytes maxL ret hh).before args s = true ∧ (Cond.initialized y.cls).before args s = true ∧ (y.cls ≠ "java/lang/invoke/MethodHandle" ∧ y.cls ≠ "java/lang/invoke/VarHandle") ∧
  (∀ sig, parseMethodDescriptor y.desc = some sig → n = sig.parameters.length) ∧ (Cond.methodLink own index y).before args s = true ∧ (Cond.static y).before args s = true
theorem vx_cwSW {own : String} {index maxL mc ms : Nat} {y : MethodName} {bytes : ByteArray} {ret : Option FieldType} {hh : List (Nat × Nat × Nat × Nat)} {Ts ws ws' : List Cond} {rm : Room} (n : Nat) (ht : ∀ w ∈ Ts, w.before args s = true) (hT : GoodIn Ts (va_wsS own index y ws)) (hw : ws = Cond.codeWith y bytes maxL ret hh :: ws') (hrc : rm.cells = mc) (hrs : rm.slots = ms)
    (hd : y.cls ≠ "java/lang/invoke/MethodHandle" ∧ y.cls ≠ "java/lang/invoke/VarHandle" ∧ (parseMethodDescriptor y.desc).map (fun d => d.parameters.length) = some n) (hR : rm.frames + 1 ≤ R.frames ∧ 8 + (maxL + 11) + rm.locals ≤ R.locals) :
    vx_CSW R s args own index y bytes maxL ret hh ws rm mc ms n := by
  have ok : ∀ w ∈ va_wsS own index y ws, w.before args s = true := fun w h => ht w (hT w h).1
  have hG : GoodIn Ts ws := fun w h => hT w (by unfold va_wsS; exact List.mem_append_right _ h)
  have hc : Cond.codeWith y bytes maxL ret hh ∈ ws := by rw [hw]; exact List.mem_cons_self
  refine ⟨⟨hrc, hrs, hR.1, hR.2, pay_in ht hG, hc⟩, ht _ (hG _ hc).1, ok _ (by simp [va_wsS]), ⟨hd.1, hd.2.1⟩, fun sig h => ?_, ok _ (by simp [va_wsS]), ok _ (by simp [va_wsS])⟩
  have h2 := hd.2.2
  rw [h] at h2
  exact (Option.some.inj h2).symm
theorem vx_callSW (X : Stand p l e R s m args below meth c T locs cells slots) (hexec : p.tables.exec = Jvm.exec) {own : String} {index : Nat} {y : MethodName} {bytes : ByteArray} {maxL : Nat} {ret : Option FieldType} {hh : List (Nat × Nat × Nat × Nat)}
    (hown : s.vm.findClass own = some m.cls) (hlink : (Cond.methodLink own index y).before args s = true) (hstat : (Cond.static y).before args s = true) (hinit : (Cond.initialized y.cls).before args s = true)
    (hcode : (Cond.codeWith y bytes maxL ret hh).before args s = true) (hy : y.cls ≠ "java/lang/invoke/MethodHandle" ∧ y.cls ≠ "java/lang/invoke/VarHandle")
    {W9 : Nat} {Pre : Pt → Array Value → Prop} {Post : Pt → Array Value → Option Value → Pt → Prop} (hK : Back l R p e below s args y 3 W9 Pre Post)
    {g : JFrame} (hg : g.method = m) (hsize : g.locals.size = c.maxLocals) {argsL rest : List Value} (hlen : ∀ sig, parseMethodDescriptor y.desc = some sig → argsL.length = sig.parameters.length)
    (hstack : g.stack = argsL.reverse ++ rest) (hW : 2 * g.monitorRoom + (rest.map fun v => v.category).sum ≤ W9) (hdg : decode c.code g.pc = .ok (.invokestatic index, 3))
    (hpre : ∀ vm₁, s.WarmedH vm₁ → Pre ⟨T.setVm vm₁, locs, cells, slots⟩ argsL.toArray) :
    ∃ (v : Option Value) (vm₁ : Vm) (B : Pt), s.WarmedH vm₁ ∧ Stand p l e R s m args below meth c B.U B.locs B.cells B.slots ∧ Post ⟨T.setVm vm₁, locs, cells, slots⟩ argsL.toArray v B ∧
      ∀ target, Steps p.tables e below (B.U.setTop { g with pc := g.pc + 3, stack := v.toList ++ rest }) target → Steps p.tables e below (T.setTop g) target := by
  obtain ⟨mk, methM, cM, hnamed, hmethM, -, -, -, -, -, -, hsigM⟩ := Cond.codeWith_spec hcode
  have hstatic : methM.isStatic = true := Cond.static_spec hnamed hmethM hstat
  obtain ⟨kP, hkP, -⟩ := className_of_methodNamed hnamed
  have hinitP : kP.init = .initialized := Cond.initialized_spec (findClass_of_methodNamed hnamed) hkP hinit
  obtain ⟨vm₁, X₁, hstep₁⟩ := X.invokestatic hexec hown hlink hnamed hmethM hstatic hkP hinitP hy (g := g) hg (argsL := argsL) (rest := rest) (hlen _ hsigM) hstack hdg
  obtain ⟨v, B, X', hpost, hsteps⟩ := hK m meth c ⟨T.setVm vm₁, locs, cells, slots⟩ { g with stack := rest } (.invokestatic index) mk argsL.toArray X₁ hg hsize hdg hW (X₁.named hnamed) (hpre vm₁ X₁.warmed)
  exact ⟨v, vm₁, B, X₁.warmed, X', hpost, fun target h => hstep₁ _ fun acts => by rw [doInvoke_state]; exact hsteps.trans h⟩
theorem vx_runSW {y : MethodName} {bytes cc : ByteArray} {maxL nL mc ms n index : Nat} {ret : Option FieldType} {hh : List (Nat × Nat × Nat × Nat)} {ws : List Cond} {rm : Room} {Pc : Array Value → State → Prop} {Qc : Array Value → State → Outcome → State → Prop} {free : Addr → Prop} {Ts : List Cond} {own : String} {As rest : List Value} {g : JFrame}
    (S : CallFix p m c cc nL s args Ts own) (hM : Met l y ws rm Pc Qc mc ms free) (cw : vx_CSW R s args own index y bytes maxL ret hh ws rm mc ms n) (hp : PreS s H Pc As)
    (hg : g.method = m) (hn : As.length = n) (hsize : g.locals.size = nL) (hstack : g.stack = As.reverse ++ rest) (hW : 2 * g.monitorRoom + (rest.map fun v => v.category).sum ≤ 8) (hdg : decode cc g.pc = .ok (.invokestatic index, 3)) (hf : cells + mc ≤ R.cells ∧ slots + ms ≤ R.slots) :
    va_Run p l e R s m args below meth c H locs cells slots mc ms g rest (Qc As.toArray) (free) := by
  obtain ⟨⟨hrc, hrs, hfr, hlo, hws, hcw⟩, hcode, hini, hy, hlen, hl, hstt⟩ := cw
  have hK : Back l R p e below s args y 3 8 (PreOf R mc ms Pc) (PostOf Qc mc ms free) := va_backW (hh := hh) (bytes := bytes) (maxL := maxL) (ret := ret) hM hp.1 hrc hrs hfr hlo hws hcw (fun a' U hW => word_at hW (Or.inl (by first | rfl | simp [Cond.onTables, Cond.keeps, Cond.steady])) hini)
  obtain ⟨hx, hb, hml, ho, -⟩ := S
  intro T hT X
  obtain ⟨v, vm₁, ⟨U', l2, c2, s2⟩, hW₁, X', ⟨g', mk, t, L, e1, e2, hq, h1, hL, h2, h3⟩, st⟩ := vx_callSW X hx (hh := hh) (bytes := bytes) (maxL := maxL) (ret := ret) ho hl hstt hini hcode hy hK hg (hsize.trans hml.symm) (argsL := As) (rest := rest) (fun sig h => hn.trans (hlen sig h)) hstack hW (by rw [hb]; exact hdg)
    (fun vm₁ hW₁ => ⟨hf.1, hf.2, hp.2 (T.setVm vm₁) hT hW₁⟩)
  dsimp only [Pt.U, Pt.locs, Pt.cells, Pt.slots] at X' e1 e2 h1 h2 h3 st
  subst h1; subst h2; subst h3
  exact ⟨v, (T.setVm vm₁).calling g' mk As.toArray, t, U', L, hT, X', hL, e1, e2, hq, st⟩
/-- not caught here, past rows that name other classes: it goes on to the caller -/
theorem vx_outP {p : Program} {l : Launch} {e : Env} {R : Room} {s : State} {m : MethodId} {args : Array Value} {below : List Frame} {meth : Method} {c : Code} {H : Heap} {locs : List Loc} {cells slots : Nat} {free : Addr → Prop} {ls : Array Slot} {rest : List Value} {Qc : Array Value → State → Outcome → State → Prop} {XC : String → State → State → Prop}
    {pc : Nat} {own E : String} {ce : Cell} {q : Addr} {mc ms : Nat} (hown : s.vm.findClass own = some m.cls) (hlocks : meth.locks = false)
    (hpass : ∀ z ∈ c.exceptionTable.toList, covers z pc = false ∨ (z.catchType ≠ 0 ∧ ∃ nm : String, (Cond.classLink own z.catchType nm).before args s = true ∧ va_Nc E nm s)) (hcell : H[q]? = some ce) (hv : ce.vm = .none) (hcl : s.vm.findClass E = some ce.cls)
    (hx : ∀ t : State, t.heap = H → s.vm.Alike t.vm → XC E s t) (hf : ∀ z ∈ locs, free z.base) (hc : cells ≤ mc) (hs : slots ≤ ms) :
    vx_W p l e R s m args below meth c H locs cells slots (vx_MQ below Qc XC args s mc ms free) (F0 m pc ls rest) q := by
  intro T hT X
  have hpl : e.platform.magicAccessors = ({} : Platform).magicAccessors := by rw [X.admits.platform]
  obtain ⟨vm', hW', X', st⟩ := X.outThrough hlocks q (g := F0 m pc ls rest) rfl rfl rfl (cell := ce) (by rw [hT]; exact hcell) (by rw [hv]; rfl)
    (by obtain ⟨k9, h9, -⟩ := Vm.findClass_spec hcl; exact ⟨k9, h9⟩) (fun z hz => by
      rcases hpass z hz with h | ⟨hz0, nm, hl1, hn1⟩
      · exact Or.inl h
      · obtain ⟨c6, hc6, hcl6⟩ := Cond.classLink_spec hown hl1 e.platform hpl
        obtain ⟨a8, b8, h1, h2, h3⟩ := hn1
        cases Option.some.inj (h1.symm.trans hcl)
        cases Option.some.inj (h2.symm.trans hc6)
        exact Or.inr ⟨hz0, _, hcl6, h3⟩)
  obtain ⟨g₀, hfr⟩ := X'.frames_eq
  have hcell9 : ((T.setVm vm').setFrames (.throwing q :: below)).heap[q]? = some ce := by
    show T.heap[q]? = some ce
    rw [hT]; exact hcell
  have hend : Ended ((T.setVm vm').setFrames (.throwing q :: below)) below (.threw q) := State.frames_setFrames _ (State.cur_lt_of_frames hfr)
  refine ⟨(T.setVm vm').setFrames (.throwing q :: below), ?_, .threw q, X'.here.running, hend, Or.inr ⟨q, rfl, E, ce, locs, hx _ hT (X'.ends _).1.alike, hcell9, hv, hcl, (X'.ends _).1, (X'.ends _).2.mono hc hs, hf⟩⟩
  rw [X.pushThrowing_eq]
  exact st
/-- a thing of a world lies in the heap -/
theorem vx_lt {D : va_G} {cl : List vw_C} {ws : va_W} {H1 : Heap} (h : va_P D cl ws H1) {k : Nat} {q : Nat × va_E} (hk : ws[k]? = some q) : q.1 < H1.size := (h k q hk).lt
end VXS
/-! ===== END ===== -/
/-! ===== BEGIN methods with a table of their own: called by a name, returning or throwing ===== -/
section VXH
/-! vx_backW, vx_callVX, vx_callSX, vx_callVW, vx_runVW, vx_runVX, vx_runSX, vx_ofWH follow the same proofs as their sisters above (Free/Laws.lean, Shelf42/LK1.lean); vx_outP calls Shelf42/NT130.lean (outThrough). -/
section
variable {l : Launch} {R : Room} {p : Program} {e : Env} {below : List Frame} {s : State} {sargs : Array Value} {y : MethodName} {len W9 : Nat}
theorem vx_backW {ws : List Cond} {rm : Room} {Pc : Array Value → State → Prop} {Qc : Array Value → State → Outcome → State → Prop} {XC : String → State → State → Prop} {mc ms : Nat} {free : Addr → Prop} {bytes : ByteArray} {maxL : Nat} {ret : Option FieldType} {hh : List (Nat × Nat × Nat × Nat)}
    (hM : vx_Met l y ws rm Pc Qc XC mc ms free) (hblind : FrameBlind Pc) (hrc : rm.cells = mc) (hrs : rm.slots = ms)
    (hframes : rm.frames + 1 ≤ R.frames) (hlocals : W9 + (maxL + 11) + rm.locals ≤ R.locals)
    (hws : ∀ w ∈ ws, ∀ a' U, s.WarmedH U.vm → w.before a' U = true) (hcode : Cond.codeWith y bytes maxL ret hh ∈ ws) (hinit : ∀ a' U, s.WarmedH U.vm → (Cond.initialized y.cls).before a' U = true) :
    vx_Back l R p e below s sargs y len W9 (PreOf R mc ms Pc) (PostOf Qc mc ms free) (vx_Post XC mc ms free) := by
  intro m meth c A g ig mk a X hg hsize hdg hW hn hp
  have h1 : (headSpec ws rm).pre.before a A.U = true := atoms_intro fun w hw => hws w hw _ _ X.warmed
  have h2 : (Cond.codeWith y bytes maxL ret hh).before a A.U = true := hws _ hcode _ _ X.warmed
  have h3 : (Cond.initialized y.cls).before a A.U = true := hinit _ _ X.warmed
  have h4 : A.cells + (headSpec ws rm).room.cells ≤ R.cells := by rw [show (headSpec ws rm).room.cells = mc from hrc]; exact hp.1
  have h5 : A.slots + (headSpec ws rm).room.slots ≤ R.slots := by rw [show (headSpec ws rm).room.slots = ms from hrs]; exact hp.2.1
  have hPc : Pc a (A.U.calling g mk a) := hblind _ _ _ _ hp.2.2
  obtain ⟨U, Ls, c0, s0⟩ := A
  dsimp only [Pt.U, Pt.locs, Pt.cells, Pt.slots] at h1 h2 h3 h4 h5 X hn hPc ⊢
  obtain ⟨m9, methY, cY, hn9, hmY, hcY, -, hlY, -⟩ := Cond.codeWith_spec h2
  cases Option.some.inj (hn9.symm.trans hn)
  obtain ⟨kY, hkY, -⟩ := className_of_methodNamed hn
  have hinitY : kY.init = .initialized := Cond.initialized_spec (findClass_of_methodNamed hn) hkY h3
  have h : At U g.method c below := by rw [hg]; exact X.here
  have hlocals9 : W9 + (maxL + 11) + (headSpec ws rm).room.locals ≤ R.locals := hlocals
  have happ : (headSpec ws rm).appliesLoose y e.platform (U.calling g mk a) = true :=
    Spec.appliesLoose_calling (g := g) h hdg hn hkY hinitY
      (X.room_calling (g := g) (R' := (headSpec ws rm).room) hsize hmY hcY hframes (by rw [hlY]; omega) h4 h5) h1
  obtain ⟨mid, hmid⟩ := h.above
  have hfr : (U.setTop g).frames = (.java g :: mid) ++ below := by rw [State.frames_setTop' g h.top, hmid]; rfl
  obtain ⟨o, s₂, hsteps, -, hend, hq⟩ := Steps.callFree hM p X.admits X.cas X.clock (acts := []) hfr happ hPc trivial
  have hq' : vx_Q Qc XC mc ms free a (U.calling g mk a) o s₂ := hq
  rw [State.frames_setTop' g h.top] at hend
  obtain ⟨g₀, hg0⟩ := Option.isSome_iff_exists.mp h.top
  obtain ⟨r, hr⟩ := State.topJava?_eq_some.mp hg0
  have hr' : (({ U with heap := s₂.heap, slotsUsed := s₂.slotsUsed } : State).setVm s₂.vm).frames = .java g₀ :: r := hr
  rcases hq' with ⟨hqc, L, hfe, hL⟩ | ⟨q, rfl, E, ce, L, hx, hce, hcv, hcl, hW₂, hsm, hL⟩
  · obtain ⟨⟨v, rfl⟩, hW₂, e2, q2, q3, q4, q5, q6⟩ := id hfe
    have e3 : s₂ = ({ (U.calling g mk a).setFrames s₂.frames with heap := s₂.heap, slotsUsed := s₂.slotsUsed } : State).setVm s₂.vm := by
      have : s₂ = ({ s₂ with vm := (U.calling g mk a).vm } : State).setVm s₂.vm := rfl
      rw [e2] at this
      exact this
    obtain ⟨c₂, i₂, len₂, hc₂, hd₂, hf₂⟩ := hend
    have hW' : U.WarmedH s₂.vm := hW₂
    have hcc : c₂ = c := by
      have h1 : s₂.code? g.method = U.code? g.method := by
        rw [State.code?_eq, State.code?_eq, hW'.alike.method?]
      exact Option.some.inj (hc₂.symm.trans (h1.trans h.code))
    subst hcc
    have hlen : len₂ = len := by rw [hdg] at hd₂; cases hd₂; rfl
    subst hlen
    have hs₂ : s₂ = (({ U with heap := s₂.heap, slotsUsed := s₂.slotsUsed } : State).setVm s₂.vm).setTop { g with pc := g.pc + len₂, stack := v.toList ++ g.stack } := by
      refine e3.trans ?_
      rw [hf₂, State.calling_eq h.top, State.setFrames_setFrames, State.setTop_of_frames _ hr', hr]
      rfl
    have hsame : U.sameButNew ({ U with heap := s₂.heap, slotsUsed := s₂.slotsUsed } : State) L mc ms := by
      refine ⟨?_, q2, q3, q4, q5, q6⟩
      obtain ⟨t, ht, -⟩ := State.frames_cons hr
      show ({ U with heap := s₂.heap, slotsUsed := s₂.slotsUsed } : State) = { U.setFrames U.frames with heap := s₂.heap, slotsUsed := s₂.slotsUsed }
      rw [State.setFrames_self ht]
    subst hg
    refine Or.inl ⟨v, ⟨(({ U with heap := s₂.heap, slotsUsed := s₂.slotsUsed } : State).setVm s₂.vm), Ls ++ L, c0 + mc, s0 + ms⟩,
      ⟨X.admits, X.cas, X.clock, X.frames, X.room, X.hears, X.method, X.code, (X.here.setHeapUsed s₂.heap s₂.slotsUsed).setVm hW'.alike, X.tail, State.WarmedH.trans X.warmed hW', X.limits, X.bytes, X.same.trans (hsame.setVm s.vm)⟩,
      ⟨g, mk, s₂, L, rfl, rfl, hqc, rfl, hL, rfl, rfl⟩, ?_⟩
    show Steps p.tables e below _ ((({ U with heap := s₂.heap, slotsUsed := s₂.slotsUsed } : State).setVm s₂.vm).setTop { g with pc := g.pc + len₂, stack := v.toList ++ g.stack })
    rw [← hs₂]
    exact hsteps
  · obtain ⟨e2, q2, q3, q4, q5, q6⟩ := id hsm
    have e3 : s₂ = ({ (U.calling g mk a).setFrames s₂.frames with heap := s₂.heap, slotsUsed := s₂.slotsUsed } : State).setVm s₂.vm := by
      have : s₂ = ({ s₂ with vm := (U.calling g mk a).vm } : State).setVm s₂.vm := rfl
      rw [e2] at this
      exact this
    have hf₂ : s₂.frames = .throwing q :: .java g :: U.frames.tail := hend
    have hW' : U.WarmedH s₂.vm := hW₂
    have hs₂ : s₂ = ((({ U with heap := s₂.heap, slotsUsed := s₂.slotsUsed } : State).setVm s₂.vm).setTop g).pushFrame (.throwing q) := by
      refine e3.trans ?_
      rw [hf₂, State.calling_eq h.top, State.setFrames_setFrames, State.pushFrame, State.frames_setTop _ hr', State.setTop_of_frames _ hr', State.setFrames_setFrames, hr]
      rfl
    have hsame : U.sameButNew ({ U with heap := s₂.heap, slotsUsed := s₂.slotsUsed } : State) L mc ms := by
      refine ⟨?_, q2, q3, q4, q5, q6⟩
      obtain ⟨t, ht, -⟩ := State.frames_cons hr
      show ({ U with heap := s₂.heap, slotsUsed := s₂.slotsUsed } : State) = { U.setFrames U.frames with heap := s₂.heap, slotsUsed := s₂.slotsUsed }
      rw [State.setFrames_self ht]
    subst hg
    refine Or.inr ⟨q, ⟨(({ U with heap := s₂.heap, slotsUsed := s₂.slotsUsed } : State).setVm s₂.vm), Ls ++ L, c0 + mc, s0 + ms⟩,
      ⟨X.admits, X.cas, X.clock, X.frames, X.room, X.hears, X.method, X.code, (X.here.setHeapUsed s₂.heap s₂.slotsUsed).setVm hW'.alike, X.tail, State.WarmedH.trans X.warmed hW', X.limits, X.bytes, X.same.trans (hsame.setVm s.vm)⟩,
      ⟨g, mk, s₂, L, E, ce, rfl, rfl, hx, hce, hcv, hcl, rfl, hL, rfl, rfl⟩, ?_⟩
    show Steps p.tables e below _ (((({ U with heap := s₂.heap, slotsUsed := s₂.slotsUsed } : State).setVm s₂.vm).setTop g).pushFrame (.throwing q))
    rw [← hs₂]
    exact hsteps
end
variable {p : Program} {l : Launch} {e : Env} {R : Room} {s : State} {m : MethodId} {args : Array Value} {below : List Frame} {meth : Method} {c : Code} {T : State} {H : Heap} {locs : List Loc} {cells slots : Nat}
theorem vx_callVX (X : Stand p l e R s m args below meth c T locs cells slots) (hexec : p.tables.exec = Jvm.exec) {own C : String} {index : Nat} {y : MethodName} {bytes : ByteArray} {maxL : Nat} {ret : Option FieldType} {hh : List (Nat × Nat × Nat × Nat)}
    (hown : s.vm.findClass own = some m.cls) (hlink : (Cond.methodLink own index y).before args s = true) (hinst : (Cond.instanceMethod y).before args s = true) (hsel : (Cond.selects C y y).before args s = true)
    (hcode : (Cond.codeWith y bytes maxL ret hh).before args s = true) (hy : y.cls ≠ "java/lang/invoke/MethodHandle" ∧ y.cls ≠ "java/lang/invoke/VarHandle")
    {W9 : Nat} {Pre : Pt → Array Value → Prop} {Post : Pt → Array Value → Option Value → Pt → Prop} {PostX : Pt → Array Value → Addr → Pt → Prop} (hK : vx_Back l R p e below s args y 3 W9 Pre Post PostX)
    {b : Addr} {cellB : Cell} (hcell : T.heap[b]? = some cellB) (hobj : cellB.vm.isStatics = false) (hcls : s.vm.findClass C = some cellB.cls)
    {g : JFrame} (hg : g.method = m) (hsize : g.locals.size = c.maxLocals) {argsL rest : List Value} (hlen : ∀ sig, parseMethodDescriptor y.desc = some sig → argsL.length = sig.parameters.length)
    (hstack : g.stack = argsL.reverse ++ .ref b :: rest) (hW : 2 * g.monitorRoom + (rest.map fun v => v.category).sum ≤ W9) (hdg : decode c.code g.pc = .ok (.invokevirtual index, 3))
    (hpre : ∀ vm₁, s.WarmedH vm₁ → Pre ⟨T.setVm vm₁, locs, cells, slots⟩ (Value.ref b :: argsL).toArray) :
    (∃ (v : Option Value) (vm₁ : Vm) (B : Pt), s.WarmedH vm₁ ∧ Stand p l e R s m args below meth c B.U B.locs B.cells B.slots ∧ Post ⟨T.setVm vm₁, locs, cells, slots⟩ (Value.ref b :: argsL).toArray v B ∧
      ∀ target, Steps p.tables e below (B.U.setTop { g with pc := g.pc + 3, stack := v.toList ++ rest }) target → Steps p.tables e below (T.setTop g) target) ∨
    (∃ (q : Addr) (vm₁ : Vm) (B : Pt), s.WarmedH vm₁ ∧ Stand p l e R s m args below meth c B.U B.locs B.cells B.slots ∧ PostX ⟨T.setVm vm₁, locs, cells, slots⟩ (Value.ref b :: argsL).toArray q B ∧
      Steps p.tables e below (T.setTop g) ((B.U.setTop { g with stack := rest }).pushFrame (.throwing q))) := by
  obtain ⟨mk, methM, hnamed, hmethM, hstM, habM⟩ := Cond.instanceMethod_spec hinst
  obtain ⟨m8, methM', cM, hn8, hmethM', -, -, -, -, -, -, hsigM⟩ := Cond.codeWith_spec hcode
  cases Option.some.inj (hn8.symm.trans hnamed)
  cases hmethM.symm.trans hmethM'
  obtain ⟨c2, r2, m2, q1, q2, q3, q4, kP, hkP, hkPi⟩ := Cond.selects_spec hsel
  cases hcls.symm.trans q1
  cases (State.methodFound?_of_named hnamed hy).symm.trans q2
  cases hnamed.symm.trans q3
  have hselP : selectMethod e.platform s.vm cellB.cls mk = .method mk := by rw [Launch.admits_selectMethod X.admits]; exact q4
  obtain ⟨vm₁, X₁, hstep₁⟩ := X.invokevirtual hexec hown hlink hnamed hmethM hstM hkP hkPi hy (a := b) (cell := cellB) hcell
    (fun z h => by rw [h] at hobj; cases hobj) hselP hmethM habM hkP hkPi (g := g) hg (argsL := argsL) (rest := rest) (hlen _ hsigM) hstack hdg
  rcases hK m meth c ⟨T.setVm vm₁, locs, cells, slots⟩ { g with stack := rest } (.invokevirtual index) mk (Value.ref b :: argsL).toArray X₁ hg hsize hdg hW (X₁.named hnamed) (hpre vm₁ X₁.warmed) with ⟨v, B, X', hpost, hsteps⟩ | ⟨q, B, X', hpost, hsteps⟩
  · exact Or.inl ⟨v, vm₁, B, X₁.warmed, X', hpost, fun target h => hstep₁ _ fun acts => by rw [doInvoke_state]; exact hsteps.trans h⟩
  · exact Or.inr ⟨q, vm₁, B, X₁.warmed, X', hpost, hstep₁ _ fun acts => by rw [doInvoke_state]; exact hsteps⟩
theorem vx_callSX (X : Stand p l e R s m args below meth c T locs cells slots) (hexec : p.tables.exec = Jvm.exec) {own : String} {index : Nat} {y : MethodName} {bytes : ByteArray} {maxL : Nat} {ret : Option FieldType} {hh : List (Nat × Nat × Nat × Nat)}
    (hown : s.vm.findClass own = some m.cls) (hlink : (Cond.methodLink own index y).before args s = true) (hstat : (Cond.static y).before args s = true) (hinit : (Cond.initialized y.cls).before args s = true)
    (hcode : (Cond.codeWith y bytes maxL ret hh).before args s = true) (hy : y.cls ≠ "java/lang/invoke/MethodHandle" ∧ y.cls ≠ "java/lang/invoke/VarHandle")
    {W9 : Nat} {Pre : Pt → Array Value → Prop} {Post : Pt → Array Value → Option Value → Pt → Prop} {PostX : Pt → Array Value → Addr → Pt → Prop} (hK : vx_Back l R p e below s args y 3 W9 Pre Post PostX)
    {g : JFrame} (hg : g.method = m) (hsize : g.locals.size = c.maxLocals) {argsL rest : List Value} (hlen : ∀ sig, parseMethodDescriptor y.desc = some sig → argsL.length = sig.parameters.length)
    (hstack : g.stack = argsL.reverse ++ rest) (hW : 2 * g.monitorRoom + (rest.map fun v => v.category).sum ≤ W9) (hdg : decode c.code g.pc = .ok (.invokestatic index, 3))
    (hpre : ∀ vm₁, s.WarmedH vm₁ → Pre ⟨T.setVm vm₁, locs, cells, slots⟩ argsL.toArray) :
    (∃ (v : Option Value) (vm₁ : Vm) (B : Pt), s.WarmedH vm₁ ∧ Stand p l e R s m args below meth c B.U B.locs B.cells B.slots ∧ Post ⟨T.setVm vm₁, locs, cells, slots⟩ argsL.toArray v B ∧
      ∀ target, Steps p.tables e below (B.U.setTop { g with pc := g.pc + 3, stack := v.toList ++ rest }) target → Steps p.tables e below (T.setTop g) target) ∨
    (∃ (q : Addr) (vm₁ : Vm) (B : Pt), s.WarmedH vm₁ ∧ Stand p l e R s m args below meth c B.U B.locs B.cells B.slots ∧ PostX ⟨T.setVm vm₁, locs, cells, slots⟩ argsL.toArray q B ∧
      Steps p.tables e below (T.setTop g) ((B.U.setTop { g with stack := rest }).pushFrame (.throwing q))) := by
  obtain ⟨mk, methM, cM, hnamed, hmethM, -, -, -, -, -, -, hsigM⟩ := Cond.codeWith_spec hcode
  have hstatic : methM.isStatic = true := Cond.static_spec hnamed hmethM hstat
  obtain ⟨kP, hkP, -⟩ := className_of_methodNamed hnamed
  have hinitP : kP.init = .initialized := Cond.initialized_spec (findClass_of_methodNamed hnamed) hkP hinit
  obtain ⟨vm₁, X₁, hstep₁⟩ := X.invokestatic hexec hown hlink hnamed hmethM hstatic hkP hinitP hy (g := g) hg (argsL := argsL) (rest := rest) (hlen _ hsigM) hstack hdg
  rcases hK m meth c ⟨T.setVm vm₁, locs, cells, slots⟩ { g with stack := rest } (.invokestatic index) mk argsL.toArray X₁ hg hsize hdg hW (X₁.named hnamed) (hpre vm₁ X₁.warmed) with ⟨v, B, X', hpost, hsteps⟩ | ⟨q, B, X', hpost, hsteps⟩
  · exact Or.inl ⟨v, vm₁, B, X₁.warmed, X', hpost, fun target h => hstep₁ _ fun acts => by rw [doInvoke_state]; exact hsteps.trans h⟩
  · exact Or.inr ⟨q, vm₁, B, X₁.warmed, X', hpost, hstep₁ _ fun acts => by rw [doInvoke_state]; exact hsteps⟩
theorem vx_callVW (X : Stand p l e R s m args below meth c T locs cells slots) (hexec : p.tables.exec = Jvm.exec) {own C : String} {index : Nat} {y : MethodName} {bytes : ByteArray} {maxL : Nat} {ret : Option FieldType} {hh : List (Nat × Nat × Nat × Nat)}
    (hown : s.vm.findClass own = some m.cls) (hlink : (Cond.methodLink own index y).before args s = true) (hinst : (Cond.instanceMethod y).before args s = true) (hsel : (Cond.selects C y y).before args s = true)
    (hcode : (Cond.codeWith y bytes maxL ret hh).before args s = true) (hy : y.cls ≠ "java/lang/invoke/MethodHandle" ∧ y.cls ≠ "java/lang/invoke/VarHandle")
    {W9 : Nat} {Pre : Pt → Array Value → Prop} {Post : Pt → Array Value → Option Value → Pt → Prop} (hK : Back l R p e below s args y 3 W9 Pre Post)
    {b : Addr} {cellB : Cell} (hcell : T.heap[b]? = some cellB) (hobj : cellB.vm.isStatics = false) (hcls : s.vm.findClass C = some cellB.cls)
    {g : JFrame} (hg : g.method = m) (hsize : g.locals.size = c.maxLocals) {argsL rest : List Value} (hlen : ∀ sig, parseMethodDescriptor y.desc = some sig → argsL.length = sig.parameters.length)
    (hstack : g.stack = argsL.reverse ++ .ref b :: rest) (hW : 2 * g.monitorRoom + (rest.map fun v => v.category).sum ≤ W9) (hdg : decode c.code g.pc = .ok (.invokevirtual index, 3))
    (hpre : ∀ vm₁, s.WarmedH vm₁ → Pre ⟨T.setVm vm₁, locs, cells, slots⟩ (Value.ref b :: argsL).toArray) :
    ∃ (v : Option Value) (vm₁ : Vm) (B : Pt), s.WarmedH vm₁ ∧ Stand p l e R s m args below meth c B.U B.locs B.cells B.slots ∧ Post ⟨T.setVm vm₁, locs, cells, slots⟩ (Value.ref b :: argsL).toArray v B ∧
      ∀ target, Steps p.tables e below (B.U.setTop { g with pc := g.pc + 3, stack := v.toList ++ rest }) target → Steps p.tables e below (T.setTop g) target := by
  obtain ⟨mk, methM, hnamed, hmethM, hstM, habM⟩ := Cond.instanceMethod_spec hinst
  obtain ⟨m8, methM', cM, hn8, hmethM', -, -, -, -, -, -, hsigM⟩ := Cond.codeWith_spec hcode
  cases Option.some.inj (hn8.symm.trans hnamed)
  cases hmethM.symm.trans hmethM'
  obtain ⟨c2, r2, m2, q1, q2, q3, q4, kP, hkP, hkPi⟩ := Cond.selects_spec hsel
  cases hcls.symm.trans q1
  cases (State.methodFound?_of_named hnamed hy).symm.trans q2
  cases hnamed.symm.trans q3
  have hselP : selectMethod e.platform s.vm cellB.cls mk = .method mk := by rw [Launch.admits_selectMethod X.admits]; exact q4
  obtain ⟨vm₁, X₁, hstep₁⟩ := X.invokevirtual hexec hown hlink hnamed hmethM hstM hkP hkPi hy (a := b) (cell := cellB) hcell
    (fun z h => by rw [h] at hobj; cases hobj) hselP hmethM habM hkP hkPi (g := g) hg (argsL := argsL) (rest := rest) (hlen _ hsigM) hstack hdg
  obtain ⟨v, B, X', hpost, hsteps⟩ := hK m meth c ⟨T.setVm vm₁, locs, cells, slots⟩ { g with stack := rest } (.invokevirtual index) mk (Value.ref b :: argsL).toArray X₁ hg hsize hdg hW (X₁.named hnamed) (hpre vm₁ X₁.warmed)
  exact ⟨v, vm₁, B, X₁.warmed, X', hpost, fun target h => hstep₁ _ fun acts => by rw [doInvoke_state]; exact hsteps.trans h⟩
abbrev vx_CVW (R : Room) (s : State) (args : Array Value) (own C : String) (index : Nat) (y : MethodName) (bytes : ByteArray) (maxL : Nat) (ret : Option FieldType) (hh : List (Nat × Nat × Nat × Nat)) (ws : List Cond) (rm : Room) (mc ms n : Nat) : Prop :=
  (rm.cells = mc ∧ rm.slots = ms ∧ rm.frames + 1 ≤ R.frames ∧ 8 + (maxL + 11) + rm.locals ≤ R.locals ∧ (∀ w ∈ ws, ∀ (a' : Array Value) (U : State), s.WarmedH U.vm → w.before a' U = true) ∧ Cond.codeWith y bytes maxL ret hh ∈ ws) ∧
  (Cond.codeWith y bytes maxL ret hh).before args s = true ∧ (Cond.initialized y.cls).before args s = true ∧ (y.cls ≠ "java/lang/invoke/MethodHandle" ∧ y.cls ≠ "java/lang/invoke/VarHandle") ∧
  (∀ sig, parseMethodDescriptor y.desc = some sig → n = sig.parameters.length) ∧ (Cond.methodLink own index y).before args s = true ∧ (Cond.instanceMethod y).before args s = true ∧ (Cond.selects C y y).before args s = true
theorem vx_cwVW {own C : String} {index maxL mc ms : Nat} {y : MethodName} {bytes : ByteArray} {ret : Option FieldType} {hh : List (Nat × Nat × Nat × Nat)} {Ts ws ws' : List Cond} {rm : Room} (n : Nat) (ht : ∀ w ∈ Ts, w.before args s = true) (hT : GoodIn Ts (wsV own index C y ws)) (hw : ws = Cond.codeWith y bytes maxL ret hh :: ws') (hrc : rm.cells = mc) (hrs : rm.slots = ms)
    (hd : y.cls = C ∧ y.cls ≠ "java/lang/invoke/MethodHandle" ∧ y.cls ≠ "java/lang/invoke/VarHandle" ∧ (parseMethodDescriptor y.desc).map (fun d => d.parameters.length) = some n) (hR : rm.frames + 1 ≤ R.frames ∧ 8 + (maxL + 11) + rm.locals ≤ R.locals) :
    vx_CVW R s args own C index y bytes maxL ret hh ws rm mc ms n := by
  obtain ⟨hC, hd⟩ := hd
  subst hC
  have ok : ∀ w ∈ wsV own index y.cls y ws, w.before args s = true := fun w h => ht w (hT w h).1
  have hG : GoodIn Ts ws := fun w h => hT w (by unfold wsV; exact List.mem_append_right _ h)
  have hc : Cond.codeWith y bytes maxL ret hh ∈ ws := by rw [hw]; exact List.mem_cons_self
  refine ⟨⟨hrc, hrs, hR.1, hR.2, pay_in ht hG, hc⟩, ht _ (hG _ hc).1, ok _ (by simp [wsV]), ⟨hd.1, hd.2.1⟩, fun sig h => ?_, ok _ (by simp [wsV]), ok _ (by simp [wsV]), ok _ (by simp [wsV])⟩
  have h2 := hd.2.2
  rw [h] at h2
  exact (Option.some.inj h2).symm
theorem vx_runVW {y : MethodName} {bytes cc : ByteArray} {maxL nL mc ms n index : Nat} {ret : Option FieldType} {hh : List (Nat × Nat × Nat × Nat)} {ws : List Cond} {rm : Room} {Pc : Array Value → State → Prop} {Qc : Array Value → State → Outcome → State → Prop} {free : Addr → Prop} {Ts : List Cond} {own C : String} {b : Addr} {As rest : List Value} {g : JFrame}
    (S : CallFix p m c cc nL s args Ts own) (hM : Met l y ws rm Pc Qc mc ms free) (cw : vx_CVW R s args own C index y bytes maxL ret hh ws rm mc ms n) (hp : PreV s H C b Pc As)
    (hg : g.method = m) (hn : As.length = n) (hsize : g.locals.size = nL) (hstack : g.stack = As.reverse ++ .ref b :: rest) (hW : 2 * g.monitorRoom + (rest.map fun v => v.category).sum ≤ 8) (hdg : decode cc g.pc = .ok (.invokevirtual index, 3)) (hf : cells + mc ≤ R.cells ∧ slots + ms ≤ R.slots) :
    va_Run p l e R s m args below meth c H locs cells slots mc ms g rest (Qc (Value.ref b :: As).toArray) free := by
  obtain ⟨⟨hrc, hrs, hfr, hlo, hws, hcw⟩, hcode, hini, hy, hlen, hl, hin, hse⟩ := cw
  have hK : Back l R p e below s args y 3 8 (PreOf R mc ms Pc) (PostOf Qc mc ms free) := va_backW (hh := hh) (bytes := bytes) (maxL := maxL) (ret := ret) hM hp.1 hrc hrs hfr hlo hws hcw (fun a' U hW => word_at hW (Or.inl (by first | rfl | simp [Cond.onTables, Cond.keeps, Cond.steady])) hini)
  obtain ⟨hx, hb, hml, ho, -⟩ := S
  obtain ⟨-, ⟨cellB, hcB, hoB, hclB⟩, hPc⟩ := hp
  intro T hT X
  obtain ⟨v, vm₁, ⟨U', l2, c2, s2⟩, hW₁, X', ⟨g', mk, t, L, e1, e2, hq, h1, hL, h2, h3⟩, st⟩ := vx_callVW X hx (C := C) (hh := hh) (bytes := bytes) (maxL := maxL) (ret := ret) ho hl hin hse hcode hy hK (by rw [hT]; exact hcB) hoB hclB hg (hsize.trans hml.symm) (argsL := As) (rest := rest) (fun sig h => hn.trans (hlen sig h)) hstack hW (by rw [hb]; exact hdg)
    (fun vm₁ hW₁ => ⟨hf.1, hf.2, hPc (T.setVm vm₁) hT hW₁⟩)
  dsimp only [Pt.U, Pt.locs, Pt.cells, Pt.slots] at X' e1 e2 h1 h2 h3 st
  subst h1; subst h2; subst h3
  exact ⟨v, (T.setVm vm₁).calling g' mk (Value.ref b :: As).toArray, t, U', L, hT, X', hL, e1, e2, hq, st⟩
section
variable {y : MethodName} {bytes cc : ByteArray} {maxL nL mc ms n index : Nat} {ret : Option FieldType} {ws : List Cond} {rm : Room} {Pc : Array Value → State → Prop} {Qc : Array Value → State → Outcome → State → Prop} {XC : String → State → State → Prop} {free : Addr → Prop} {Ts : List Cond} {own C : String} {b : Addr} {As rest : List Value} {g : JFrame}
theorem vx_runVX {hh : List (Nat × Nat × Nat × Nat)} (S : CallFix p m c cc nL s args Ts own) (hM : vx_Met l y ws rm Pc Qc XC mc ms free) (cw : vx_CVW R s args own C index y bytes maxL ret hh ws rm mc ms n) (hp : PreV s H C b Pc As)
    (hg : g.method = m) (hn : As.length = n) (hsize : g.locals.size = nL) (hstack : g.stack = As.reverse ++ .ref b :: rest) (hW : 2 * g.monitorRoom + (rest.map fun v => v.category).sum ≤ 8) (hdg : decode cc g.pc = .ok (.invokevirtual index, 3)) (hf : cells + mc ≤ R.cells ∧ slots + ms ≤ R.slots) :
    vx_Run p l e R s m args below meth c H locs cells slots mc ms g rest (Qc (Value.ref b :: As).toArray) XC free := by
  obtain ⟨⟨hrc, hrs, hfr, hlo, hws, hcw⟩, hcode, hini, hy, hlen, hl, hin, hse⟩ := cw
  have hK : vx_Back l R p e below s args y 3 8 (PreOf R mc ms Pc) (PostOf Qc mc ms free) (vx_Post XC mc ms free) := vx_backW (hh := hh) (bytes := bytes) (maxL := maxL) (ret := ret) hM hp.1 hrc hrs hfr hlo hws hcw (fun a' U hW => word_at hW (Or.inl (by first | rfl | simp [Cond.onTables, Cond.keeps, Cond.steady])) hini)
  obtain ⟨hx, hb, hml, ho, -⟩ := S
  obtain ⟨-, ⟨cellB, hcB, hoB, hclB⟩, hPc⟩ := hp
  intro T hT X
  rcases vx_callVX X hx (C := C) (hh := hh) (bytes := bytes) (maxL := maxL) (ret := ret) ho hl hin hse hcode hy hK (by rw [hT]; exact hcB) hoB hclB hg (hsize.trans hml.symm) (argsL := As) (rest := rest) (fun sig h => hn.trans (hlen sig h)) hstack hW (by rw [hb]; exact hdg)
    (fun vm₁ hW₁ => ⟨hf.1, hf.2, hPc (T.setVm vm₁) hT hW₁⟩) with ⟨v, vm₁, ⟨U', l2, c2, s2⟩, hW₁, X', ⟨g', mk, t, L, e1, e2, hq, h1, hL, h2, h3⟩, st⟩ | ⟨q, vm₁, ⟨U', l2, c2, s2⟩, hW₁, X', ⟨g', mk, t, L, E, ce, e1, e2, hq, hce, hcv, hcl, h1, hL, h2, h3⟩, st⟩
  · dsimp only [Pt.U, Pt.locs, Pt.cells, Pt.slots] at X' e1 e2 h1 h2 h3 st
    subst h1; subst h2; subst h3
    exact Or.inl ⟨v, (T.setVm vm₁).calling g' mk (Value.ref b :: As).toArray, t, U', L, hT, X', hL, e1, e2, hq, st⟩
  · dsimp only [Pt.U, Pt.locs, Pt.cells, Pt.slots] at X' e1 e2 h1 h2 h3 st hcl
    subst h1; subst h2; subst h3
    exact Or.inr ⟨q, (T.setVm vm₁).calling g' mk (Value.ref b :: As).toArray, t, U', L, E, ce, hT, X', hL, e1, e2, hq, hce, hcv, vx_cls hW₁ hcl, st⟩
theorem vx_runSX {hh : List (Nat × Nat × Nat × Nat)} (S : CallFix p m c cc nL s args Ts own) (hM : vx_Met l y ws rm Pc Qc XC mc ms free) (cw : vx_CSW R s args own index y bytes maxL ret hh ws rm mc ms n) (hp : PreS s H Pc As)
    (hg : g.method = m) (hn : As.length = n) (hsize : g.locals.size = nL) (hstack : g.stack = As.reverse ++ rest) (hW : 2 * g.monitorRoom + (rest.map fun v => v.category).sum ≤ 8) (hdg : decode cc g.pc = .ok (.invokestatic index, 3)) (hf : cells + mc ≤ R.cells ∧ slots + ms ≤ R.slots) :
    vx_Run p l e R s m args below meth c H locs cells slots mc ms g rest (Qc As.toArray) XC free := by
  obtain ⟨⟨hrc, hrs, hfr, hlo, hws, hcw⟩, hcode, hini, hy, hlen, hl, hstt⟩ := cw
  have hK : vx_Back l R p e below s args y 3 8 (PreOf R mc ms Pc) (PostOf Qc mc ms free) (vx_Post XC mc ms free) := vx_backW (hh := hh) (bytes := bytes) (maxL := maxL) (ret := ret) hM hp.1 hrc hrs hfr hlo hws hcw (fun a' U hW => word_at hW (Or.inl (by first | rfl | simp [Cond.onTables, Cond.keeps, Cond.steady])) hini)
  obtain ⟨hx, hb, hml, ho, -⟩ := S
  intro T hT X
  rcases vx_callSX X hx (hh := hh) (bytes := bytes) (maxL := maxL) (ret := ret) ho hl hstt hini hcode hy hK hg (hsize.trans hml.symm) (argsL := As) (rest := rest) (fun sig h => hn.trans (hlen sig h)) hstack hW (by rw [hb]; exact hdg)
    (fun vm₁ hW₁ => ⟨hf.1, hf.2, hp.2 (T.setVm vm₁) hT hW₁⟩) with ⟨v, vm₁, ⟨U', l2, c2, s2⟩, hW₁, X', ⟨g', mk, t, L, e1, e2, hq, h1, hL, h2, h3⟩, st⟩ | ⟨q, vm₁, ⟨U', l2, c2, s2⟩, hW₁, X', ⟨g', mk, t, L, E, ce, e1, e2, hq, hce, hcv, hcl, h1, hL, h2, h3⟩, st⟩
  · dsimp only [Pt.U, Pt.locs, Pt.cells, Pt.slots] at X' e1 e2 h1 h2 h3 st
    subst h1; subst h2; subst h3
    exact Or.inl ⟨v, (T.setVm vm₁).calling g' mk As.toArray, t, U', L, hT, X', hL, e1, e2, hq, st⟩
  · dsimp only [Pt.U, Pt.locs, Pt.cells, Pt.slots] at X' e1 e2 h1 h2 h3 st hcl
    subst h1; subst h2; subst h3
    exact Or.inr ⟨q, (T.setVm vm₁).calling g' mk As.toArray, t, U', L, E, ce, hT, X', hL, e1, e2, hq, hce, hcv, vx_cls hW₁ hcl, st⟩
end
end VXH
theorem vx_ofWH {l : Launch} {y : MethodName} {ws ws' : List Cond} {rm : Room} {Pc : Array Value → State → Prop} {Qc : Array Value → State → Outcome → State → Prop} {XC : String → State → State → Prop} {mc ms : Nat} {free : Addr → Prop} {cc : ByteArray} {maxL : Nat} {ret : Option FieldType} {hh : List (Nat × Nat × Nat × Nat)}
    (hy : plainName y.cls = true) (hw : ws = Cond.codeWith y cc maxL ret hh :: ws')
    (body : ∀ p e s m args below meth c s₁, BodyLoose p l y (headSpec ws rm) cc maxL ret e s m args below meth c s₁ → c.maxLocals = maxL → Pc args s →
      W p l e (headSpec ws rm).room s m args below meth c s.heap [] 0 0 (vx_MQ below Qc XC args s mc ms free) (entryFrame m args maxL)) : vx_Met l y ws rm Pc Qc XC mc ms free := by
  refine MetFree.of_bodyS (code := cc) (maxLocals := maxL) (ret := ret) hy ?_ ?_
  · intro args s m h hn
    obtain ⟨m9, meth, c, hn9, h1, h2, h3, h4, -, h5, h6, -⟩ := Cond.codeWith_spec (atoms_spec (ws := ws) h _ (by rw [hw]; exact List.mem_cons_self))
    cases hn.symm.trans hn9
    exact ⟨meth, c, h1, h2, h3, h4, h5, h6⟩
  · intro p e s m args below meth c s₁ B hml hP _
    have hh0 : s₁.heap = s.heap := by rw [B.state]; rfl
    obtain ⟨t, a1, o, b1, b2, b3⟩ := body p e s m args below meth c s₁ B hml hP s₁ hh0 (Stand.of_body B)
    exact ⟨t, o, a1, b1, b2, b3⟩
/-! ===== END ===== -/
end
section
def RX0 : String := "CableLanding$History"
def TX0 : u_T := fun k => match k with
  | 0 => ("CableLanding$History", "states", "[LCableLanding$State;", true)
  | 1 => ("CableLanding$History", "oldest", "I", false)
  | _ => ("CableLanding$History", "count", "I", false)
def tyX0 : Nat → FieldType := fun k => match k with
  | 0 => .array (.object "CableLanding$State")
  | 1 => .int
  | _ => .int
theorem nmX0 : ∀ a, a < 3 → ∀ b, b < 3 → a ≠ b → (TX0 a).2.1 ≠ (TX0 b).2.1 := by decide +kernel
theorem tyX0_ok : ∀ k, k < 3 → parseFieldDescriptor (TX0 k).2.2.1 = some (tyX0 k) := by decide +kernel
abbrev cX0_init : ByteArray := prog_2_method_1_code
def yX0_init : MethodName := ⟨RX0, "<init>", "()V"⟩
abbrev cX0_clear : ByteArray := prog_2_method_2_code
def yX0_clear : MethodName := ⟨RX0, "clear", "()V"⟩
abbrev cX0_remember : ByteArray := prog_2_method_3_code
def yX0_remember : MethodName := ⟨RX0, "remember", "(LCableLanding$State;)V"⟩
abbrev cX0_takeBack : ByteArray := prog_2_method_4_code
def yX0_takeBack : MethodName := ⟨RX0, "takeBack", "(LCableLanding$State;)I"⟩
abbrev cX0_placeOf : ByteArray := prog_2_method_5_code
def yX0_placeOf : MethodName := ⟨RX0, "placeOf", "(I)LCableLanding$State;"⟩
def RX1 : String := "CableLanding$Ledger"
def TX1 : u_T := fun k => match k with
  | 0 => ("CableLanding$Ledger", "cable", "I", false)
  | 1 => ("CableLanding$Ledger", "laid", "I", false)
  | 2 => ("CableLanding$Ledger", "slackUsed", "I", false)
  | 3 => ("CableLanding$Ledger", "seaCosts", "I", false)
  | 4 => ("CableLanding$Ledger", "waitingCosts", "I", false)
  | 5 => ("CableLanding$Ledger", "extensionCosts", "I", false)
  | _ => ("CableLanding$Ledger", "cableCosts", "I", false)
def tyX1 : Nat → FieldType := fun k => match k with
  | 0 => .int
  | 1 => .int
  | 2 => .int
  | 3 => .int
  | 4 => .int
  | 5 => .int
  | _ => .int
theorem nmX1 : ∀ a, a < 7 → ∀ b, b < 7 → a ≠ b → (TX1 a).2.1 ≠ (TX1 b).2.1 := by decide +kernel
theorem tyX1_ok : ∀ k, k < 7 → parseFieldDescriptor (TX1 k).2.2.1 = some (tyX1 k) := by decide +kernel
abbrev cX1_init : ByteArray := prog_3_method_1_code
def yX1_init : MethodName := ⟨RX1, "<init>", "()V"⟩
abbrev cX1_begin : ByteArray := prog_3_method_2_code
def yX1_begin : MethodName := ⟨RX1, "begin", "(I)V"⟩
abbrev cX1_copyFrom : ByteArray := prog_3_method_3_code
def yX1_copyFrom : MethodName := ⟨RX1, "copyFrom", "(LCableLanding$Ledger;)V"⟩
def RX2 : String := "CableLanding$Script"
def TX2 : u_T := fun k => match k with
  | _ => ("", "", "", false)
def tyX2 : Nat → FieldType := fun k => match k with
  | _ => .int
theorem nmX2 : ∀ a, a < 0 → ∀ b, b < 0 → a ≠ b → (TX2 a).2.1 ≠ (TX2 b).2.1 := by decide +kernel
theorem tyX2_ok : ∀ k, k < 0 → parseFieldDescriptor (TX2 k).2.2.1 = some (tyX2 k) := by decide +kernel
abbrev cX2_withoutLast : ByteArray := prog_4_method_2_code
def yX2_withoutLast : MethodName := ⟨RX2, "withoutLast", "(JI)J"⟩
abbrev cX2_succeeds : ByteArray := prog_4_method_3_code
def yX2_succeeds : MethodName := ⟨RX2, "succeeds", "(LCableLanding$State;I)Z"⟩
abbrev cX2_takes : ByteArray := prog_4_method_4_code
def yX2_takes : MethodName := ⟨RX2, "takes", "(LCableLanding$State;LCableLanding$Ship;I)Z"⟩
abbrev cX2_sends : ByteArray := prog_4_method_5_code
def yX2_sends : MethodName := ⟨RX2, "sends", "(LCableLanding$State;LCableLanding$Ship;)Z"⟩
abbrev cX2_recalls : ByteArray := prog_4_method_6_code
def yX2_recalls : MethodName := ⟨RX2, "recalls", "(LCableLanding$State;LCableLanding$Ship;)Z"⟩
abbrev cX2_extendsPermit : ByteArray := prog_4_method_7_code
def yX2_extendsPermit : MethodName := ⟨RX2, "extendsPermit", "(LCableLanding$State;LCableLanding$Zone;I)Z"⟩
abbrev cX2_buys : ByteArray := prog_4_method_8_code
def yX2_buys : MethodName := ⟨RX2, "buys", "(LCableLanding$State;I)Z"⟩
abbrev cX2_isAt : ByteArray := prog_4_method_9_code
def yX2_isAt : MethodName := ⟨RX2, "isAt", "(LCableLanding$Ship;I)Z"⟩
def RX3 : String := "CableLanding$Ship"
def TX3 : u_T := fun k => match k with
  | 0 => ("CableLanding$Ship", "capacity", "I", false)
  | 1 => ("CableLanding$Ship", "speed", "I", false)
  | 2 => ("CableLanding$Ship", "greatestWaves", "I", false)
  | 3 => ("CableLanding$Ship", "rate", "I", false)
  | 4 => ("CableLanding$Ship", "aboard", "I", false)
  | 5 => ("CableLanding$Ship", "where", "I", false)
  | 6 => ("CableLanding$Ship", "daysLeft", "I", false)
  | _ => ("CableLanding$Ship", "laid", "I", false)
def tyX3 : Nat → FieldType := fun k => match k with
  | 0 => .int
  | 1 => .int
  | 2 => .int
  | 3 => .int
  | 4 => .int
  | 5 => .int
  | 6 => .int
  | _ => .int
theorem nmX3 : ∀ a, a < 8 → ∀ b, b < 8 → a ≠ b → (TX3 a).2.1 ≠ (TX3 b).2.1 := by decide +kernel
theorem tyX3_ok : ∀ k, k < 8 → parseFieldDescriptor (TX3 k).2.2.1 = some (tyX3 k) := by decide +kernel
abbrev cX3_init : ByteArray := prog_5_method_1_code
def yX3_init : MethodName := ⟨RX3, "<init>", "()V"⟩
abbrev cX3_build : ByteArray := prog_5_method_2_code
def yX3_build : MethodName := ⟨RX3, "build", "(IIII)V"⟩
abbrev cX3_copyFrom : ByteArray := prog_5_method_3_code
def yX3_copyFrom : MethodName := ⟨RX3, "copyFrom", "(LCableLanding$Ship;)V"⟩
abbrev cX3_sail : ByteArray := prog_5_method_4_code
def yX3_sail : MethodName := ⟨RX3, "sail", "(II)V"⟩
abbrev cX3_sailOneDay : ByteArray := prog_5_method_5_code
def yX3_sailOneDay : MethodName := ⟨RX3, "sailOneDay", "()V"⟩
def RX4 : String := "CableLanding$Slot"
def TX4 : u_T := fun k => match k with
  | 0 => ("CableLanding$Slot", "state", "LCableLanding$State;", true)
  | _ => ("CableLanding$Slot", "filled", "Z", false)
def tyX4 : Nat → FieldType := fun k => match k with
  | 0 => .object "CableLanding$State"
  | _ => .boolean
theorem nmX4 : ∀ a, a < 2 → ∀ b, b < 2 → a ≠ b → (TX4 a).2.1 ≠ (TX4 b).2.1 := by decide +kernel
theorem tyX4_ok : ∀ k, k < 2 → parseFieldDescriptor (TX4 k).2.2.1 = some (tyX4 k) := by decide +kernel
abbrev cX4_init : ByteArray := prog_6_method_1_code
def yX4_init : MethodName := ⟨RX4, "<init>", "()V"⟩
def RX5 : String := "CableLanding$State"
def TX5 : u_T := fun k => match k with
  | 0 => ("CableLanding$State", "zones", "[LCableLanding$Zone;", true)
  | 1 => ("CableLanding$State", "ships", "[LCableLanding$Ship;", true)
  | 2 => ("CableLanding$State", "weather", "LCableLanding$Weather;", true)
  | 3 => ("CableLanding$State", "teams", "LCableLanding$Teams;", true)
  | 4 => ("CableLanding$State", "ledger", "LCableLanding$Ledger;", true)
  | 5 => ("CableLanding$State", "zoneCount", "I", false)
  | 6 => ("CableLanding$State", "shipCount", "I", false)
  | 7 => ("CableLanding$State", "depot", "I", false)
  | 8 => ("CableLanding$State", "day", "I", false)
  | 9 => ("CableLanding$State", "front", "I", false)
  | 10 => ("CableLanding$State", "laidHere", "I", false)
  | _ => ("CableLanding$State", "reason", "I", false)
def tyX5 : Nat → FieldType := fun k => match k with
  | 0 => .array (.object "CableLanding$Zone")
  | 1 => .array (.object "CableLanding$Ship")
  | 2 => .object "CableLanding$Weather"
  | 3 => .object "CableLanding$Teams"
  | 4 => .object "CableLanding$Ledger"
  | 5 => .int
  | 6 => .int
  | 7 => .int
  | 8 => .int
  | 9 => .int
  | 10 => .int
  | _ => .int
theorem nmX5 : ∀ a, a < 12 → ∀ b, b < 12 → a ≠ b → (TX5 a).2.1 ≠ (TX5 b).2.1 := by decide +kernel
theorem tyX5_ok : ∀ k, k < 12 → parseFieldDescriptor (TX5 k).2.2.1 = some (tyX5 k) := by decide +kernel
abbrev cX5_init : ByteArray := prog_7_method_1_code
def yX5_init : MethodName := ⟨RX5, "<init>", "()V"⟩
abbrev cX5_begin : ByteArray := prog_7_method_2_code
def yX5_begin : MethodName := ⟨RX5, "begin", "(III)V"⟩
abbrev cX5_addZone : ByteArray := prog_7_method_3_code
def yX5_addZone : MethodName := ⟨RX5, "addZone", "(IIII)V"⟩
abbrev cX5_addShip : ByteArray := prog_7_method_4_code
def yX5_addShip : MethodName := ⟨RX5, "addShip", "(IIII)V"⟩
abbrev cX5_copyFrom : ByteArray := prog_7_method_5_code
def yX5_copyFrom : MethodName := ⟨RX5, "copyFrom", "(LCableLanding$State;)V"⟩
abbrev cX5_zoneNumbered : ByteArray := prog_7_method_6_code
def yX5_zoneNumbered : MethodName := ⟨RX5, "zoneNumbered", "(I)LCableLanding$Zone;"⟩
abbrev cX5_shipNumbered : ByteArray := prog_7_method_7_code
def yX5_shipNumbered : MethodName := ⟨RX5, "shipNumbered", "(I)LCableLanding$Ship;"⟩
abbrev cX5_isFinished : ByteArray := prog_7_method_8_code
def yX5_isFinished : MethodName := ⟨RX5, "isFinished", "()Z"⟩
abbrev cX5_numberAtFront : ByteArray := prog_7_method_9_code
def yX5_numberAtFront : MethodName := ⟨RX5, "numberAtFront", "()I"⟩
abbrev cX5_leftIn : ByteArray := prog_7_method_10_code
def yX5_leftIn : MethodName := ⟨RX5, "leftIn", "(LCableLanding$Zone;I)I"⟩
abbrev cX5_aboardOfAll : ByteArray := prog_7_method_11_code
def yX5_aboardOfAll : MethodName := ⟨RX5, "aboardOfAll", "()I"⟩
abbrev cX5_canLoadOnto : ByteArray := prog_7_method_12_code
def yX5_canLoadOnto : MethodName := ⟨RX5, "canLoadOnto", "(LCableLanding$Ship;I)Z"⟩
abbrev cX5_loadOnto : ByteArray := prog_7_method_13_code
def yX5_loadOnto : MethodName := ⟨RX5, "loadOnto", "(LCableLanding$Ship;I)V"⟩
abbrev cX5_canSendOut : ByteArray := prog_7_method_14_code
def yX5_canSendOut : MethodName := ⟨RX5, "canSendOut", "(LCableLanding$Ship;)Z"⟩
abbrev cX5_sendOut : ByteArray := prog_7_method_15_code
def yX5_sendOut : MethodName := ⟨RX5, "sendOut", "(LCableLanding$Ship;)V"⟩
abbrev cX5_canCallHome : ByteArray := prog_7_method_16_code
def yX5_canCallHome : MethodName := ⟨RX5, "canCallHome", "(LCableLanding$Ship;)Z"⟩
abbrev cX5_callHome : ByteArray := prog_7_method_17_code
def yX5_callHome : MethodName := ⟨RX5, "callHome", "(LCableLanding$Ship;)V"⟩
abbrev cX5_canProlong : ByteArray := prog_7_method_18_code
def yX5_canProlong : MethodName := ⟨RX5, "canProlong", "(LCableLanding$Zone;I)Z"⟩
abbrev cX5_prolong : ByteArray := prog_7_method_19_code
def yX5_prolong : MethodName := ⟨RX5, "prolong", "(LCableLanding$Zone;I)V"⟩
abbrev cX5_canPurchase : ByteArray := prog_7_method_20_code
def yX5_canPurchase : MethodName := ⟨RX5, "canPurchase", "(I)Z"⟩
abbrev cX5_purchase : ByteArray := prog_7_method_21_code
def yX5_purchase : MethodName := ⟨RX5, "purchase", "(I)V"⟩
abbrev cX5_fillAndSend : ByteArray := prog_7_method_22_code
def yX5_fillAndSend : MethodName := ⟨RX5, "fillAndSend", "(I)Z"⟩
abbrev cX5_passDays : ByteArray := prog_7_method_23_code
def yX5_passDays : MethodName := ⟨RX5, "passDays", "(I)V"⟩
abbrev cX5_daysUntilDone : ByteArray := prog_7_method_24_code
def yX5_daysUntilDone : MethodName := ⟨RX5, "daysUntilDone", "(I)I"⟩
abbrev cX5_playRound : ByteArray := prog_7_method_25_code
def yX5_playRound : MethodName := ⟨RX5, "playRound", "(I)V"⟩
abbrev cX5_passDay : ByteArray := prog_7_method_26_code
def yX5_passDay : MethodName := ⟨RX5, "passDay", "()V"⟩
abbrev cX5_comeToFront : ByteArray := prog_7_method_27_code
def yX5_comeToFront : MethodName := ⟨RX5, "comeToFront", "()V"⟩
abbrev cX5_workAtFront : ByteArray := prog_7_method_28_code
def yX5_workAtFront : MethodName := ⟨RX5, "workAtFront", "()I"⟩
abbrev cX5_lay : ByteArray := prog_7_method_29_code
def yX5_lay : MethodName := ⟨RX5, "lay", "(LCableLanding$Ship;LCableLanding$Zone;)I"⟩
abbrev cX5_bookDay : ByteArray := prog_7_method_30_code
def yX5_bookDay : MethodName := ⟨RX5, "bookDay", "()V"⟩
def RX6 : String := "CableLanding$Teams"
def TX6 : u_T := fun k => match k with
  | 0 => ("CableLanding$Teams", "count", "I", false)
  | 1 => ("CableLanding$Teams", "spliceDays", "I", false)
  | 2 => ("CableLanding$Teams", "rest", "[I", true)
  | 3 => ("CableLanding$Teams", "needed", "Z", false)
  | 4 => ("CableLanding$Teams", "atWork", "I", false)
  | 5 => ("CableLanding$Teams", "daysLeft", "I", false)
  | _ => ("CableLanding$Teams", "splicesDone", "I", false)
def tyX6 : Nat → FieldType := fun k => match k with
  | 0 => .int
  | 1 => .int
  | 2 => .array .int
  | 3 => .boolean
  | 4 => .int
  | 5 => .int
  | _ => .int
theorem nmX6 : ∀ a, a < 7 → ∀ b, b < 7 → a ≠ b → (TX6 a).2.1 ≠ (TX6 b).2.1 := by decide +kernel
theorem tyX6_ok : ∀ k, k < 7 → parseFieldDescriptor (TX6 k).2.2.1 = some (tyX6 k) := by decide +kernel
abbrev cX6_init : ByteArray := prog_8_method_1_code
def yX6_init : MethodName := ⟨RX6, "<init>", "()V"⟩
abbrev cX6_begin : ByteArray := prog_8_method_2_code
def yX6_begin : MethodName := ⟨RX6, "begin", "(II)V"⟩
abbrev cX6_copyFrom : ByteArray := prog_8_method_3_code
def yX6_copyFrom : MethodName := ⟨RX6, "copyFrom", "(LCableLanding$Teams;)V"⟩
abbrev cX6_spliceGoesOn : ByteArray := prog_8_method_4_code
def yX6_spliceGoesOn : MethodName := ⟨RX6, "spliceGoesOn", "()Z"⟩
abbrev cX6_stageOfSplice : ByteArray := prog_8_method_5_code
def yX6_stageOfSplice : MethodName := ⟨RX6, "stageOfSplice", "()I"⟩
abbrev cX6_isFree : ByteArray := prog_8_method_6_code
def yX6_isFree : MethodName := ⟨RX6, "isFree", "(I)Z"⟩
abbrev cX6_freeTeams : ByteArray := prog_8_method_7_code
def yX6_freeTeams : MethodName := ⟨RX6, "freeTeams", "()I"⟩
abbrev cX6_beginSplice : ByteArray := prog_8_method_8_code
def yX6_beginSplice : MethodName := ⟨RX6, "beginSplice", "(I)Z"⟩
abbrev cX6_workOnSplice : ByteArray := prog_8_method_9_code
def yX6_workOnSplice : MethodName := ⟨RX6, "workOnSplice", "()V"⟩
abbrev cX6_leaveFront : ByteArray := prog_8_method_10_code
def yX6_leaveFront : MethodName := ⟨RX6, "leaveFront", "()V"⟩
abbrev cX6_sendToRest : ByteArray := prog_8_method_11_code
def yX6_sendToRest : MethodName := ⟨RX6, "sendToRest", "(I)V"⟩
abbrev cX6_restOneDay : ByteArray := prog_8_method_12_code
def yX6_restOneDay : MethodName := ⟨RX6, "restOneDay", "()V"⟩
def RX7 : String := "CableLanding$Text"
def TX7 : u_T := fun k => match k with
  | 0 => ("CableLanding$Text", "signs", "[C", true)
  | 1 => ("CableLanding$Text", "length", "I", false)
  | 2 => ("CableLanding$Text", "position", "I", false)
  | _ => ("CableLanding$Text", "allowed", "Z", false)
def tyX7 : Nat → FieldType := fun k => match k with
  | 0 => .array .char
  | 1 => .int
  | 2 => .int
  | _ => .boolean
theorem nmX7 : ∀ a, a < 4 → ∀ b, b < 4 → a ≠ b → (TX7 a).2.1 ≠ (TX7 b).2.1 := by decide +kernel
theorem tyX7_ok : ∀ k, k < 4 → parseFieldDescriptor (TX7 k).2.2.1 = some (tyX7 k) := by decide +kernel
abbrev cX7_init : ByteArray := prog_9_method_1_code
def yX7_init : MethodName := ⟨RX7, "<init>", "()V"⟩
abbrev cX7_hasRoom : ByteArray := prog_9_method_2_code
def yX7_hasRoom : MethodName := ⟨RX7, "hasRoom", "()Z"⟩
abbrev cX7_add : ByteArray := prog_9_method_3_code
def yX7_add : MethodName := ⟨RX7, "add", "(C)I"⟩
abbrev cX7_clear : ByteArray := prog_9_method_4_code
def yX7_clear : MethodName := ⟨RX7, "clear", "()I"⟩
abbrev cX7_readInto : ByteArray := prog_9_method_5_code
def yX7_readInto : MethodName := ⟨RX7, "readInto", "(LCableLanding$State;)I"⟩
abbrev cX7_readHead : ByteArray := prog_9_method_6_code
def yX7_readHead : MethodName := ⟨RX7, "readHead", "(LCableLanding$State;)V"⟩
abbrev cX7_readZone : ByteArray := prog_9_method_7_code
def yX7_readZone : MethodName := ⟨RX7, "readZone", "(LCableLanding$State;)V"⟩
abbrev cX7_readShip : ByteArray := prog_9_method_8_code
def yX7_readShip : MethodName := ⟨RX7, "readShip", "(LCableLanding$State;)V"⟩
abbrev cX7_readWeather : ByteArray := prog_9_method_9_code
def yX7_readWeather : MethodName := ⟨RX7, "readWeather", "(LCableLanding$State;)V"⟩
abbrev cX7_nextIs : ByteArray := prog_9_method_10_code
def yX7_nextIs : MethodName := ⟨RX7, "nextIs", "(C)Z"⟩
abbrev cX7_readLetter : ByteArray := prog_9_method_11_code
def yX7_readLetter : MethodName := ⟨RX7, "readLetter", "(C)V"⟩
abbrev cX7_readNumber : ByteArray := prog_9_method_12_code
def yX7_readNumber : MethodName := ⟨RX7, "readNumber", "(III)I"⟩
abbrev cX7_nextDigit : ByteArray := prog_9_method_13_code
def yX7_nextDigit : MethodName := ⟨RX7, "nextDigit", "()I"⟩
def RX8 : String := "CableLanding$Weather"
def TX8 : u_T := fun k => match k with
  | 0 => ("CableLanding$Weather", "count", "I", false)
  | _ => ("CableLanding$Weather", "row", "[I", true)
def tyX8 : Nat → FieldType := fun k => match k with
  | 0 => .int
  | _ => .array .int
theorem nmX8 : ∀ a, a < 2 → ∀ b, b < 2 → a ≠ b → (TX8 a).2.1 ≠ (TX8 b).2.1 := by decide +kernel
theorem tyX8_ok : ∀ k, k < 2 → parseFieldDescriptor (TX8 k).2.2.1 = some (tyX8 k) := by decide +kernel
abbrev cX8_init : ByteArray := prog_10_method_1_code
def yX8_init : MethodName := ⟨RX8, "<init>", "()V"⟩
abbrev cX8_copyFrom : ByteArray := prog_10_method_2_code
def yX8_copyFrom : MethodName := ⟨RX8, "copyFrom", "(LCableLanding$Weather;)V"⟩
abbrev cX8_add : ByteArray := prog_10_method_3_code
def yX8_add : MethodName := ⟨RX8, "add", "(I)V"⟩
abbrev cX8_on : ByteArray := prog_10_method_4_code
def yX8_on : MethodName := ⟨RX8, "on", "(I)I"⟩
abbrev cX8_change : ByteArray := prog_10_method_5_code
def yX8_change : MethodName := ⟨RX8, "change", "(II)I"⟩
def RX9 : String := "CableLanding$Zone"
def TX9 : u_T := fun k => match k with
  | 0 => ("CableLanding$Zone", "length", "I", false)
  | 1 => ("CableLanding$Zone", "first", "I", false)
  | 2 => ("CableLanding$Zone", "last", "I", false)
  | _ => ("CableLanding$Zone", "slack", "I", false)
def tyX9 : Nat → FieldType := fun k => match k with
  | 0 => .int
  | 1 => .int
  | 2 => .int
  | _ => .int
theorem nmX9 : ∀ a, a < 4 → ∀ b, b < 4 → a ≠ b → (TX9 a).2.1 ≠ (TX9 b).2.1 := by decide +kernel
theorem tyX9_ok : ∀ k, k < 4 → parseFieldDescriptor (TX9 k).2.2.1 = some (tyX9 k) := by decide +kernel
abbrev cX9_init : ByteArray := prog_11_method_1_code
def yX9_init : MethodName := ⟨RX9, "<init>", "()V"⟩
abbrev cX9_copyFrom : ByteArray := prog_11_method_2_code
def yX9_copyFrom : MethodName := ⟨RX9, "copyFrom", "(LCableLanding$Zone;)V"⟩
abbrev cX9_cableFor : ByteArray := prog_11_method_3_code
def yX9_cableFor : MethodName := ⟨RX9, "cableFor", "(I)I"⟩
abbrev cX9_mostUnits : ByteArray := prog_11_method_4_code
def yX9_mostUnits : MethodName := ⟨RX9, "mostUnits", "(II)I"⟩
def RX10 : String := "CableLanding"
def TX10 : u_T := fun k => match k with
  | 0 => ("CableLanding", "text", "LCableLanding$Text;", true)
  | 1 => ("CableLanding", "now", "LCableLanding$State;", true)
  | 2 => ("CableLanding", "trial", "LCableLanding$State;", true)
  | 3 => ("CableLanding", "history", "LCableLanding$History;", true)
  | _ => ("CableLanding", "slots", "[LCableLanding$Slot;", true)
def tyX10 : Nat → FieldType := fun k => match k with
  | 0 => .object "CableLanding$Text"
  | 1 => .object "CableLanding$State"
  | 2 => .object "CableLanding$State"
  | 3 => .object "CableLanding$History"
  | _ => .array (.object "CableLanding$Slot")
theorem nmX10 : ∀ a, a < 5 → ∀ b, b < 5 → a ≠ b → (TX10 a).2.1 ≠ (TX10 b).2.1 := by decide +kernel
theorem tyX10_ok : ∀ k, k < 5 → parseFieldDescriptor (TX10 k).2.2.1 = some (tyX10 k) := by decide +kernel
abbrev cX10_init : ByteArray := prog_1_method_1_code
def yX10_init : MethodName := ⟨RX10, "<init>", "()V"⟩
abbrev cX10_append : ByteArray := prog_1_method_2_code
def yX10_append : MethodName := ⟨RX10, "append", "(I)I"⟩
abbrev cX10_clearText : ByteArray := prog_1_method_3_code
def yX10_clearText : MethodName := ⟨RX10, "clearText", "()I"⟩
abbrev cX10_errorPosition : ByteArray := prog_1_method_4_code
def yX10_errorPosition : MethodName := ⟨RX10, "errorPosition", "()I"⟩
abbrev cX10_load : ByteArray := prog_1_method_5_code
def yX10_load : MethodName := ⟨RX10, "load", "()I"⟩
abbrev cX10_about : ByteArray := prog_1_method_6_code
def yX10_about : MethodName := ⟨RX10, "about", "(I)I"⟩
abbrev cX10_zone : ByteArray := prog_1_method_7_code
def yX10_zone : MethodName := ⟨RX10, "zone", "(II)I"⟩
abbrev cX10_ship : ByteArray := prog_1_method_8_code
def yX10_ship : MethodName := ⟨RX10, "ship", "(II)I"⟩
abbrev cX10_waves : ByteArray := prog_1_method_9_code
def yX10_waves : MethodName := ⟨RX10, "waves", "(I)I"⟩
abbrev cX10_account : ByteArray := prog_1_method_10_code
def yX10_account : MethodName := ⟨RX10, "account", "(I)I"⟩
abbrev cX10_take : ByteArray := prog_1_method_11_code
def yX10_take : MethodName := ⟨RX10, "take", "(II)I"⟩
abbrev cX10_send : ByteArray := prog_1_method_12_code
def yX10_send : MethodName := ⟨RX10, "send", "(I)I"⟩
abbrev cX10_recall : ByteArray := prog_1_method_13_code
def yX10_recall : MethodName := ⟨RX10, "recall", "(I)I"⟩
abbrev cX10_extend : ByteArray := prog_1_method_14_code
def yX10_extend : MethodName := ⟨RX10, "extend", "(II)I"⟩
abbrev cX10_buy : ByteArray := prog_1_method_15_code
def yX10_buy : MethodName := ⟨RX10, "buy", "(I)I"⟩
abbrev cX10_setWaves : ByteArray := prog_1_method_16_code
def yX10_setWaves : MethodName := ⟨RX10, "setWaves", "(II)I"⟩
abbrev cX10_pass : ByteArray := prog_1_method_17_code
def yX10_pass : MethodName := ⟨RX10, "pass", "(I)I"⟩
abbrev cX10_undo : ByteArray := prog_1_method_18_code
def yX10_undo : MethodName := ⟨RX10, "undo", "()I"⟩
abbrev cX10_needs : ByteArray := prog_1_method_19_code
def yX10_needs : MethodName := ⟨RX10, "needs", "(II)I"⟩
abbrev cX10_reach : ByteArray := prog_1_method_20_code
def yX10_reach : MethodName := ⟨RX10, "reach", "(II)I"⟩
abbrev cX10_calmDays : ByteArray := prog_1_method_21_code
def yX10_calmDays : MethodName := ⟨RX10, "calmDays", "(II)I"⟩
abbrev cX10_ahead : ByteArray := prog_1_method_22_code
def yX10_ahead : MethodName := ⟨RX10, "ahead", "(II)I"⟩
abbrev cX10_doneAfter : ByteArray := prog_1_method_23_code
def yX10_doneAfter : MethodName := ⟨RX10, "doneAfter", "(I)I"⟩
abbrev cX10_bestShip : ByteArray := prog_1_method_24_code
def yX10_bestShip : MethodName := ⟨RX10, "bestShip", "()I"⟩
abbrev cX10_extension : ByteArray := prog_1_method_25_code
def yX10_extension : MethodName := ⟨RX10, "extension", "(I)I"⟩
abbrev cX10_runScript : ByteArray := prog_1_method_26_code
def yX10_runScript : MethodName := ⟨RX10, "runScript", "(IJ)I"⟩
abbrev cX10_simulate : ByteArray := prog_1_method_27_code
def yX10_simulate : MethodName := ⟨RX10, "simulate", "(JI)I"⟩
abbrev cX10_save : ByteArray := prog_1_method_28_code
def yX10_save : MethodName := ⟨RX10, "save", "(I)I"⟩
abbrev cX10_restore : ByteArray := prog_1_method_29_code
def yX10_restore : MethodName := ⟨RX10, "restore", "(I)I"⟩
abbrev cX10_requireRange : ByteArray := prog_1_method_30_code
def yX10_requireRange : MethodName := ⟨RX10, "requireRange", "(III)V"⟩
abbrev cX10_require : ByteArray := prog_1_method_31_code
def yX10_require : MethodName := ⟨RX10, "require", "(Z)V"⟩
abbrev cX10_existingZone : ByteArray := prog_1_method_32_code
def yX10_existingZone : MethodName := ⟨RX10, "existingZone", "(LCableLanding$State;I)LCableLanding$Zone;"⟩
abbrev cX10_existingShip : ByteArray := prog_1_method_33_code
def yX10_existingShip : MethodName := ⟨RX10, "existingShip", "(I)LCableLanding$Ship;"⟩
abbrev cX10_existingSlot : ByteArray := prog_1_method_34_code
def yX10_existingSlot : MethodName := ⟨RX10, "existingSlot", "(I)LCableLanding$Slot;"⟩
def RX11 : String := "CableLandingModel"
def TX11 : u_T := fun k => match k with
  | 0 => ("CableLandingModel", "refusal", "I", false)
  | 1 => ("CableLandingModel", "text", "[I", true)
  | 2 => ("CableLandingModel", "textSize", "I", false)
  | 3 => ("CableLandingModel", "spot", "I", false)
  | 4 => ("CableLandingModel", "read", "[I", true)
  | 5 => ("CableLandingModel", "now", "[I", true)
  | 6 => ("CableLandingModel", "trial", "[I", true)
  | 7 => ("CableLandingModel", "diary", "[I", true)
  | 8 => ("CableLandingModel", "acts", "I", false)
  | 9 => ("CableLandingModel", "kept", "[I", true)
  | _ => ("CableLandingModel", "isKept", "[Z", true)
def tyX11 : Nat → FieldType := fun k => match k with
  | 0 => .int
  | 1 => .array .int
  | 2 => .int
  | 3 => .int
  | 4 => .array .int
  | 5 => .array .int
  | 6 => .array .int
  | 7 => .array .int
  | 8 => .int
  | 9 => .array .int
  | _ => .array .boolean
theorem nmX11 : ∀ a, a < 11 → ∀ b, b < 11 → a ≠ b → (TX11 a).2.1 ≠ (TX11 b).2.1 := by decide +kernel
theorem tyX11_ok : ∀ k, k < 11 → parseFieldDescriptor (TX11 k).2.2.1 = some (tyX11 k) := by decide +kernel
abbrev cX11_init : ByteArray := prog_13_method_1_code
def yX11_init : MethodName := ⟨RX11, "<init>", "()V"⟩
abbrev cX11_thrown : ByteArray := prog_13_method_2_code
def yX11_thrown : MethodName := ⟨RX11, "thrown", "()I"⟩
abbrev cX11_refused : ByteArray := prog_13_method_3_code
def yX11_refused : MethodName := ⟨RX11, "refused", "(I)Z"⟩
abbrev cX11_in : ByteArray := prog_13_method_4_code
def yX11_in : MethodName := ⟨RX11, "in", "(JJJ)Z"⟩
abbrev cX11_copyPage : ByteArray := prog_13_method_5_code
def yX11_copyPage : MethodName := ⟨RX11, "copyPage", "([II[II)V"⟩
abbrev cX11_isZone : ByteArray := prog_13_method_6_code
def yX11_isZone : MethodName := ⟨RX11, "isZone", "([II)Z"⟩
abbrev cX11_isShip : ByteArray := prog_13_method_7_code
def yX11_isShip : MethodName := ⟨RX11, "isShip", "([II)Z"⟩
abbrev cX11_zoneAt : ByteArray := prog_13_method_8_code
def yX11_zoneAt : MethodName := ⟨RX11, "zoneAt", "(I)I"⟩
abbrev cX11_shipAt : ByteArray := prog_13_method_9_code
def yX11_shipAt : MethodName := ⟨RX11, "shipAt", "(I)I"⟩
abbrev cX11_isFinished : ByteArray := prog_13_method_10_code
def yX11_isFinished : MethodName := ⟨RX11, "isFinished", "([I)Z"⟩
abbrev cX11_needOf : ByteArray := prog_13_method_11_code
def yX11_needOf : MethodName := ⟨RX11, "needOf", "([III)I"⟩
abbrev cX11_mostOf : ByteArray := prog_13_method_12_code
def yX11_mostOf : MethodName := ⟨RX11, "mostOf", "([IIII)I"⟩
abbrev cX11_wavesOf : ByteArray := prog_13_method_13_code
def yX11_wavesOf : MethodName := ⟨RX11, "wavesOf", "([II)I"⟩
abbrev cX11_frontShip : ByteArray := prog_13_method_14_code
def yX11_frontShip : MethodName := ⟨RX11, "frontShip", "([I)I"⟩
abbrev cX11_wayOf : ByteArray := prog_13_method_15_code
def yX11_wayOf : MethodName := ⟨RX11, "wayOf", "([I)I"⟩
abbrev cX11_goHome : ByteArray := prog_13_method_16_code
def yX11_goHome : MethodName := ⟨RX11, "goHome", "([III)V"⟩
abbrev cX11_freeTeams : ByteArray := prog_13_method_17_code
def yX11_freeTeams : MethodName := ⟨RX11, "freeTeams", "([I)I"⟩
abbrev cX11_restOn : ByteArray := prog_13_method_18_code
def yX11_restOn : MethodName := ⟨RX11, "restOn", "([I)V"⟩
abbrev cX11_sailOn : ByteArray := prog_13_method_19_code
def yX11_sailOn : MethodName := ⟨RX11, "sailOn", "([I)V"⟩
abbrev cX11_comeOn : ByteArray := prog_13_method_20_code
def yX11_comeOn : MethodName := ⟨RX11, "comeOn", "([I)V"⟩
abbrev cX11_layOn : ByteArray := prog_13_method_21_code
def yX11_layOn : MethodName := ⟨RX11, "layOn", "([II)I"⟩
abbrev cX11_workOn : ByteArray := prog_13_method_22_code
def yX11_workOn : MethodName := ⟨RX11, "workOn", "([II)I"⟩
abbrev cX11_dayOn : ByteArray := prog_13_method_23_code
def yX11_dayOn : MethodName := ⟨RX11, "dayOn", "([I)V"⟩
abbrev cX11_daysOn : ByteArray := prog_13_method_24_code
def yX11_daysOn : MethodName := ⟨RX11, "daysOn", "([II)I"⟩
abbrev cX11_canTake : ByteArray := prog_13_method_25_code
def yX11_canTake : MethodName := ⟨RX11, "canTake", "([III)Z"⟩
abbrev cX11_takeOn : ByteArray := prog_13_method_26_code
def yX11_takeOn : MethodName := ⟨RX11, "takeOn", "([III)V"⟩
abbrev cX11_canSend : ByteArray := prog_13_method_27_code
def yX11_canSend : MethodName := ⟨RX11, "canSend", "([II)Z"⟩
abbrev cX11_sendOn : ByteArray := prog_13_method_28_code
def yX11_sendOn : MethodName := ⟨RX11, "sendOn", "([II)I"⟩
abbrev cX11_canRecall : ByteArray := prog_13_method_29_code
def yX11_canRecall : MethodName := ⟨RX11, "canRecall", "([II)Z"⟩
abbrev cX11_recallOn : ByteArray := prog_13_method_30_code
def yX11_recallOn : MethodName := ⟨RX11, "recallOn", "([II)I"⟩
abbrev cX11_fillAndSend : ByteArray := prog_13_method_31_code
def yX11_fillAndSend : MethodName := ⟨RX11, "fillAndSend", "([II)V"⟩
abbrev cX11_append : ByteArray := prog_13_method_32_code
def yX11_append : MethodName := ⟨RX11, "append", "(I)I"⟩
abbrev cX11_clearText : ByteArray := prog_13_method_33_code
def yX11_clearText : MethodName := ⟨RX11, "clearText", "()I"⟩
abbrev cX11_eat : ByteArray := prog_13_method_34_code
def yX11_eat : MethodName := ⟨RX11, "eat", "(I)Z"⟩
abbrev cX11_put : ByteArray := prog_13_method_35_code
def yX11_put : MethodName := ⟨RX11, "put", "(IIII)Z"⟩
abbrev cX11_readZone : ByteArray := prog_13_method_36_code
def yX11_readZone : MethodName := ⟨RX11, "readZone", "()Z"⟩
abbrev cX11_readShip : ByteArray := prog_13_method_37_code
def yX11_readShip : MethodName := ⟨RX11, "readShip", "()Z"⟩
abbrev cX11_readAll : ByteArray := prog_13_method_38_code
def yX11_readAll : MethodName := ⟨RX11, "readAll", "()Z"⟩
abbrev cX11_errorPosition : ByteArray := prog_13_method_39_code
def yX11_errorPosition : MethodName := ⟨RX11, "errorPosition", "()I"⟩
abbrev cX11_load : ByteArray := prog_13_method_40_code
def yX11_load : MethodName := ⟨RX11, "load", "()I"⟩
abbrev cX11_about : ByteArray := prog_13_method_41_code
def yX11_about : MethodName := ⟨RX11, "about", "(I)I"⟩
abbrev cX11_zone : ByteArray := prog_13_method_42_code
def yX11_zone : MethodName := ⟨RX11, "zone", "(II)I"⟩
abbrev cX11_ship : ByteArray := prog_13_method_43_code
def yX11_ship : MethodName := ⟨RX11, "ship", "(II)I"⟩
abbrev cX11_waves : ByteArray := prog_13_method_44_code
def yX11_waves : MethodName := ⟨RX11, "waves", "(I)I"⟩
abbrev cX11_account : ByteArray := prog_13_method_45_code
def yX11_account : MethodName := ⟨RX11, "account", "(I)I"⟩
abbrev cX11_note : ByteArray := prog_13_method_46_code
def yX11_note : MethodName := ⟨RX11, "note", "()V"⟩
abbrev cX11_take : ByteArray := prog_13_method_47_code
def yX11_take : MethodName := ⟨RX11, "take", "(II)I"⟩
abbrev cX11_send : ByteArray := prog_13_method_48_code
def yX11_send : MethodName := ⟨RX11, "send", "(I)I"⟩
abbrev cX11_recall : ByteArray := prog_13_method_49_code
def yX11_recall : MethodName := ⟨RX11, "recall", "(I)I"⟩
abbrev cX11_canExtend : ByteArray := prog_13_method_50_code
def yX11_canExtend : MethodName := ⟨RX11, "canExtend", "([III)Z"⟩
abbrev cX11_extendOn : ByteArray := prog_13_method_51_code
def yX11_extendOn : MethodName := ⟨RX11, "extendOn", "([III)V"⟩
abbrev cX11_extend : ByteArray := prog_13_method_52_code
def yX11_extend : MethodName := ⟨RX11, "extend", "(II)I"⟩
abbrev cX11_buyOn : ByteArray := prog_13_method_53_code
def yX11_buyOn : MethodName := ⟨RX11, "buyOn", "([II)V"⟩
abbrev cX11_buy : ByteArray := prog_13_method_54_code
def yX11_buy : MethodName := ⟨RX11, "buy", "(I)I"⟩
abbrev cX11_setWaves : ByteArray := prog_13_method_55_code
def yX11_setWaves : MethodName := ⟨RX11, "setWaves", "(II)I"⟩
abbrev cX11_pass : ByteArray := prog_13_method_56_code
def yX11_pass : MethodName := ⟨RX11, "pass", "(I)I"⟩
abbrev cX11_undo : ByteArray := prog_13_method_57_code
def yX11_undo : MethodName := ⟨RX11, "undo", "()I"⟩
abbrev cX11_needs : ByteArray := prog_13_method_58_code
def yX11_needs : MethodName := ⟨RX11, "needs", "(II)I"⟩
abbrev cX11_reach : ByteArray := prog_13_method_59_code
def yX11_reach : MethodName := ⟨RX11, "reach", "(II)I"⟩
abbrev cX11_calmDays : ByteArray := prog_13_method_60_code
def yX11_calmDays : MethodName := ⟨RX11, "calmDays", "(II)I"⟩
abbrev cX11_ahead : ByteArray := prog_13_method_61_code
def yX11_ahead : MethodName := ⟨RX11, "ahead", "(II)I"⟩
abbrev cX11_doneOf : ByteArray := prog_13_method_62_code
def yX11_doneOf : MethodName := ⟨RX11, "doneOf", "(I)I"⟩
abbrev cX11_doneAfter : ByteArray := prog_13_method_63_code
def yX11_doneAfter : MethodName := ⟨RX11, "doneAfter", "(I)I"⟩
abbrev cX11_bestShip : ByteArray := prog_13_method_64_code
def yX11_bestShip : MethodName := ⟨RX11, "bestShip", "()I"⟩
abbrev cX11_extension : ByteArray := prog_13_method_65_code
def yX11_extension : MethodName := ⟨RX11, "extension", "(I)I"⟩
abbrev cX11_does : ByteArray := prog_13_method_66_code
def yX11_does : MethodName := ⟨RX11, "does", "(IIII)Z"⟩
abbrev cX11_runScript : ByteArray := prog_13_method_67_code
def yX11_runScript : MethodName := ⟨RX11, "runScript", "(IJ)I"⟩
abbrev cX11_simulate : ByteArray := prog_13_method_68_code
def yX11_simulate : MethodName := ⟨RX11, "simulate", "(JI)I"⟩
abbrev cX11_save : ByteArray := prog_13_method_69_code
def yX11_save : MethodName := ⟨RX11, "save", "(I)I"⟩
abbrev cX11_restore : ByteArray := prog_13_method_70_code
def yX11_restore : MethodName := ⟨RX11, "restore", "(I)I"⟩
def RL : String := "CableLandingLaw"
abbrev cL_append : ByteArray := method_3_code
def yL_append : MethodName := ⟨RL, "append", "(LCableLanding;I[J)I"⟩
abbrev cL_load : ByteArray := method_4_code
def yL_load : MethodName := ⟨RL, "load", "(LCableLanding;[J)I"⟩
abbrev cL_about : ByteArray := method_5_code
def yL_about : MethodName := ⟨RL, "about", "(LCableLanding;I[J)I"⟩
abbrev cL_zone : ByteArray := method_6_code
def yL_zone : MethodName := ⟨RL, "zone", "(LCableLanding;II[J)I"⟩
abbrev cL_ship : ByteArray := method_7_code
def yL_ship : MethodName := ⟨RL, "ship", "(LCableLanding;II[J)I"⟩
abbrev cL_waves : ByteArray := method_8_code
def yL_waves : MethodName := ⟨RL, "waves", "(LCableLanding;I[J)I"⟩
abbrev cL_account : ByteArray := method_9_code
def yL_account : MethodName := ⟨RL, "account", "(LCableLanding;I[J)I"⟩
abbrev cL_take : ByteArray := method_10_code
def yL_take : MethodName := ⟨RL, "take", "(LCableLanding;II[J)I"⟩
abbrev cL_send : ByteArray := method_11_code
def yL_send : MethodName := ⟨RL, "send", "(LCableLanding;I[J)I"⟩
abbrev cL_recall : ByteArray := method_12_code
def yL_recall : MethodName := ⟨RL, "recall", "(LCableLanding;I[J)I"⟩
abbrev cL_extend : ByteArray := method_13_code
def yL_extend : MethodName := ⟨RL, "extend", "(LCableLanding;II[J)I"⟩
abbrev cL_buy : ByteArray := method_14_code
def yL_buy : MethodName := ⟨RL, "buy", "(LCableLanding;I[J)I"⟩
abbrev cL_setWaves : ByteArray := method_15_code
def yL_setWaves : MethodName := ⟨RL, "setWaves", "(LCableLanding;II[J)I"⟩
abbrev cL_pass : ByteArray := method_16_code
def yL_pass : MethodName := ⟨RL, "pass", "(LCableLanding;I[J)I"⟩
abbrev cL_undo : ByteArray := method_17_code
def yL_undo : MethodName := ⟨RL, "undo", "(LCableLanding;[J)I"⟩
abbrev cL_needs : ByteArray := method_18_code
def yL_needs : MethodName := ⟨RL, "needs", "(LCableLanding;II[J)I"⟩
abbrev cL_reach : ByteArray := method_19_code
def yL_reach : MethodName := ⟨RL, "reach", "(LCableLanding;II[J)I"⟩
abbrev cL_calmDays : ByteArray := method_20_code
def yL_calmDays : MethodName := ⟨RL, "calmDays", "(LCableLanding;II[J)I"⟩
abbrev cL_ahead : ByteArray := method_21_code
def yL_ahead : MethodName := ⟨RL, "ahead", "(LCableLanding;II[J)I"⟩
abbrev cL_doneAfter : ByteArray := method_22_code
def yL_doneAfter : MethodName := ⟨RL, "doneAfter", "(LCableLanding;I[J)I"⟩
abbrev cL_extension : ByteArray := method_23_code
def yL_extension : MethodName := ⟨RL, "extension", "(LCableLanding;I[J)I"⟩
abbrev cL_runScript : ByteArray := method_24_code
def yL_runScript : MethodName := ⟨RL, "runScript", "(LCableLanding;IJ[J)I"⟩
abbrev cL_simulate : ByteArray := method_25_code
def yL_simulate : MethodName := ⟨RL, "simulate", "(LCableLanding;JI[J)I"⟩
abbrev cL_save : ByteArray := method_26_code
def yL_save : MethodName := ⟨RL, "save", "(LCableLanding;I[J)I"⟩
abbrev cL_restore : ByteArray := method_27_code
def yL_restore : MethodName := ⟨RL, "restore", "(LCableLanding;I[J)I"⟩
abbrev cL_law : ByteArray := code
def yL_law : MethodName := ⟨RL, "law", "([I)Z"⟩
abbrev vwCl : List vw_C := [(RX0, TX0, 3), (RX1, TX1, 7), (RX3, TX3, 8), (RX4, TX4, 2), (RX5, TX5, 12), (RX6, TX6, 7), (RX7, TX7, 4), (RX8, TX8, 2), (RX9, TX9, 4), (RX10, TX10, 5), (RX11, TX11, 11)]
end
section
/-! ===== my own judgement over the kit's W: a memory of ints by address and place, a skeleton of kinds and references ===== -/
def zw (w : Cond) : Bool := goodWord w || (match w with | .methodLinkNest .. => true | .castable .. => true | .declares _ => true | .arrayOver (.object _) => true | _ => false)
theorem zw_at {args a' : Array Value} {s U : State} {w : Cond} (hW : s.WarmedH U.vm) (hg : zw w = true) (h : w.before args s = true) : w.before a' U = true := by
  by_cases g : goodWord w = true
  · exact word_at hW (good_of_word g) h
  · unfold zw at hg
    rw [Bool.or_eq_true] at hg
    rcases hg with hg | hg
    · exact absurd hg g
    · split at hg
      · exact va_Nw.use rfl (va_Nw.warmM hW (va_Nw.of rfl h))
      · exact va_Nw.use rfl (va_Nw.warmC hW (va_Nw.of rfl h))
      · exact va_Nw.use rfl (va_Nw.warmD hW (va_Nw.of rfl h))
      · exact va_AO.use (va_AO.moved hW.alike (va_AO.of h))
      · cases hg
def zWs : List Cond := lw_tbl.filter zw
theorem zq (w : Cond) (i : Nat) (h : lw_tbl[i]? = some w) (hz : zw w = true) : w ∈ zWs := List.mem_filter.mpr ⟨List.mem_of_getElem? h, hz⟩
abbrev zMi : Type := Nat → Nat → Int32
abbrev zMl : Type := Nat → Nat → Int64
abbrev zSk : Type := (Nat → Option (Nat ⊕ (Nat × Nat))) × (Nat → Nat → Option Nat)
abbrev zEn : Type := va_G × (Nat → ClassId) × Nat
def wI (M : zMi) (a j : Nat) (v : Int32) : zMi := fun q k => if q = a ∧ k = j then v else M q k
def wL (X : zMl) (a j : Nat) (v : Int64) : zMl := fun q k => if q = a ∧ k = j then v else X q k
def wR (S : zSk) (a j : Nat) (v : Nat) : zSk := (S.1, fun q k => if q = a ∧ k = j then some v else S.2 q k)
def ztyp (t : Nat) : FieldType := match t with | 0 => .int | 1 => .char | 2 => .boolean | 3 => .long | 4 => .object "CableLanding$Ship" | 5 => .object "CableLanding$Slot" | 6 => .object "CableLanding$State" | _ => .object "CableLanding$Zone"
def ztys (E : zEn) : List (ClassId × FieldType) := [(E.2.1 0, .int), (E.2.1 1, .char), (E.2.1 2, .boolean), (E.2.1 3, .long), (E.2.1 4, .object "CableLanding$Ship"), (E.2.1 5, .object "CableLanding$Slot"), (E.2.1 6, .object "CableLanding$State"), (E.2.1 7, .object "CableLanding$Zone")]
def zisR (ci j : Nat) : Bool := match ci with | 0 => decide (j = 0) | 1 => false | 2 => false | 3 => decide (j = 0) | 4 => decide (j = 0) || decide (j = 1) || decide (j = 2) || decide (j = 3) || decide (j = 4) | 5 => decide (j = 2) | 6 => decide (j = 0) | 7 => decide (j = 1) | 8 => false | 9 => decide (j = 0) || decide (j = 1) || decide (j = 2) || decide (j = 3) || decide (j = 4) | 10 => decide (j = 1) || decide (j = 4) || decide (j = 5) || decide (j = 6) || decide (j = 7) || decide (j = 9) || decide (j = 10) | _ => false
def zStr : List (String × Nat × String) := [("CableLanding", 144, "no such number"), ("CableLanding", 171, "no such number of a zone"), ("CableLanding", 201, "no such number of a ship"), ("CableLanding", 235, "no such account"), ("CableLanding", 315, "the script has other digits"), ("CableLanding", 337, "out of range"), ("CableLanding", 341, "not allowed now"), ("CableLanding", 350, "no such zone"), ("CableLanding", 356, "no such ship"), ("CableLanding", 358, "no such save slot")]
def zelt (t : Nat) (Ma : Nat → Int32) (Xa : Nat → Int64) (Ra : Nat → Option Nat) : Nat → Value := fun j => if t = 3 then .long (Xa j) else if t < 3 then .int (Ma j) else va_rf (Ra j)
def zfld (ci : Nat) (Ma : Nat → Int32) (Ra : Nat → Option Nat) : Nat → Value := fun j => if zisR ci j = true then va_rf (Ra j) else .int (Ma j)
def zok (E : zEn) (M : zMi) (X : zMl) (Rf : Nat → Nat → Option Nat) (H : Heap) (a : Nat) : Nat ⊕ (Nat × Nat) → Prop
  | .inl ci => ∃ r : vw_C, vwCl[ci]? = some r ∧ t_OB a (E.1.1 ci) r.2.2 (E.1.2 ci) H (zfld ci (M a) (Rf a))
  | .inr q => H[a]? = some (arrV (E.2.1 q.1) q.2 (zelt q.1 (M a) (X a) (Rf a)))
def zRp (E : zEn) (S : zSk) (M : zMi) (X : zMl) (H : Heap) : Prop := ∀ (a : Nat) (k : Nat ⊕ (Nat × Nat)), S.1 a = some k → E.2.2 ≤ a ∧ zok E M X S.2 H a k
def zKK (E : zEn) (U : State) : Prop :=
  E.2.2 ≤ U.heap.size ∧ va_K E.1 vwCl (ztys E) U ∧ (∀ w ∈ zWs, w.before #[] U = true) ∧ vx_Zq Bundle.tN "UNASSIGNED_STACK" Bundle.steD (fun q => E.2.2 ≤ q) U U.heap ∧ vx_Zq Bundle.tN "SUPPRESSED_SENTINEL" Bundle.listD (fun q => E.2.2 ≤ q) U U.heap ∧ ∀ q ∈ zStr, ∃ a, vk_R q.1 q.2.1 q.2.2 a U
theorem zKK.warm {E : zEn} {s U : State} (h : zKK E s) (hW : s.WarmedH U.vm) (hz : s.heap.size ≤ U.heap.size) (hH : ∀ q : Nat, q < s.heap.size → ¬ E.2.2 ≤ q → U.heap[q]? = s.heap[q]?) : zKK E U := by
  obtain ⟨h1, h2, h3, h4, h5, h6⟩ := h
  refine ⟨Nat.le_trans h1 hz, h2.moved hW.alike, fun w hw => zw_at hW (List.mem_filter.mp hw).2 (h3 w hw), vx_Zq.moved hW.alike (h4.kept hH), vx_Zq.moved hW.alike (h5.kept hH), fun q hq => ?_⟩
  obtain ⟨a, ha⟩ := h6 q hq
  exact ⟨a, vk_R.warm hW ha⟩
theorem zok.kept {E : zEn} {M : zMi} {X : zMl} {Rf : Nat → Nat → Option Nat} {H H1 : Heap} {a : Nat} {k : Nat ⊕ (Nat × Nat)} (h : zok E M X Rf H a k) (h1 : H1[a]? = H[a]?) : zok E M X Rf H1 a k := by
  cases k with
  | inl ci => obtain ⟨r, e1, e2⟩ := h; exact ⟨r, e1, e2.kept h1⟩
  | inr q => exact h1.trans h
theorem zok.lt {E : zEn} {M : zMi} {X : zMl} {Rf : Nat → Nat → Option Nat} {H : Heap} {a : Nat} {k : Nat ⊕ (Nat × Nat)} (h : zok E M X Rf H a k) : a < H.size := by
  cases k with
  | inl ci => obtain ⟨r, e1, cell, e2, -⟩ := h; exact (Array.getElem?_eq_some_iff.mp e2).1
  | inr q => exact (Array.getElem?_eq_some_iff.mp h).1
/-- one cell changes -/
theorem zRp.set {E : zEn} {S S' : zSk} {M M' : zMi} {X X' : zMl} {H H1 : Heap} {a : Nat} {k : Nat ⊕ (Nat × Nat)} (h : zRp E S M X H) (hk : S.1 a = some k) (hS : S'.1 = S.1) (oq : ∀ q : Nat, q ≠ a → H1[q]? = H[q]?) (oM : ∀ q : Nat, q ≠ a → M' q = M q ∧ X' q = X q ∧ S'.2 q = S.2 q) (he : zok E M' X' S'.2 H1 a k) : zRp E S' M' X' H1 := by
  intro q kq hq
  rw [hS] at hq
  obtain ⟨g1, g2⟩ := h q kq hq
  refine ⟨g1, ?_⟩
  by_cases hqa : q = a
  · subst hqa
    cases Option.some.inj (hq.symm.trans hk)
    exact he
  · obtain ⟨e1, e2, e3⟩ := oM q hqa
    have g3 := g2.kept (oq q hqa)
    cases kq with
    | inl ci => obtain ⟨r, x1, x2⟩ := g3; exact ⟨r, x1, by rw [e1, e3]; exact x2⟩
    | inr z => show H1[q]? = _; rw [e1, e2, e3]; exact g3
theorem wI_ne {M : zMi} {a j : Nat} {v : Int32} {q : Nat} (h : q ≠ a) : wI M a j v q = M q := by funext k; simp [wI, h]
theorem wL_ne {M : zMl} {a j : Nat} {v : Int64} {q : Nat} (h : q ≠ a) : wL M a j v q = M q := by funext k; simp [wL, h]
theorem wR_ne {S : zSk} {a j : Nat} {v : Nat} {q : Nat} (h : q ≠ a) : (wR S a j v).2 q = S.2 q := by funext k; simp [wR, h]
/-- the frame of a method: program, launch, environment, room, start, method, arguments, the frames below, what the method is, its code -/
abbrev zCx : Type := Program × Launch × Env × Room × State × MethodId × Array Value × List Frame × Method × Code
abbrev gP (Γ : zCx) := Γ.1
abbrev gL (Γ : zCx) := Γ.2.1
abbrev gE (Γ : zCx) := Γ.2.2.1
abbrev gR (Γ : zCx) := Γ.2.2.2.1
abbrev gS (Γ : zCx) := Γ.2.2.2.2.1
abbrev gM (Γ : zCx) := Γ.2.2.2.2.2.1
abbrev gA (Γ : zCx) := Γ.2.2.2.2.2.2.1
abbrev gB (Γ : zCx) := Γ.2.2.2.2.2.2.2.1
abbrev gH (Γ : zCx) := Γ.2.2.2.2.2.2.2.2.1
abbrev gC (Γ : zCx) := Γ.2.2.2.2.2.2.2.2.2
abbrev zlo (E : zEn) : Nat → Prop := fun q => E.2.2 ≤ q
def zG (Γ : zCx) (Q : State → Prop) (E : zEn) (nL kc ks : Nat) (S : zSk) (Z : Nat → Prop) (M : zMi) (X : zMl) (pc : Nat) (L : List (Nat × Value)) (st : List Value) : Prop :=
  ∀ (ls : Array Slot) (H : Heap) (locs : List Loc), lv_has ls nL L → Z H.size → zRp E S M X H → va_S (zlo E) (gS Γ).heap H locs →
    W (gP Γ) (gL Γ) (gE Γ) (gR Γ) (gS Γ) (gM Γ) (gA Γ) (gB Γ) (gH Γ) (gC Γ) H locs kc ks Q (F0 (gM Γ) pc ls st)
def zCt (Γ : zCx) (E : zEn) (own : String) (cc : ByteArray) (nL : Nat) (ret : Option FieldType) (hh : List (Nat × Nat × Nat × Nat)) (rm : Room) : Prop :=
  (gP Γ).tables.exec = Jvm.exec ∧ (gC Γ).code = cc ∧ (gC Γ).maxLocals = nL ∧ (gS Γ).vm.findClass own = some (gM Γ).cls ∧ (gH Γ).sig.returnType = ret ∧ (gH Γ).locks = false ∧ (∀ w ∈ zWs, w.before (gA Γ) (gS Γ) = true) ∧ zKK E (gS Γ) ∧ (gC Γ).exceptionTable.toList = tableOf hh ∧ (gL Γ).stackTraces = false ∧ gR Γ = rm
/-- a class, as the tables have it -/
def zcl (ci : Nat) (C : String) (T : u_T) (N : Nat) (ty : Nat → FieldType) : Prop := vwCl[ci]? = some (C, T, N) ∧ (∀ w ∈ u_ws C T N, w ∈ zWs) ∧ (∀ k, k < N → parseFieldDescriptor (T k).2.2.1 = some (ty k)) ∧ ∀ a, a < N → ∀ b, b < N → a ≠ b → (T a).2.1 ≠ (T b).2.1
def ZT : Nat → Prop := fun _ => True
def grd {β : Type} (b : Bool) (k : Option β) : Option β := if b = true then k else none
def bnd {α β : Type} (x : α) (k : α → β) : β := k x
def inb (i : Int32) (n : Nat) : Bool := decide (0 ≤ i.toInt) && decide (i.toInt < n)
def zb (v : Int32) : Bool := decide (v = 0) || decide (v = 1)
def ix (i : Int32) : Nat := i.toNatClampNeg
theorem grd_some {β : Type} {b : Bool} {k : Option β} {r : β} (h : grd b k = some r) : b = true ∧ k = some r := by
  unfold grd at h
  split at h
  · next e => exact ⟨e, h⟩
  · cases h
theorem inb_in {i : Int32} {n : Nat} (h : inb i n = true) : vp_in i n := by
  simp only [inb, Bool.and_eq_true, decide_eq_true_eq] at h
  exact vp_in_iff.mpr h
theorem zb_or {v : Int32} (h : zb v = true) : v = 0 ∨ v = 1 := by simpa [zb] using h
theorem zb_nar {v : Int32} (h : zb v = true) : narrow .boolean (.int v) = .int v := by rcases zb_or h with rfl | rfl <;> rfl
theorem zb_fit {v : Int32} (h : zb v = true) : fits .boolean (.int v) = true := by rcases zb_or h with rfl | rfl <;> rfl
section ZR
variable {Γ : zCx} {Q : State → Prop} {E : zEn} {nL kc ks : Nat} {S : zSk} {Z : Nat → Prop} {M : zMi} {X : zMl} {pc : Nat} {L : List (Nat × Value)} {st : List Value} {own : String} {cc : ByteArray} {ret : Option FieldType} {hh : List (Nat × Nat × Nat × Nat)} {rm : Room}

theorem r_iconst (C0 : zCt Γ E own cc nL ret hh rm) {n : Int} {v : Int32} (d : decode cc pc = .ok (.iconst n, 1)) (hv : Int32.ofInt n = v) (k : zG Γ Q E nL kc ks S Z M X (pc + 1) L (.int v :: st)) : zG Γ Q E nL kc ks S Z M X pc L st := by
  obtain ⟨hx, hb, hml, hown, hr, hlk, hts, hKK, hht, htr, hrm⟩ := C0
  intro ls H locs hl hz hP hS
  exact lv_iconst hx hb d hv (k ls H locs hl hz hP hS)
theorem r_bipush (C0 : zCt Γ E own cc nL ret hh rm) {n : Int} {v : Int32} (d : decode cc pc = .ok (.bipush n, 2)) (hv : (Int8.ofInt n).toInt32 = v) (k : zG Γ Q E nL kc ks S Z M X (pc + 2) L (.int v :: st)) : zG Γ Q E nL kc ks S Z M X pc L st := by
  obtain ⟨hx, hb, hml, hown, hr, hlk, hts, hKK, hht, htr, hrm⟩ := C0
  intro ls H locs hl hz hP hS
  exact lv_bipush hx hb d hv (k ls H locs hl hz hP hS)
theorem r_sipush (C0 : zCt Γ E own cc nL ret hh rm) {n : Int} {v : Int32} (d : decode cc pc = .ok (.sipush n, 3)) (hv : (Int16.ofInt n).toInt32 = v) (k : zG Γ Q E nL kc ks S Z M X (pc + 3) L (.int v :: st)) : zG Γ Q E nL kc ks S Z M X pc L st := by
  obtain ⟨hx, hb, hml, hown, hr, hlk, hts, hKK, hht, htr, hrm⟩ := C0
  intro ls H locs hl hz hP hS
  exact lv_sipush hx hb d hv (k ls H locs hl hz hP hS)
theorem r_lconst (C0 : zCt Γ E own cc nL ret hh rm) {n : Fin 2} {v : Int64} (d : decode cc pc = .ok (.lconst n, 1)) (hv : Int64.ofNat (n : Nat) = v) (k : zG Γ Q E nL kc ks S Z M X (pc + 1) L (.long v :: st)) : zG Γ Q E nL kc ks S Z M X pc L st := by
  obtain ⟨hx, hb, hml, hown, hr, hlk, hts, hKK, hht, htr, hrm⟩ := C0
  intro ls H locs hl hz hP hS
  exact lv_lconst hx hb d hv (k ls H locs hl hz hP hS)
theorem r_null (C0 : zCt Γ E own cc nL ret hh rm) (d : decode cc pc = .ok (.aconst_null, 1)) (k : zG Γ Q E nL kc ks S Z M X (pc + 1) L (.null :: st)) : zG Γ Q E nL kc ks S Z M X pc L st := by
  obtain ⟨hx, hb, hml, hown, hr, hlk, hts, hKK, hht, htr, hrm⟩ := C0
  intro ls H locs hl hz hP hS
  exact lv_null hx hb d (k ls H locs hl hz hP hS)
theorem r_ldc2 (C0 : zCt Γ E own cc nL ret hh rm) {index : Nat} {v : Int64} (hw : Cond.constantLong own index v ∈ zWs) (d : decode cc pc = .ok (.ldc2_w index, 3)) (k : zG Γ Q E nL kc ks S Z M X (pc + 3) L (.long v :: st)) : zG Γ Q E nL kc ks S Z M X pc L st := by
  obtain ⟨hx, hb, hml, hown, hr, hlk, hts, hKK, hht, htr, hrm⟩ := C0
  intro ls H locs hl hz hP hS
  exact lv_ldc2 hx hb hown (hts _ hw) d (k ls H locs hl hz hP hS)
theorem r_iload_n (C0 : zCt Γ E own cc nL ret hh rm) {k0 : Fin 4} {i : Nat} {x : Int32} (d : decode cc pc = .ok (.iload_n k0, 1)) (hi : (k0 : Nat) = i) (j : Nat) (hj : L[j]? = some (i, .int x)) (k : zG Γ Q E nL kc ks S Z M X (pc + 1) L (.int x :: st)) : zG Γ Q E nL kc ks S Z M X pc L st := by
  obtain ⟨hx, hb, hml, hown, hr, hlk, hts, hKK, hht, htr, hrm⟩ := C0
  intro ls H locs hl hz hP hS
  exact lv_iload_n hx hb d hi (lv_at hl j hj) (k ls H locs hl hz hP hS)
theorem r_iload (C0 : zCt Γ E own cc nL ret hh rm) {i : Nat} {x : Int32} (d : decode cc pc = .ok (.iload i, 2)) (j : Nat) (hj : L[j]? = some (i, .int x)) (k : zG Γ Q E nL kc ks S Z M X (pc + 2) L (.int x :: st)) : zG Γ Q E nL kc ks S Z M X pc L st := by
  obtain ⟨hx, hb, hml, hown, hr, hlk, hts, hKK, hht, htr, hrm⟩ := C0
  intro ls H locs hl hz hP hS
  exact lv_iload hx hb d (lv_at hl j hj) (k ls H locs hl hz hP hS)
theorem r_lload_n (C0 : zCt Γ E own cc nL ret hh rm) {k0 : Fin 4} {i : Nat} {x : Int64} (d : decode cc pc = .ok (.lload_n k0, 1)) (hi : (k0 : Nat) = i) (j : Nat) (hj : L[j]? = some (i, .long x)) (k : zG Γ Q E nL kc ks S Z M X (pc + 1) L (.long x :: st)) : zG Γ Q E nL kc ks S Z M X pc L st := by
  obtain ⟨hx, hb, hml, hown, hr, hlk, hts, hKK, hht, htr, hrm⟩ := C0
  intro ls H locs hl hz hP hS
  exact lv_lload_n hx hb d hi (lv_at hl j hj) (k ls H locs hl hz hP hS)
theorem r_lload (C0 : zCt Γ E own cc nL ret hh rm) {i : Nat} {x : Int64} (d : decode cc pc = .ok (.lload i, 2)) (j : Nat) (hj : L[j]? = some (i, .long x)) (k : zG Γ Q E nL kc ks S Z M X (pc + 2) L (.long x :: st)) : zG Γ Q E nL kc ks S Z M X pc L st := by
  obtain ⟨hx, hb, hml, hown, hr, hlk, hts, hKK, hht, htr, hrm⟩ := C0
  intro ls H locs hl hz hP hS
  exact lv_lload hx hb d (lv_at hl j hj) (k ls H locs hl hz hP hS)
theorem r_aload_n (C0 : zCt Γ E own cc nL ret hh rm) {k0 : Fin 4} {i : Nat} {x : Nat} (d : decode cc pc = .ok (.aload_n k0, 1)) (hi : (k0 : Nat) = i) (j : Nat) (hj : L[j]? = some (i, .ref x)) (k : zG Γ Q E nL kc ks S Z M X (pc + 1) L (.ref x :: st)) : zG Γ Q E nL kc ks S Z M X pc L st := by
  obtain ⟨hx, hb, hml, hown, hr, hlk, hts, hKK, hht, htr, hrm⟩ := C0
  intro ls H locs hl hz hP hS
  exact lv_aload_n hx hb d hi (lv_at hl j hj) (k ls H locs hl hz hP hS)
theorem r_aload (C0 : zCt Γ E own cc nL ret hh rm) {i : Nat} {x : Nat} (d : decode cc pc = .ok (.aload i, 2)) (j : Nat) (hj : L[j]? = some (i, .ref x)) (k : zG Γ Q E nL kc ks S Z M X (pc + 2) L (.ref x :: st)) : zG Γ Q E nL kc ks S Z M X pc L st := by
  obtain ⟨hx, hb, hml, hown, hr, hlk, hts, hKK, hht, htr, hrm⟩ := C0
  intro ls H locs hl hz hP hS
  exact lv_aload hx hb d (lv_at hl j hj) (k ls H locs hl hz hP hS)
theorem r_aloadN_n (C0 : zCt Γ E own cc nL ret hh rm) {k0 : Fin 4} {i : Nat} (d : decode cc pc = .ok (.aload_n k0, 1)) (hi : (k0 : Nat) = i) (j : Nat) (hj : L[j]? = some (i, .null)) (k : zG Γ Q E nL kc ks S Z M X (pc + 1) L (.null :: st)) : zG Γ Q E nL kc ks S Z M X pc L st := by
  obtain ⟨hx, hb, hml, hown, hr, hlk, hts, hKK, hht, htr, hrm⟩ := C0
  intro ls H locs hl hz hP hS
  exact lv_aload_nN hx hb d hi (lv_at hl j hj) (k ls H locs hl hz hP hS)
theorem r_aloadN (C0 : zCt Γ E own cc nL ret hh rm) {i : Nat} (d : decode cc pc = .ok (.aload i, 2)) (j : Nat) (hj : L[j]? = some (i, .null)) (k : zG Γ Q E nL kc ks S Z M X (pc + 2) L (.null :: st)) : zG Γ Q E nL kc ks S Z M X pc L st := by
  obtain ⟨hx, hb, hml, hown, hr, hlk, hts, hKK, hht, htr, hrm⟩ := C0
  intro ls H locs hl hz hP hS
  exact lv_aloadN hx hb d (lv_at hl j hj) (k ls H locs hl hz hP hS)
theorem r_istore_n (C0 : zCt Γ E own cc nL ret hh rm) {k0 : Fin 4} {i : Nat} {x : Int32} {L' : List (Nat × Value)} (d : decode cc pc = .ok (.istore_n k0, 1)) (hi : (k0 : Nat) = i) (hn : i < nL) (hL : (i, Value.int x) :: L.filter (fun q => !(q.1 == i) && !(q.1 + 1 == i && q.2.category == 2)) = L') (k : zG Γ Q E nL kc ks S Z M X (pc + 1) L' st) : zG Γ Q E nL kc ks S Z M X pc L (.int x :: st) := by
  obtain ⟨hx, hb, hml, hown, hr, hlk, hts, hKK, hht, htr, hrm⟩ := C0
  intro ls H locs hl hz hP hS
  exact lv_istore_n hx hb d hi hl hn hL (fun ls1 hl1 => k ls1 H locs hl1 hz hP hS)
theorem r_istore (C0 : zCt Γ E own cc nL ret hh rm) {i : Nat} {x : Int32} {L' : List (Nat × Value)} (d : decode cc pc = .ok (.istore i, 2)) (hn : i < nL) (hL : (i, Value.int x) :: L.filter (fun q => !(q.1 == i) && !(q.1 + 1 == i && q.2.category == 2)) = L') (k : zG Γ Q E nL kc ks S Z M X (pc + 2) L' st) : zG Γ Q E nL kc ks S Z M X pc L (.int x :: st) := by
  obtain ⟨hx, hb, hml, hown, hr, hlk, hts, hKK, hht, htr, hrm⟩ := C0
  intro ls H locs hl hz hP hS
  exact lv_istore hx hb d hl hn hL (fun ls1 hl1 => k ls1 H locs hl1 hz hP hS)
theorem r_lstore_n (C0 : zCt Γ E own cc nL ret hh rm) {k0 : Fin 4} {i : Nat} {x : Int64} {L' : List (Nat × Value)} (d : decode cc pc = .ok (.lstore_n k0, 1)) (hi : (k0 : Nat) = i) (hn : i + 1 < nL) (hL : (i, Value.long x) :: L.filter (fun q => !(q.1 == i) && (!(q.1 == i + 1) && !(q.1 + 1 == i && q.2.category == 2))) = L') (k : zG Γ Q E nL kc ks S Z M X (pc + 1) L' st) : zG Γ Q E nL kc ks S Z M X pc L (.long x :: st) := by
  obtain ⟨hx, hb, hml, hown, hr, hlk, hts, hKK, hht, htr, hrm⟩ := C0
  intro ls H locs hl hz hP hS
  exact lv_lstore_n hx hb d hi hl hn hL (fun ls1 hl1 => k ls1 H locs hl1 hz hP hS)
theorem r_lstore (C0 : zCt Γ E own cc nL ret hh rm) {i : Nat} {x : Int64} {L' : List (Nat × Value)} (d : decode cc pc = .ok (.lstore i, 2)) (hn : i + 1 < nL) (hL : (i, Value.long x) :: L.filter (fun q => !(q.1 == i) && (!(q.1 == i + 1) && !(q.1 + 1 == i && q.2.category == 2))) = L') (k : zG Γ Q E nL kc ks S Z M X (pc + 2) L' st) : zG Γ Q E nL kc ks S Z M X pc L (.long x :: st) := by
  obtain ⟨hx, hb, hml, hown, hr, hlk, hts, hKK, hht, htr, hrm⟩ := C0
  intro ls H locs hl hz hP hS
  exact lv_lstore hx hb d hl hn hL (fun ls1 hl1 => k ls1 H locs hl1 hz hP hS)
theorem r_astore_n (C0 : zCt Γ E own cc nL ret hh rm) {k0 : Fin 4} {i : Nat} {x : Nat} {L' : List (Nat × Value)} (d : decode cc pc = .ok (.astore_n k0, 1)) (hi : (k0 : Nat) = i) (hn : i < nL) (hL : (i, Value.ref x) :: L.filter (fun q => !(q.1 == i) && !(q.1 + 1 == i && q.2.category == 2)) = L') (k : zG Γ Q E nL kc ks S Z M X (pc + 1) L' st) : zG Γ Q E nL kc ks S Z M X pc L (.ref x :: st) := by
  obtain ⟨hx, hb, hml, hown, hr, hlk, hts, hKK, hht, htr, hrm⟩ := C0
  intro ls H locs hl hz hP hS
  exact lv_astore_n hx hb d hi hl hn hL (fun ls1 hl1 => k ls1 H locs hl1 hz hP hS)
theorem r_astore (C0 : zCt Γ E own cc nL ret hh rm) {i : Nat} {x : Nat} {L' : List (Nat × Value)} (d : decode cc pc = .ok (.astore i, 2)) (hn : i < nL) (hL : (i, Value.ref x) :: L.filter (fun q => !(q.1 == i) && !(q.1 + 1 == i && q.2.category == 2)) = L') (k : zG Γ Q E nL kc ks S Z M X (pc + 2) L' st) : zG Γ Q E nL kc ks S Z M X pc L (.ref x :: st) := by
  obtain ⟨hx, hb, hml, hown, hr, hlk, hts, hKK, hht, htr, hrm⟩ := C0
  intro ls H locs hl hz hP hS
  exact lv_astore hx hb d hl hn hL (fun ls1 hl1 => k ls1 H locs hl1 hz hP hS)
theorem r_astoreN_n (C0 : zCt Γ E own cc nL ret hh rm) {k0 : Fin 4} {i : Nat} {L' : List (Nat × Value)} (d : decode cc pc = .ok (.astore_n k0, 1)) (hi : (k0 : Nat) = i) (hn : i < nL) (hL : (i, Value.null) :: L.filter (fun q => !(q.1 == i) && !(q.1 + 1 == i && q.2.category == 2)) = L') (k : zG Γ Q E nL kc ks S Z M X (pc + 1) L' st) : zG Γ Q E nL kc ks S Z M X pc L (.null :: st) := by
  obtain ⟨hx, hb, hml, hown, hr, hlk, hts, hKK, hht, htr, hrm⟩ := C0
  intro ls H locs hl hz hP hS
  exact lv_astore_nN hx hb d hi hl hn hL (fun ls1 hl1 => k ls1 H locs hl1 hz hP hS)
theorem r_astoreN (C0 : zCt Γ E own cc nL ret hh rm) {i : Nat} {L' : List (Nat × Value)} (d : decode cc pc = .ok (.astore i, 2)) (hn : i < nL) (hL : (i, Value.null) :: L.filter (fun q => !(q.1 == i) && !(q.1 + 1 == i && q.2.category == 2)) = L') (k : zG Γ Q E nL kc ks S Z M X (pc + 2) L' st) : zG Γ Q E nL kc ks S Z M X pc L (.null :: st) := by
  obtain ⟨hx, hb, hml, hown, hr, hlk, hts, hKK, hht, htr, hrm⟩ := C0
  intro ls H locs hl hz hP hS
  exact lv_astoreN hx hb d hl hn hL (fun ls1 hl1 => k ls1 H locs hl1 hz hP hS)
theorem r_iinc (C0 : zCt Γ E own cc nL ret hh rm) {i j : Nat} {n : Int} {x v : Int32} {L' : List (Nat × Value)} (d : decode cc pc = .ok (.iinc i n, 3)) (hj : L[j]? = some (i, .int x)) (hv : x + Int32.ofInt n = v) (hn : i < nL) (hL : (i, Value.int v) :: L.filter (fun q => !(q.1 == i) && !(q.1 + 1 == i && q.2.category == 2)) = L') (k : zG Γ Q E nL kc ks S Z M X (pc + 3) L' st) : zG Γ Q E nL kc ks S Z M X pc L st := by
  obtain ⟨hx, hb, hml, hown, hr, hlk, hts, hKK, hht, htr, hrm⟩ := C0
  intro ls H locs hl hz hP hS
  exact lv_iinc hx hb d hl hj hv hn hL (fun ls1 hl1 => k ls1 H locs hl1 hz hP hS)
theorem r_iadd (C0 : zCt Γ E own cc nL ret hh rm) {x y : Int32} (d : decode cc pc = .ok (.iadd, 1)) (k : zG Γ Q E nL kc ks S Z M X (pc + 1) L (.int (x + y) :: st)) : zG Γ Q E nL kc ks S Z M X pc L (.int y :: .int x :: st) := by
  obtain ⟨hx, hb, hml, hown, hr, hlk, hts, hKK, hht, htr, hrm⟩ := C0
  intro ls H locs hl hz hP hS
  exact lv_iadd hx hb d (k ls H locs hl hz hP hS)
theorem r_isub (C0 : zCt Γ E own cc nL ret hh rm) {x y : Int32} (d : decode cc pc = .ok (.isub, 1)) (k : zG Γ Q E nL kc ks S Z M X (pc + 1) L (.int (x - y) :: st)) : zG Γ Q E nL kc ks S Z M X pc L (.int y :: .int x :: st) := by
  obtain ⟨hx, hb, hml, hown, hr, hlk, hts, hKK, hht, htr, hrm⟩ := C0
  intro ls H locs hl hz hP hS
  exact lv_isub hx hb d (k ls H locs hl hz hP hS)
theorem r_imul (C0 : zCt Γ E own cc nL ret hh rm) {x y : Int32} (d : decode cc pc = .ok (.imul, 1)) (k : zG Γ Q E nL kc ks S Z M X (pc + 1) L (.int (x * y) :: st)) : zG Γ Q E nL kc ks S Z M X pc L (.int y :: .int x :: st) := by
  obtain ⟨hx, hb, hml, hown, hr, hlk, hts, hKK, hht, htr, hrm⟩ := C0
  intro ls H locs hl hz hP hS
  exact lv_imul hx hb d (k ls H locs hl hz hP hS)
theorem r_iand (C0 : zCt Γ E own cc nL ret hh rm) {x y : Int32} (d : decode cc pc = .ok (.iand, 1)) (k : zG Γ Q E nL kc ks S Z M X (pc + 1) L (.int (x &&& y) :: st)) : zG Γ Q E nL kc ks S Z M X pc L (.int y :: .int x :: st) := by
  obtain ⟨hx, hb, hml, hown, hr, hlk, hts, hKK, hht, htr, hrm⟩ := C0
  intro ls H locs hl hz hP hS
  exact lv_iand hx hb d (k ls H locs hl hz hP hS)
theorem r_ladd (C0 : zCt Γ E own cc nL ret hh rm) {x y : Int64} (d : decode cc pc = .ok (.ladd, 1)) (k : zG Γ Q E nL kc ks S Z M X (pc + 1) L (.long (x + y) :: st)) : zG Γ Q E nL kc ks S Z M X pc L (.long y :: .long x :: st) := by
  obtain ⟨hx, hb, hml, hown, hr, hlk, hts, hKK, hht, htr, hrm⟩ := C0
  intro ls H locs hl hz hP hS
  exact lv_ladd hx hb d (k ls H locs hl hz hP hS)
theorem r_lsub (C0 : zCt Γ E own cc nL ret hh rm) {x y : Int64} (d : decode cc pc = .ok (.lsub, 1)) (k : zG Γ Q E nL kc ks S Z M X (pc + 1) L (.long (x - y) :: st)) : zG Γ Q E nL kc ks S Z M X pc L (.long y :: .long x :: st) := by
  obtain ⟨hx, hb, hml, hown, hr, hlk, hts, hKK, hht, htr, hrm⟩ := C0
  intro ls H locs hl hz hP hS
  exact lv_lsub hx hb d (k ls H locs hl hz hP hS)
theorem r_lmul (C0 : zCt Γ E own cc nL ret hh rm) {x y : Int64} (d : decode cc pc = .ok (.lmul, 1)) (k : zG Γ Q E nL kc ks S Z M X (pc + 1) L (.long (x * y) :: st)) : zG Γ Q E nL kc ks S Z M X pc L (.long y :: .long x :: st) := by
  obtain ⟨hx, hb, hml, hown, hr, hlk, hts, hKK, hht, htr, hrm⟩ := C0
  intro ls H locs hl hz hP hS
  exact lv_lmul hx hb d (k ls H locs hl hz hP hS)
theorem r_land (C0 : zCt Γ E own cc nL ret hh rm) {x y : Int64} (d : decode cc pc = .ok (.land, 1)) (k : zG Γ Q E nL kc ks S Z M X (pc + 1) L (.long (x &&& y) :: st)) : zG Γ Q E nL kc ks S Z M X pc L (.long y :: .long x :: st) := by
  obtain ⟨hx, hb, hml, hown, hr, hlk, hts, hKK, hht, htr, hrm⟩ := C0
  intro ls H locs hl hz hP hS
  exact lv_land hx hb d (k ls H locs hl hz hP hS)
theorem r_lor (C0 : zCt Γ E own cc nL ret hh rm) {x y : Int64} (d : decode cc pc = .ok (.lor, 1)) (k : zG Γ Q E nL kc ks S Z M X (pc + 1) L (.long (x ||| y) :: st)) : zG Γ Q E nL kc ks S Z M X pc L (.long y :: .long x :: st) := by
  obtain ⟨hx, hb, hml, hown, hr, hlk, hts, hKK, hht, htr, hrm⟩ := C0
  intro ls H locs hl hz hP hS
  exact lv_lor hx hb d (k ls H locs hl hz hP hS)
theorem r_lshl (C0 : zCt Γ E own cc nL ret hh rm) {x : Int64} {y : Int32} (d : decode cc pc = .ok (.lshl, 1)) (k : zG Γ Q E nL kc ks S Z M X (pc + 1) L (.long (x <<< (y.toInt64 &&& 63)) :: st)) : zG Γ Q E nL kc ks S Z M X pc L (.int y :: .long x :: st) := by
  obtain ⟨hx, hb, hml, hown, hr, hlk, hts, hKK, hht, htr, hrm⟩ := C0
  intro ls H locs hl hz hP hS
  exact lv_lshl hx hb d rfl (k ls H locs hl hz hP hS)
theorem r_lushr (C0 : zCt Γ E own cc nL ret hh rm) {x : Int64} {y : Int32} (d : decode cc pc = .ok (.lushr, 1)) (k : zG Γ Q E nL kc ks S Z M X (pc + 1) L (.long ((x.toUInt64 >>> (y.toInt64.toUInt64 &&& Int64.toUInt64 63)).toInt64) :: st)) : zG Γ Q E nL kc ks S Z M X pc L (.int y :: .long x :: st) := by
  obtain ⟨hx, hb, hml, hown, hr, hlk, hts, hKK, hht, htr, hrm⟩ := C0
  intro ls H locs hl hz hP hS
  exact lv_lushr hx hb d rfl (k ls H locs hl hz hP hS)
theorem r_i2l (C0 : zCt Γ E own cc nL ret hh rm) {x : Int32} (d : decode cc pc = .ok (.i2l, 1)) (k : zG Γ Q E nL kc ks S Z M X (pc + 1) L (.long x.toInt64 :: st)) : zG Γ Q E nL kc ks S Z M X pc L (.int x :: st) := by
  obtain ⟨hx, hb, hml, hown, hr, hlk, hts, hKK, hht, htr, hrm⟩ := C0
  intro ls H locs hl hz hP hS
  exact lv_i2l hx hb d rfl (k ls H locs hl hz hP hS)
theorem r_l2i (C0 : zCt Γ E own cc nL ret hh rm) {x : Int64} (d : decode cc pc = .ok (.l2i, 1)) (k : zG Γ Q E nL kc ks S Z M X (pc + 1) L (.int x.toInt32 :: st)) : zG Γ Q E nL kc ks S Z M X pc L (.long x :: st) := by
  obtain ⟨hx, hb, hml, hown, hr, hlk, hts, hKK, hht, htr, hrm⟩ := C0
  intro ls H locs hl hz hP hS
  exact lv_l2i hx hb d rfl (k ls H locs hl hz hP hS)
def zi2c (x : Int32) : Int32 := (x.toUInt32 % 65536).toInt32
theorem r_i2c (C0 : zCt Γ E own cc nL ret hh rm) {x : Int32} (d : decode cc pc = .ok (.i2c, 1)) (k : zG Γ Q E nL kc ks S Z M X (pc + 1) L (.int (zi2c x) :: st)) : zG Γ Q E nL kc ks S Z M X pc L (.int x :: st) := by
  obtain ⟨hx, hb, hml, hown, hr, hlk, hts, hKK, hht, htr, hrm⟩ := C0
  intro ls H locs hl hz hP hS
  exact lv_i2c hx hb d rfl (k ls H locs hl hz hP hS)
theorem r_lcmp (C0 : zCt Γ E own cc nL ret hh rm) {x y : Int64} (d : decode cc pc = .ok (.lcmp, 1)) (k : zG Γ Q E nL kc ks S Z M X (pc + 1) L (.int (lg_cmp x y) :: st)) : zG Γ Q E nL kc ks S Z M X pc L (.long y :: .long x :: st) := by
  obtain ⟨hx, hb, hml, hown, hr, hlk, hts, hKK, hht, htr, hrm⟩ := C0
  intro ls H locs hl hz hP hS
  exact W.lcmp hx hb d (k ls H locs hl hz hP hS)
theorem r_dup (C0 : zCt Γ E own cc nL ret hh rm) {v : Value} (d : decode cc pc = .ok (.dup, 1)) (hv : v.category = 1) (k : zG Γ Q E nL kc ks S Z M X (pc + 1) L (v :: v :: st)) : zG Γ Q E nL kc ks S Z M X pc L (v :: st) := by
  obtain ⟨hx, hb, hml, hown, hr, hlk, hts, hKK, hht, htr, hrm⟩ := C0
  intro ls H locs hl hz hP hS
  exact lv_dup hx hb d hv (k ls H locs hl hz hP hS)
theorem r_pop (C0 : zCt Γ E own cc nL ret hh rm) {v : Value} (d : decode cc pc = .ok (.pop, 1)) (hv : v.category = 1) (k : zG Γ Q E nL kc ks S Z M X (pc + 1) L st) : zG Γ Q E nL kc ks S Z M X pc L (v :: st) := by
  obtain ⟨hx, hb, hml, hown, hr, hlk, hts, hKK, hht, htr, hrm⟩ := C0
  intro ls H locs hl hz hP hS
  exact lv_pop hx hb d hv (k ls H locs hl hz hP hS)
theorem r_dup2 (C0 : zCt Γ E own cc nL ret hh rm) {v u : Value} (d : decode cc pc = .ok (.dup2, 1)) (hv : v.category = 1) (hu : u.category = 1) (k : zG Γ Q E nL kc ks S Z M X (pc + 1) L (v :: u :: v :: u :: st)) : zG Γ Q E nL kc ks S Z M X pc L (v :: u :: st) := by
  obtain ⟨hx, hb, hml, hown, hr, hlk, hts, hKK, hht, htr, hrm⟩ := C0
  intro ls H locs hl hz hP hS
  exact lv_dup2_11 hx hb d hv hu (k ls H locs hl hz hP hS)
theorem r_goto (C0 : zCt Γ E own cc nL ret hh rm) {off : Int} (tgt : Nat) (d : decode cc pc = .ok (.goto off, 3)) (ht : (pc : Int) + off = (tgt : Int)) (k : zG Γ Q E nL kc ks S Z M X tgt L st) : zG Γ Q E nL kc ks S Z M X pc L st := by
  obtain ⟨hx, hb, hml, hown, hr, hlk, hts, hKK, hht, htr, hrm⟩ := C0
  intro ls H locs hl hz hP hS
  exact lv_goto hx hb d ht (k ls H locs hl hz hP hS)
theorem r_idiv (C0 : zCt Γ E own cc nL ret hh rm) {β : Type} {A : Option β} {r : β} {x y : Int32} (d : decode cc pc = .ok (.idiv, 1)) (hf : grd (!decide (y = 0)) A = some r) (k : A = some r → zG Γ Q E nL kc ks S Z M X (pc + 1) L (.int (x / y) :: st)) : zG Γ Q E nL kc ks S Z M X pc L (.int y :: .int x :: st) := by
  obtain ⟨hx, hb, hml, hown, hr, hlk, hts, hKK, hht, htr, hrm⟩ := C0
  obtain ⟨g, hf⟩ := grd_some hf
  intro ls H locs hl hz hP hS
  exact lv_idiv hx hb d (by simpa using g) (k hf ls H locs hl hz hP hS)
theorem r_idiv' (C0 : zCt Γ E own cc nL ret hh rm) {x y : Int32} (d : decode cc pc = .ok (.idiv, 1)) (hy : ¬ y = 0) (k : zG Γ Q E nL kc ks S Z M X (pc + 1) L (.int (x / y) :: st)) : zG Γ Q E nL kc ks S Z M X pc L (.int y :: .int x :: st) := by
  obtain ⟨hx, hb, hml, hown, hr, hlk, hts, hKK, hht, htr, hrm⟩ := C0
  intro ls H locs hl hz hP hS
  exact lv_idiv hx hb d hy (k ls H locs hl hz hP hS)
theorem r_irem (C0 : zCt Γ E own cc nL ret hh rm) {β : Type} {A : Option β} {r : β} {x y : Int32} (d : decode cc pc = .ok (.irem, 1)) (hf : grd (!decide (y = 0)) A = some r) (k : A = some r → zG Γ Q E nL kc ks S Z M X (pc + 1) L (.int (x - x / y * y) :: st)) : zG Γ Q E nL kc ks S Z M X pc L (.int y :: .int x :: st) := by
  obtain ⟨hx, hb, hml, hown, hr, hlk, hts, hKK, hht, htr, hrm⟩ := C0
  obtain ⟨g, hf⟩ := grd_some hf
  intro ls H locs hl hz hP hS
  exact lv_irem hx hb d (by simpa using g) (k hf ls H locs hl hz hP hS)
theorem r_irem' (C0 : zCt Γ E own cc nL ret hh rm) {x y : Int32} (d : decode cc pc = .ok (.irem, 1)) (hy : ¬ y = 0) (k : zG Γ Q E nL kc ks S Z M X (pc + 1) L (.int (x - x / y * y) :: st)) : zG Γ Q E nL kc ks S Z M X pc L (.int y :: .int x :: st) := by
  obtain ⟨hx, hb, hml, hown, hr, hlk, hts, hKK, hht, htr, hrm⟩ := C0
  intro ls H locs hl hz hP hS
  exact lv_irem hx hb d hy (k ls H locs hl hz hP hS)
theorem r_ldiv (C0 : zCt Γ E own cc nL ret hh rm) {β : Type} {A : Option β} {r : β} {x y : Int64} (d : decode cc pc = .ok (.ldiv, 1)) (hf : grd (!decide (y = 0)) A = some r) (k : A = some r → zG Γ Q E nL kc ks S Z M X (pc + 1) L (.long (x / y) :: st)) : zG Γ Q E nL kc ks S Z M X pc L (.long y :: .long x :: st) := by
  obtain ⟨hx, hb, hml, hown, hr, hlk, hts, hKK, hht, htr, hrm⟩ := C0
  obtain ⟨g, hf⟩ := grd_some hf
  intro ls H locs hl hz hP hS
  exact lv_ldiv hx hb d (by simpa using g) (k hf ls H locs hl hz hP hS)
theorem r_ldiv' (C0 : zCt Γ E own cc nL ret hh rm) {x y : Int64} (d : decode cc pc = .ok (.ldiv, 1)) (hy : ¬ y = 0) (k : zG Γ Q E nL kc ks S Z M X (pc + 1) L (.long (x / y) :: st)) : zG Γ Q E nL kc ks S Z M X pc L (.long y :: .long x :: st) := by
  obtain ⟨hx, hb, hml, hown, hr, hlk, hts, hKK, hht, htr, hrm⟩ := C0
  intro ls H locs hl hz hP hS
  exact lv_ldiv hx hb d hy (k ls H locs hl hz hP hS)
theorem r_lrem (C0 : zCt Γ E own cc nL ret hh rm) {β : Type} {A : Option β} {r : β} {x y : Int64} (d : decode cc pc = .ok (.lrem, 1)) (hf : grd (!decide (y = 0)) A = some r) (k : A = some r → zG Γ Q E nL kc ks S Z M X (pc + 1) L (.long (x - x / y * y) :: st)) : zG Γ Q E nL kc ks S Z M X pc L (.long y :: .long x :: st) := by
  obtain ⟨hx, hb, hml, hown, hr, hlk, hts, hKK, hht, htr, hrm⟩ := C0
  obtain ⟨g, hf⟩ := grd_some hf
  intro ls H locs hl hz hP hS
  exact lv_lrem hx hb d (by simpa using g) (k hf ls H locs hl hz hP hS)
theorem r_lrem' (C0 : zCt Γ E own cc nL ret hh rm) {x y : Int64} (d : decode cc pc = .ok (.lrem, 1)) (hy : ¬ y = 0) (k : zG Γ Q E nL kc ks S Z M X (pc + 1) L (.long (x - x / y * y) :: st)) : zG Γ Q E nL kc ks S Z M X pc L (.long y :: .long x :: st) := by
  obtain ⟨hx, hb, hml, hown, hr, hlk, hts, hKK, hht, htr, hrm⟩ := C0
  intro ls H locs hl hz hP hS
  exact lv_lrem hx hb d hy (k ls H locs hl hz hP hS)
theorem r_nm {β : Type} {r : Option β} {R : Option β} {x : Int32} {K : Int32 → Option β} (hf : bnd x K = R) (k : ∀ y, K y = R → zG Γ Q E nL kc ks S Z M X pc L (.int y :: st)) : zG Γ Q E nL kc ks S Z M X pc L (.int x :: st) := k x hf
theorem r_nmL {β : Type} {R : Option β} {x : Int64} {K : Int64 → Option β} (hf : bnd x K = R) (k : ∀ y, K y = R → zG Γ Q E nL kc ks S Z M X pc L (.long y :: st)) : zG Γ Q E nL kc ks S Z M X pc L (.long x :: st) := k x hf
theorem r_if_eq (C0 : zCt Γ E own cc nL ret hh rm) {β : Type} {A B R : Option β} {x : Int32} {off : Int} (tgt : Nat) (d : decode cc pc = .ok (.ifCond .eq off, 3)) (ht : (pc : Int) + off = (tgt : Int)) (hf : (if x = 0 then A else B) = R) (kt : A = R → zG Γ Q E nL kc ks S Z M X tgt L st) (kf : B = R → zG Γ Q E nL kc ks S Z M X (pc + 3) L st) : zG Γ Q E nL kc ks S Z M X pc L (.int x :: st) := by
  obtain ⟨hx, hb, hml, hown, hr, hlk, hts, hKK, hht, htr, hrm⟩ := C0
  intro ls H locs hl hz hP hS
  exact lv_if_eq hx hb d ht (fun h => kt ((if_pos h).symm.trans hf) ls H locs hl hz hP hS) (fun h => kf ((if_neg h).symm.trans hf) ls H locs hl hz hP hS)
theorem r_icmp_eq (C0 : zCt Γ E own cc nL ret hh rm) {β : Type} {A B R : Option β} {x y : Int32} {off : Int} (tgt : Nat) (d : decode cc pc = .ok (.if_icmp .eq off, 3)) (ht : (pc : Int) + off = (tgt : Int)) (hf : (if x = y then A else B) = R) (kt : A = R → zG Γ Q E nL kc ks S Z M X tgt L st) (kf : B = R → zG Γ Q E nL kc ks S Z M X (pc + 3) L st) : zG Γ Q E nL kc ks S Z M X pc L (.int y :: .int x :: st) := by
  obtain ⟨hx, hb, hml, hown, hr, hlk, hts, hKK, hht, htr, hrm⟩ := C0
  intro ls H locs hl hz hP hS
  exact lv_icmp_eq hx hb d ht (fun h => kt ((if_pos h).symm.trans hf) ls H locs hl hz hP hS) (fun h => kf ((if_neg h).symm.trans hf) ls H locs hl hz hP hS)
theorem r_if_ne (C0 : zCt Γ E own cc nL ret hh rm) {β : Type} {A B R : Option β} {x : Int32} {off : Int} (tgt : Nat) (d : decode cc pc = .ok (.ifCond .ne off, 3)) (ht : (pc : Int) + off = (tgt : Int)) (hf : (if x = 0 then A else B) = R) (kt : B = R → zG Γ Q E nL kc ks S Z M X tgt L st) (kf : A = R → zG Γ Q E nL kc ks S Z M X (pc + 3) L st) : zG Γ Q E nL kc ks S Z M X pc L (.int x :: st) := by
  obtain ⟨hx, hb, hml, hown, hr, hlk, hts, hKK, hht, htr, hrm⟩ := C0
  intro ls H locs hl hz hP hS
  exact lv_if_ne hx hb d ht (fun h => kt ((if_neg h).symm.trans hf) ls H locs hl hz hP hS) (fun h => kf ((if_pos (by first | exact h | exact Classical.not_not.mp h)).symm.trans hf) ls H locs hl hz hP hS)
theorem r_icmp_ne (C0 : zCt Γ E own cc nL ret hh rm) {β : Type} {A B R : Option β} {x y : Int32} {off : Int} (tgt : Nat) (d : decode cc pc = .ok (.if_icmp .ne off, 3)) (ht : (pc : Int) + off = (tgt : Int)) (hf : (if x = y then A else B) = R) (kt : B = R → zG Γ Q E nL kc ks S Z M X tgt L st) (kf : A = R → zG Γ Q E nL kc ks S Z M X (pc + 3) L st) : zG Γ Q E nL kc ks S Z M X pc L (.int y :: .int x :: st) := by
  obtain ⟨hx, hb, hml, hown, hr, hlk, hts, hKK, hht, htr, hrm⟩ := C0
  intro ls H locs hl hz hP hS
  exact lv_icmp_ne hx hb d ht (fun h => kt ((if_neg h).symm.trans hf) ls H locs hl hz hP hS) (fun h => kf ((if_pos (by first | exact h | exact Classical.not_not.mp h)).symm.trans hf) ls H locs hl hz hP hS)
theorem r_if_lt (C0 : zCt Γ E own cc nL ret hh rm) {β : Type} {A B R : Option β} {x : Int32} {off : Int} (tgt : Nat) (d : decode cc pc = .ok (.ifCond .lt off, 3)) (ht : (pc : Int) + off = (tgt : Int)) (hf : (if x < 0 then A else B) = R) (kt : A = R → zG Γ Q E nL kc ks S Z M X tgt L st) (kf : B = R → zG Γ Q E nL kc ks S Z M X (pc + 3) L st) : zG Γ Q E nL kc ks S Z M X pc L (.int x :: st) := by
  obtain ⟨hx, hb, hml, hown, hr, hlk, hts, hKK, hht, htr, hrm⟩ := C0
  intro ls H locs hl hz hP hS
  exact lv_if_lt hx hb d ht (fun h => kt ((if_pos h).symm.trans hf) ls H locs hl hz hP hS) (fun h => kf ((if_neg h).symm.trans hf) ls H locs hl hz hP hS)
theorem r_icmp_lt (C0 : zCt Γ E own cc nL ret hh rm) {β : Type} {A B R : Option β} {x y : Int32} {off : Int} (tgt : Nat) (d : decode cc pc = .ok (.if_icmp .lt off, 3)) (ht : (pc : Int) + off = (tgt : Int)) (hf : (if x < y then A else B) = R) (kt : A = R → zG Γ Q E nL kc ks S Z M X tgt L st) (kf : B = R → zG Γ Q E nL kc ks S Z M X (pc + 3) L st) : zG Γ Q E nL kc ks S Z M X pc L (.int y :: .int x :: st) := by
  obtain ⟨hx, hb, hml, hown, hr, hlk, hts, hKK, hht, htr, hrm⟩ := C0
  intro ls H locs hl hz hP hS
  exact lv_icmp_lt hx hb d ht (fun h => kt ((if_pos h).symm.trans hf) ls H locs hl hz hP hS) (fun h => kf ((if_neg h).symm.trans hf) ls H locs hl hz hP hS)
theorem r_if_ge (C0 : zCt Γ E own cc nL ret hh rm) {β : Type} {A B R : Option β} {x : Int32} {off : Int} (tgt : Nat) (d : decode cc pc = .ok (.ifCond .ge off, 3)) (ht : (pc : Int) + off = (tgt : Int)) (hf : (if x < 0 then A else B) = R) (kt : B = R → zG Γ Q E nL kc ks S Z M X tgt L st) (kf : A = R → zG Γ Q E nL kc ks S Z M X (pc + 3) L st) : zG Γ Q E nL kc ks S Z M X pc L (.int x :: st) := by
  obtain ⟨hx, hb, hml, hown, hr, hlk, hts, hKK, hht, htr, hrm⟩ := C0
  intro ls H locs hl hz hP hS
  exact lv_if_ge hx hb d ht (fun h => kt ((if_neg (Int32.not_lt.mpr h)).symm.trans hf) ls H locs hl hz hP hS) (fun h => kf ((if_pos (Int32.not_le.mp h)).symm.trans hf) ls H locs hl hz hP hS)
theorem r_icmp_ge (C0 : zCt Γ E own cc nL ret hh rm) {β : Type} {A B R : Option β} {x y : Int32} {off : Int} (tgt : Nat) (d : decode cc pc = .ok (.if_icmp .ge off, 3)) (ht : (pc : Int) + off = (tgt : Int)) (hf : (if x < y then A else B) = R) (kt : B = R → zG Γ Q E nL kc ks S Z M X tgt L st) (kf : A = R → zG Γ Q E nL kc ks S Z M X (pc + 3) L st) : zG Γ Q E nL kc ks S Z M X pc L (.int y :: .int x :: st) := by
  obtain ⟨hx, hb, hml, hown, hr, hlk, hts, hKK, hht, htr, hrm⟩ := C0
  intro ls H locs hl hz hP hS
  exact lv_icmp_ge hx hb d ht (fun h => kt ((if_neg (Int32.not_lt.mpr h)).symm.trans hf) ls H locs hl hz hP hS) (fun h => kf ((if_pos (Int32.not_le.mp h)).symm.trans hf) ls H locs hl hz hP hS)
theorem r_if_gt (C0 : zCt Γ E own cc nL ret hh rm) {β : Type} {A B R : Option β} {x : Int32} {off : Int} (tgt : Nat) (d : decode cc pc = .ok (.ifCond .gt off, 3)) (ht : (pc : Int) + off = (tgt : Int)) (hf : (if 0 < x then A else B) = R) (kt : A = R → zG Γ Q E nL kc ks S Z M X tgt L st) (kf : B = R → zG Γ Q E nL kc ks S Z M X (pc + 3) L st) : zG Γ Q E nL kc ks S Z M X pc L (.int x :: st) := by
  obtain ⟨hx, hb, hml, hown, hr, hlk, hts, hKK, hht, htr, hrm⟩ := C0
  intro ls H locs hl hz hP hS
  exact lv_if_gt hx hb d ht (fun h => kt ((if_pos h).symm.trans hf) ls H locs hl hz hP hS) (fun h => kf ((if_neg h).symm.trans hf) ls H locs hl hz hP hS)
theorem r_icmp_gt (C0 : zCt Γ E own cc nL ret hh rm) {β : Type} {A B R : Option β} {x y : Int32} {off : Int} (tgt : Nat) (d : decode cc pc = .ok (.if_icmp .gt off, 3)) (ht : (pc : Int) + off = (tgt : Int)) (hf : (if y < x then A else B) = R) (kt : A = R → zG Γ Q E nL kc ks S Z M X tgt L st) (kf : B = R → zG Γ Q E nL kc ks S Z M X (pc + 3) L st) : zG Γ Q E nL kc ks S Z M X pc L (.int y :: .int x :: st) := by
  obtain ⟨hx, hb, hml, hown, hr, hlk, hts, hKK, hht, htr, hrm⟩ := C0
  intro ls H locs hl hz hP hS
  exact lv_icmp_gt hx hb d ht (fun h => kt ((if_pos h).symm.trans hf) ls H locs hl hz hP hS) (fun h => kf ((if_neg h).symm.trans hf) ls H locs hl hz hP hS)
theorem r_if_le (C0 : zCt Γ E own cc nL ret hh rm) {β : Type} {A B R : Option β} {x : Int32} {off : Int} (tgt : Nat) (d : decode cc pc = .ok (.ifCond .le off, 3)) (ht : (pc : Int) + off = (tgt : Int)) (hf : (if 0 < x then A else B) = R) (kt : B = R → zG Γ Q E nL kc ks S Z M X tgt L st) (kf : A = R → zG Γ Q E nL kc ks S Z M X (pc + 3) L st) : zG Γ Q E nL kc ks S Z M X pc L (.int x :: st) := by
  obtain ⟨hx, hb, hml, hown, hr, hlk, hts, hKK, hht, htr, hrm⟩ := C0
  intro ls H locs hl hz hP hS
  exact lv_if_le hx hb d ht (fun h => kt ((if_neg (Int32.not_lt.mpr h)).symm.trans hf) ls H locs hl hz hP hS) (fun h => kf ((if_pos (Int32.not_le.mp h)).symm.trans hf) ls H locs hl hz hP hS)
theorem r_icmp_le (C0 : zCt Γ E own cc nL ret hh rm) {β : Type} {A B R : Option β} {x y : Int32} {off : Int} (tgt : Nat) (d : decode cc pc = .ok (.if_icmp .le off, 3)) (ht : (pc : Int) + off = (tgt : Int)) (hf : (if y < x then A else B) = R) (kt : B = R → zG Γ Q E nL kc ks S Z M X tgt L st) (kf : A = R → zG Γ Q E nL kc ks S Z M X (pc + 3) L st) : zG Γ Q E nL kc ks S Z M X pc L (.int y :: .int x :: st) := by
  obtain ⟨hx, hb, hml, hown, hr, hlk, hts, hKK, hht, htr, hrm⟩ := C0
  intro ls H locs hl hz hP hS
  exact lv_icmp_le hx hb d ht (fun h => kt ((if_neg (Int32.not_lt.mpr h)).symm.trans hf) ls H locs hl hz hP hS) (fun h => kf ((if_pos (Int32.not_le.mp h)).symm.trans hf) ls H locs hl hz hP hS)
theorem r_if_eq_t (C0 : zCt Γ E own cc nL ret hh rm) {x : Int32} {off : Int} (tgt : Nat) (d : decode cc pc = .ok (.ifCond .eq off, 3)) (ht : (pc : Int) + off = (tgt : Int)) (hc : x = 0) (k : zG Γ Q E nL kc ks S Z M X tgt L st) : zG Γ Q E nL kc ks S Z M X pc L (.int x :: st) := by
  obtain ⟨hx, hb, hml, hown, hr, hlk, hts, hKK, hht, htr, hrm⟩ := C0
  intro ls H locs hl hz hP hS
  exact lv_if_eq hx hb d ht (fun _ => k ls H locs hl hz hP hS) (fun h => absurd hc (by first | exact h | exact fun z => z h | exact fun z => absurd h (Int32.not_lt.mpr z) | exact fun z => absurd h (Int32.not_le.mpr z)))
theorem r_if_eq_f (C0 : zCt Γ E own cc nL ret hh rm) {x : Int32} {off : Int} (tgt : Nat) (d : decode cc pc = .ok (.ifCond .eq off, 3)) (ht : (pc : Int) + off = (tgt : Int)) (hc : ¬ (x = 0)) (k : zG Γ Q E nL kc ks S Z M X (pc + 3) L st) : zG Γ Q E nL kc ks S Z M X pc L (.int x :: st) := by
  obtain ⟨hx, hb, hml, hown, hr, hlk, hts, hKK, hht, htr, hrm⟩ := C0
  intro ls H locs hl hz hP hS
  exact lv_if_eq hx hb d ht (fun h => absurd h hc) (fun _ => k ls H locs hl hz hP hS)
theorem r_icmp_eq_t (C0 : zCt Γ E own cc nL ret hh rm) {x y : Int32} {off : Int} (tgt : Nat) (d : decode cc pc = .ok (.if_icmp .eq off, 3)) (ht : (pc : Int) + off = (tgt : Int)) (hc : x = y) (k : zG Γ Q E nL kc ks S Z M X tgt L st) : zG Γ Q E nL kc ks S Z M X pc L (.int y :: .int x :: st) := by
  obtain ⟨hx, hb, hml, hown, hr, hlk, hts, hKK, hht, htr, hrm⟩ := C0
  intro ls H locs hl hz hP hS
  exact lv_icmp_eq hx hb d ht (fun _ => k ls H locs hl hz hP hS) (fun h => absurd hc (by first | exact h | exact fun z => z h | exact fun z => absurd h (Int32.not_lt.mpr z) | exact fun z => absurd h (Int32.not_le.mpr z)))
theorem r_icmp_eq_f (C0 : zCt Γ E own cc nL ret hh rm) {x y : Int32} {off : Int} (tgt : Nat) (d : decode cc pc = .ok (.if_icmp .eq off, 3)) (ht : (pc : Int) + off = (tgt : Int)) (hc : ¬ (x = y)) (k : zG Γ Q E nL kc ks S Z M X (pc + 3) L st) : zG Γ Q E nL kc ks S Z M X pc L (.int y :: .int x :: st) := by
  obtain ⟨hx, hb, hml, hown, hr, hlk, hts, hKK, hht, htr, hrm⟩ := C0
  intro ls H locs hl hz hP hS
  exact lv_icmp_eq hx hb d ht (fun h => absurd h hc) (fun _ => k ls H locs hl hz hP hS)
theorem r_if_ne_t (C0 : zCt Γ E own cc nL ret hh rm) {x : Int32} {off : Int} (tgt : Nat) (d : decode cc pc = .ok (.ifCond .ne off, 3)) (ht : (pc : Int) + off = (tgt : Int)) (hc : ¬ x = 0) (k : zG Γ Q E nL kc ks S Z M X tgt L st) : zG Γ Q E nL kc ks S Z M X pc L (.int x :: st) := by
  obtain ⟨hx, hb, hml, hown, hr, hlk, hts, hKK, hht, htr, hrm⟩ := C0
  intro ls H locs hl hz hP hS
  exact lv_if_ne hx hb d ht (fun _ => k ls H locs hl hz hP hS) (fun h => absurd hc (by first | exact h | exact fun z => z h | exact fun z => absurd h (Int32.not_lt.mpr z) | exact fun z => absurd h (Int32.not_le.mpr z)))
theorem r_if_ne_f (C0 : zCt Γ E own cc nL ret hh rm) {x : Int32} {off : Int} (tgt : Nat) (d : decode cc pc = .ok (.ifCond .ne off, 3)) (ht : (pc : Int) + off = (tgt : Int)) (hc : ¬ (¬ x = 0)) (k : zG Γ Q E nL kc ks S Z M X (pc + 3) L st) : zG Γ Q E nL kc ks S Z M X pc L (.int x :: st) := by
  obtain ⟨hx, hb, hml, hown, hr, hlk, hts, hKK, hht, htr, hrm⟩ := C0
  intro ls H locs hl hz hP hS
  exact lv_if_ne hx hb d ht (fun h => absurd h hc) (fun _ => k ls H locs hl hz hP hS)
theorem r_icmp_ne_t (C0 : zCt Γ E own cc nL ret hh rm) {x y : Int32} {off : Int} (tgt : Nat) (d : decode cc pc = .ok (.if_icmp .ne off, 3)) (ht : (pc : Int) + off = (tgt : Int)) (hc : ¬ x = y) (k : zG Γ Q E nL kc ks S Z M X tgt L st) : zG Γ Q E nL kc ks S Z M X pc L (.int y :: .int x :: st) := by
  obtain ⟨hx, hb, hml, hown, hr, hlk, hts, hKK, hht, htr, hrm⟩ := C0
  intro ls H locs hl hz hP hS
  exact lv_icmp_ne hx hb d ht (fun _ => k ls H locs hl hz hP hS) (fun h => absurd hc (by first | exact h | exact fun z => z h | exact fun z => absurd h (Int32.not_lt.mpr z) | exact fun z => absurd h (Int32.not_le.mpr z)))
theorem r_icmp_ne_f (C0 : zCt Γ E own cc nL ret hh rm) {x y : Int32} {off : Int} (tgt : Nat) (d : decode cc pc = .ok (.if_icmp .ne off, 3)) (ht : (pc : Int) + off = (tgt : Int)) (hc : ¬ (¬ x = y)) (k : zG Γ Q E nL kc ks S Z M X (pc + 3) L st) : zG Γ Q E nL kc ks S Z M X pc L (.int y :: .int x :: st) := by
  obtain ⟨hx, hb, hml, hown, hr, hlk, hts, hKK, hht, htr, hrm⟩ := C0
  intro ls H locs hl hz hP hS
  exact lv_icmp_ne hx hb d ht (fun h => absurd h hc) (fun _ => k ls H locs hl hz hP hS)
theorem r_if_lt_t (C0 : zCt Γ E own cc nL ret hh rm) {x : Int32} {off : Int} (tgt : Nat) (d : decode cc pc = .ok (.ifCond .lt off, 3)) (ht : (pc : Int) + off = (tgt : Int)) (hc : x < 0) (k : zG Γ Q E nL kc ks S Z M X tgt L st) : zG Γ Q E nL kc ks S Z M X pc L (.int x :: st) := by
  obtain ⟨hx, hb, hml, hown, hr, hlk, hts, hKK, hht, htr, hrm⟩ := C0
  intro ls H locs hl hz hP hS
  exact lv_if_lt hx hb d ht (fun _ => k ls H locs hl hz hP hS) (fun h => absurd hc (by first | exact h | exact fun z => z h | exact fun z => absurd h (Int32.not_lt.mpr z) | exact fun z => absurd h (Int32.not_le.mpr z)))
theorem r_if_lt_f (C0 : zCt Γ E own cc nL ret hh rm) {x : Int32} {off : Int} (tgt : Nat) (d : decode cc pc = .ok (.ifCond .lt off, 3)) (ht : (pc : Int) + off = (tgt : Int)) (hc : ¬ (x < 0)) (k : zG Γ Q E nL kc ks S Z M X (pc + 3) L st) : zG Γ Q E nL kc ks S Z M X pc L (.int x :: st) := by
  obtain ⟨hx, hb, hml, hown, hr, hlk, hts, hKK, hht, htr, hrm⟩ := C0
  intro ls H locs hl hz hP hS
  exact lv_if_lt hx hb d ht (fun h => absurd h hc) (fun _ => k ls H locs hl hz hP hS)
theorem r_icmp_lt_t (C0 : zCt Γ E own cc nL ret hh rm) {x y : Int32} {off : Int} (tgt : Nat) (d : decode cc pc = .ok (.if_icmp .lt off, 3)) (ht : (pc : Int) + off = (tgt : Int)) (hc : x < y) (k : zG Γ Q E nL kc ks S Z M X tgt L st) : zG Γ Q E nL kc ks S Z M X pc L (.int y :: .int x :: st) := by
  obtain ⟨hx, hb, hml, hown, hr, hlk, hts, hKK, hht, htr, hrm⟩ := C0
  intro ls H locs hl hz hP hS
  exact lv_icmp_lt hx hb d ht (fun _ => k ls H locs hl hz hP hS) (fun h => absurd hc (by first | exact h | exact fun z => z h | exact fun z => absurd h (Int32.not_lt.mpr z) | exact fun z => absurd h (Int32.not_le.mpr z)))
theorem r_icmp_lt_f (C0 : zCt Γ E own cc nL ret hh rm) {x y : Int32} {off : Int} (tgt : Nat) (d : decode cc pc = .ok (.if_icmp .lt off, 3)) (ht : (pc : Int) + off = (tgt : Int)) (hc : ¬ (x < y)) (k : zG Γ Q E nL kc ks S Z M X (pc + 3) L st) : zG Γ Q E nL kc ks S Z M X pc L (.int y :: .int x :: st) := by
  obtain ⟨hx, hb, hml, hown, hr, hlk, hts, hKK, hht, htr, hrm⟩ := C0
  intro ls H locs hl hz hP hS
  exact lv_icmp_lt hx hb d ht (fun h => absurd h hc) (fun _ => k ls H locs hl hz hP hS)
theorem r_if_ge_t (C0 : zCt Γ E own cc nL ret hh rm) {x : Int32} {off : Int} (tgt : Nat) (d : decode cc pc = .ok (.ifCond .ge off, 3)) (ht : (pc : Int) + off = (tgt : Int)) (hc : 0 ≤ x) (k : zG Γ Q E nL kc ks S Z M X tgt L st) : zG Γ Q E nL kc ks S Z M X pc L (.int x :: st) := by
  obtain ⟨hx, hb, hml, hown, hr, hlk, hts, hKK, hht, htr, hrm⟩ := C0
  intro ls H locs hl hz hP hS
  exact lv_if_ge hx hb d ht (fun _ => k ls H locs hl hz hP hS) (fun h => absurd hc (by first | exact h | exact fun z => z h | exact fun z => absurd h (Int32.not_lt.mpr z) | exact fun z => absurd h (Int32.not_le.mpr z)))
theorem r_if_ge_f (C0 : zCt Γ E own cc nL ret hh rm) {x : Int32} {off : Int} (tgt : Nat) (d : decode cc pc = .ok (.ifCond .ge off, 3)) (ht : (pc : Int) + off = (tgt : Int)) (hc : ¬ (0 ≤ x)) (k : zG Γ Q E nL kc ks S Z M X (pc + 3) L st) : zG Γ Q E nL kc ks S Z M X pc L (.int x :: st) := by
  obtain ⟨hx, hb, hml, hown, hr, hlk, hts, hKK, hht, htr, hrm⟩ := C0
  intro ls H locs hl hz hP hS
  exact lv_if_ge hx hb d ht (fun h => absurd h hc) (fun _ => k ls H locs hl hz hP hS)
theorem r_icmp_ge_t (C0 : zCt Γ E own cc nL ret hh rm) {x y : Int32} {off : Int} (tgt : Nat) (d : decode cc pc = .ok (.if_icmp .ge off, 3)) (ht : (pc : Int) + off = (tgt : Int)) (hc : y ≤ x) (k : zG Γ Q E nL kc ks S Z M X tgt L st) : zG Γ Q E nL kc ks S Z M X pc L (.int y :: .int x :: st) := by
  obtain ⟨hx, hb, hml, hown, hr, hlk, hts, hKK, hht, htr, hrm⟩ := C0
  intro ls H locs hl hz hP hS
  exact lv_icmp_ge hx hb d ht (fun _ => k ls H locs hl hz hP hS) (fun h => absurd hc (by first | exact h | exact fun z => z h | exact fun z => absurd h (Int32.not_lt.mpr z) | exact fun z => absurd h (Int32.not_le.mpr z)))
theorem r_icmp_ge_f (C0 : zCt Γ E own cc nL ret hh rm) {x y : Int32} {off : Int} (tgt : Nat) (d : decode cc pc = .ok (.if_icmp .ge off, 3)) (ht : (pc : Int) + off = (tgt : Int)) (hc : ¬ (y ≤ x)) (k : zG Γ Q E nL kc ks S Z M X (pc + 3) L st) : zG Γ Q E nL kc ks S Z M X pc L (.int y :: .int x :: st) := by
  obtain ⟨hx, hb, hml, hown, hr, hlk, hts, hKK, hht, htr, hrm⟩ := C0
  intro ls H locs hl hz hP hS
  exact lv_icmp_ge hx hb d ht (fun h => absurd h hc) (fun _ => k ls H locs hl hz hP hS)
theorem r_if_gt_t (C0 : zCt Γ E own cc nL ret hh rm) {x : Int32} {off : Int} (tgt : Nat) (d : decode cc pc = .ok (.ifCond .gt off, 3)) (ht : (pc : Int) + off = (tgt : Int)) (hc : 0 < x) (k : zG Γ Q E nL kc ks S Z M X tgt L st) : zG Γ Q E nL kc ks S Z M X pc L (.int x :: st) := by
  obtain ⟨hx, hb, hml, hown, hr, hlk, hts, hKK, hht, htr, hrm⟩ := C0
  intro ls H locs hl hz hP hS
  exact lv_if_gt hx hb d ht (fun _ => k ls H locs hl hz hP hS) (fun h => absurd hc (by first | exact h | exact fun z => z h | exact fun z => absurd h (Int32.not_lt.mpr z) | exact fun z => absurd h (Int32.not_le.mpr z)))
theorem r_if_gt_f (C0 : zCt Γ E own cc nL ret hh rm) {x : Int32} {off : Int} (tgt : Nat) (d : decode cc pc = .ok (.ifCond .gt off, 3)) (ht : (pc : Int) + off = (tgt : Int)) (hc : ¬ (0 < x)) (k : zG Γ Q E nL kc ks S Z M X (pc + 3) L st) : zG Γ Q E nL kc ks S Z M X pc L (.int x :: st) := by
  obtain ⟨hx, hb, hml, hown, hr, hlk, hts, hKK, hht, htr, hrm⟩ := C0
  intro ls H locs hl hz hP hS
  exact lv_if_gt hx hb d ht (fun h => absurd h hc) (fun _ => k ls H locs hl hz hP hS)
theorem r_icmp_gt_t (C0 : zCt Γ E own cc nL ret hh rm) {x y : Int32} {off : Int} (tgt : Nat) (d : decode cc pc = .ok (.if_icmp .gt off, 3)) (ht : (pc : Int) + off = (tgt : Int)) (hc : y < x) (k : zG Γ Q E nL kc ks S Z M X tgt L st) : zG Γ Q E nL kc ks S Z M X pc L (.int y :: .int x :: st) := by
  obtain ⟨hx, hb, hml, hown, hr, hlk, hts, hKK, hht, htr, hrm⟩ := C0
  intro ls H locs hl hz hP hS
  exact lv_icmp_gt hx hb d ht (fun _ => k ls H locs hl hz hP hS) (fun h => absurd hc (by first | exact h | exact fun z => z h | exact fun z => absurd h (Int32.not_lt.mpr z) | exact fun z => absurd h (Int32.not_le.mpr z)))
theorem r_icmp_gt_f (C0 : zCt Γ E own cc nL ret hh rm) {x y : Int32} {off : Int} (tgt : Nat) (d : decode cc pc = .ok (.if_icmp .gt off, 3)) (ht : (pc : Int) + off = (tgt : Int)) (hc : ¬ (y < x)) (k : zG Γ Q E nL kc ks S Z M X (pc + 3) L st) : zG Γ Q E nL kc ks S Z M X pc L (.int y :: .int x :: st) := by
  obtain ⟨hx, hb, hml, hown, hr, hlk, hts, hKK, hht, htr, hrm⟩ := C0
  intro ls H locs hl hz hP hS
  exact lv_icmp_gt hx hb d ht (fun h => absurd h hc) (fun _ => k ls H locs hl hz hP hS)
theorem r_if_le_t (C0 : zCt Γ E own cc nL ret hh rm) {x : Int32} {off : Int} (tgt : Nat) (d : decode cc pc = .ok (.ifCond .le off, 3)) (ht : (pc : Int) + off = (tgt : Int)) (hc : x ≤ 0) (k : zG Γ Q E nL kc ks S Z M X tgt L st) : zG Γ Q E nL kc ks S Z M X pc L (.int x :: st) := by
  obtain ⟨hx, hb, hml, hown, hr, hlk, hts, hKK, hht, htr, hrm⟩ := C0
  intro ls H locs hl hz hP hS
  exact lv_if_le hx hb d ht (fun _ => k ls H locs hl hz hP hS) (fun h => absurd hc (by first | exact h | exact fun z => z h | exact fun z => absurd h (Int32.not_lt.mpr z) | exact fun z => absurd h (Int32.not_le.mpr z)))
theorem r_if_le_f (C0 : zCt Γ E own cc nL ret hh rm) {x : Int32} {off : Int} (tgt : Nat) (d : decode cc pc = .ok (.ifCond .le off, 3)) (ht : (pc : Int) + off = (tgt : Int)) (hc : ¬ (x ≤ 0)) (k : zG Γ Q E nL kc ks S Z M X (pc + 3) L st) : zG Γ Q E nL kc ks S Z M X pc L (.int x :: st) := by
  obtain ⟨hx, hb, hml, hown, hr, hlk, hts, hKK, hht, htr, hrm⟩ := C0
  intro ls H locs hl hz hP hS
  exact lv_if_le hx hb d ht (fun h => absurd h hc) (fun _ => k ls H locs hl hz hP hS)
theorem r_icmp_le_t (C0 : zCt Γ E own cc nL ret hh rm) {x y : Int32} {off : Int} (tgt : Nat) (d : decode cc pc = .ok (.if_icmp .le off, 3)) (ht : (pc : Int) + off = (tgt : Int)) (hc : x ≤ y) (k : zG Γ Q E nL kc ks S Z M X tgt L st) : zG Γ Q E nL kc ks S Z M X pc L (.int y :: .int x :: st) := by
  obtain ⟨hx, hb, hml, hown, hr, hlk, hts, hKK, hht, htr, hrm⟩ := C0
  intro ls H locs hl hz hP hS
  exact lv_icmp_le hx hb d ht (fun _ => k ls H locs hl hz hP hS) (fun h => absurd hc (by first | exact h | exact fun z => z h | exact fun z => absurd h (Int32.not_lt.mpr z) | exact fun z => absurd h (Int32.not_le.mpr z)))
theorem r_icmp_le_f (C0 : zCt Γ E own cc nL ret hh rm) {x y : Int32} {off : Int} (tgt : Nat) (d : decode cc pc = .ok (.if_icmp .le off, 3)) (ht : (pc : Int) + off = (tgt : Int)) (hc : ¬ (x ≤ y)) (k : zG Γ Q E nL kc ks S Z M X (pc + 3) L st) : zG Γ Q E nL kc ks S Z M X pc L (.int y :: .int x :: st) := by
  obtain ⟨hx, hb, hml, hown, hr, hlk, hts, hKK, hht, htr, hrm⟩ := C0
  intro ls H locs hl hz hP hS
  exact lv_icmp_le hx hb d ht (fun h => absurd h hc) (fun _ => k ls H locs hl hz hP hS)
theorem r_ifnonnull (C0 : zCt Γ E own cc nL ret hh rm) {x : Nat} {off : Int} (tgt : Nat) (d : decode cc pc = .ok (.ifnonnull off, 3)) (ht : (pc : Int) + off = (tgt : Int)) (k : zG Γ Q E nL kc ks S Z M X tgt L st) : zG Γ Q E nL kc ks S Z M X pc L (.ref x :: st) := by
  obtain ⟨hx, hb, hml, hown, hr, hlk, hts, hKK, hht, htr, hrm⟩ := C0
  intro ls H locs hl hz hP hS
  exact lv_ifnonnull hx hb d ht (k ls H locs hl hz hP hS)
theorem r_ifnull (C0 : zCt Γ E own cc nL ret hh rm) {x : Nat} {off : Int} (d : decode cc pc = .ok (.ifnull off, 3)) (k : zG Γ Q E nL kc ks S Z M X (pc + 3) L st) : zG Γ Q E nL kc ks S Z M X pc L (.ref x :: st) := by
  obtain ⟨hx, hb, hml, hown, hr, hlk, hts, hKK, hht, htr, hrm⟩ := C0
  intro ls H locs hl hz hP hS
  exact lv_ifnull hx hb d (k ls H locs hl hz hP hS)
theorem r_ifnullN (C0 : zCt Γ E own cc nL ret hh rm) {off : Int} (tgt : Nat) (d : decode cc pc = .ok (.ifnull off, 3)) (ht : (pc : Int) + off = (tgt : Int)) (k : zG Γ Q E nL kc ks S Z M X tgt L st) : zG Γ Q E nL kc ks S Z M X pc L (.null :: st) := by
  obtain ⟨hx, hb, hml, hown, hr, hlk, hts, hKK, hht, htr, hrm⟩ := C0
  intro ls H locs hl hz hP hS
  exact lv_ifnullN hx hb d ht (k ls H locs hl hz hP hS)
theorem r_ifnonnullN (C0 : zCt Γ E own cc nL ret hh rm) {off : Int} (d : decode cc pc = .ok (.ifnonnull off, 3)) (k : zG Γ Q E nL kc ks S Z M X (pc + 3) L st) : zG Γ Q E nL kc ks S Z M X pc L (.null :: st) := by
  obtain ⟨hx, hb, hml, hown, hr, hlk, hts, hKK, hht, htr, hrm⟩ := C0
  intro ls H locs hl hz hP hS
  exact lv_ifnonnullN hx hb d (k ls H locs hl hz hP hS)
theorem r_tsOut (C0 : zCt Γ E own cc nL ret hh rm) {dflt lo hi : Int} {offs : Array Int} {len : Nat} {x : Int32} (tgt : Nat) (d : decode cc pc = .ok (.tableswitch dflt lo hi offs, len)) (h : x.toInt < lo ∨ hi < x.toInt) (ht : (pc : Int) + dflt = (tgt : Int)) (k : zG Γ Q E nL kc ks S Z M X tgt L st) : zG Γ Q E nL kc ks S Z M X pc L (.int x :: st) := by
  obtain ⟨hx, hb, hml, hown, hr, hlk, hts, hKK, hht, htr, hrm⟩ := C0
  intro ls H locs hl hz hP hS
  exact lv_tableOut hx hb d h ht (k ls H locs hl hz hP hS)
theorem r_tsIn (C0 : zCt Γ E own cc nL ret hh rm) {dflt lo hi : Int} {offs : Array Int} {len : Nat} {x : Int32} {off : Int} (tgt : Nat) (d : decode cc pc = .ok (.tableswitch dflt lo hi offs, len)) (h1 : ¬ x.toInt < lo) (h2 : ¬ hi < x.toInt) (ho : offs[(x.toInt - lo).toNat]? = some off) (ht : (pc : Int) + off = (tgt : Int)) (k : zG Γ Q E nL kc ks S Z M X tgt L st) : zG Γ Q E nL kc ks S Z M X pc L (.int x :: st) := by
  obtain ⟨hx, hb, hml, hown, hr, hlk, hts, hKK, hht, htr, hrm⟩ := C0
  intro ls H locs hl hz hP hS
  exact lv_tableIn hx hb d h1 h2 ho ht (k ls H locs hl hz hP hS)
theorem r_getI (C0 : zCt Γ E own cc nL ret hh rm) {ci k index : Nat} {C : String} {T : u_T} {N : Nat} {ty : Nat → FieldType} {a : Nat} (hc : zcl ci C T N ty) (hka : S.1 a = some (.inl ci)) (hk : k < N) (hw : Cond.fieldLink own index (T k).1 (T k).2.1 (T k).2.2.1 ∈ zWs) (hr0 : zisR ci k = false) (d : decode cc pc = .ok (.getfield index, 3)) (kk : zG Γ Q E nL kc ks S Z M X (pc + 3) L (.int (M a k) :: st)) : zG Γ Q E nL kc ks S Z M X pc L (.ref a :: st) := by
  obtain ⟨hx, hb, hml, hown, hr, hlk, hts, hKK, hht, htr, hrm⟩ := C0
  obtain ⟨c1, c2, c3, c4⟩ := hc
  intro ls H locs hl hz hP hS
  obtain ⟨hlo, r9, h1, cell, q1, q2, q3, q4⟩ := hP a _ hka
  have hr9 : r9 = (C, T, N) := Option.some.inj (h1.symm.trans c1)
  subst hr9
  obtain ⟨hSl, hfc, kC, hkC, hkind⟩ := hKK.2.1.1 ci _ c1
  obtain ⟨cf, kf, fi, f, hi, hsl⟩ := hSl k hk
  refine W.getf hx hb hown (hts _ hw) hi (u_facts hfc hkC (u_lays hts c2 hk) hi).1 q1 (by rw [q3]; exact fun h => by cases h) (v := .int (M a k)) ?_ rfl rfl d (kk ls H locs hl hz hP hS)
  rw [hsl, q4 k hk]
  simp [zfld, hr0]
theorem r_getR (C0 : zCt Γ E own cc nL ret hh rm) {ci k index : Nat} {C : String} {T : u_T} {N : Nat} {ty : Nat → FieldType} {a : Nat} (hc : zcl ci C T N ty) (hka : S.1 a = some (.inl ci)) (hk : k < N) (hw : Cond.fieldLink own index (T k).1 (T k).2.1 (T k).2.2.1 ∈ zWs) (hr0 : zisR ci k = true) {q : Nat} (hR : S.2 a k = some q) (d : decode cc pc = .ok (.getfield index, 3)) (kk : zG Γ Q E nL kc ks S Z M X (pc + 3) L (.ref q :: st)) : zG Γ Q E nL kc ks S Z M X pc L (.ref a :: st) := by
  obtain ⟨hx, hb, hml, hown, hr, hlk, hts, hKK, hht, htr, hrm⟩ := C0
  obtain ⟨c1, c2, c3, c4⟩ := hc
  intro ls H locs hl hz hP hS
  obtain ⟨hlo, r9, h1, cell, q1, q2, q3, q4⟩ := hP a _ hka
  have hr9 : r9 = (C, T, N) := Option.some.inj (h1.symm.trans c1)
  subst hr9
  obtain ⟨hSl, hfc, kC, hkC, hkind⟩ := hKK.2.1.1 ci _ c1
  obtain ⟨cf, kf, fi, f, hi, hsl⟩ := hSl k hk
  refine W.getf hx hb hown (hts _ hw) hi (u_facts hfc hkC (u_lays hts c2 hk) hi).1 q1 (by rw [q3]; exact fun h => by cases h) (v := .ref q) ?_ rfl rfl d (kk ls H locs hl hz hP hS)
  rw [hsl, q4 k hk]
  simp [zfld, hr0, hR, va_rf]
theorem zfld_putI {ci k : Nat} {M : zMi} {a : Nat} {v : Int32} {Ra : Nat → Option Nat} (h : zisR ci k = false) (j : Nat) : updV (zfld ci (M a) Ra) k (.int v) j = zfld ci (wI M a k v a) Ra j := by
  unfold updV zfld wI
  by_cases hj : j = k
  · subst hj; simp [h]
  · simp [hj]
theorem zfld_putR {ci k : Nat} {Ma : Nat → Int32} {S : zSk} {a q : Nat} (h : zisR ci k = true) (j : Nat) : updV (zfld ci Ma (S.2 a)) k (.ref q) j = zfld ci Ma ((wR S a k q).2 a) j := by
  unfold updV zfld wR
  by_cases hj : j = k
  · subst hj; simp [h, va_rf]
  · simp [hj]
theorem r_putI (C0 : zCt Γ E own cc nL ret hh rm) {β : Type} {R : β} {K : zMi → β} {ci k index : Nat} {C : String} {T : u_T} {N : Nat} {ty : Nat → FieldType} {a : Nat} (hc : zcl ci C T N ty) (hka : S.1 a = some (.inl ci)) (hk : k < N) (hw : Cond.fieldLink own index (T k).1 (T k).2.1 (T k).2.2.1 ∈ zWs) (hr0 : zisR ci k = false) (hfin : (T k).2.2.2 = false) {x : Int32} (hn : narrow (ty k) (.int x) = .int x) (hfit : fits (ty k) (.int x) = true) (hf : bnd (wI M a k x) K = R) (d : decode cc pc = .ok (.putfield index, 3)) (kk : ∀ M1 : zMi, K M1 = R → zG Γ Q E nL kc ks S Z M1 X (pc + 3) L st) : zG Γ Q E nL kc ks S Z M X pc L (.int x :: .ref a :: st) := by
  obtain ⟨hx, hb, hml, hown, hr, hlk, hts, hKK, hht, htr, hrm⟩ := C0
  obtain ⟨c1, c2, c3, c4⟩ := hc
  intro ls H locs hl hz hP hS
  obtain ⟨hlo, r9, h1, cell, q1, q2, q3, q4⟩ := hP a _ hka
  have hr9 : r9 = (C, T, N) := Option.some.inj (h1.symm.trans c1)
  subst hr9
  obtain ⟨hSl, hfc, kC, hkC, hkind⟩ := hKK.2.1.1 ci _ c1
  obtain ⟨cf, kf, fi, f, hi, hsl⟩ := hSl k hk
  have hlay := hts _ (c2 _ (u_in_lay hk))
  unfold u_lay at hlay
  rw [if_neg (by rw [hfin]; decide)] at hlay
  have hst := (u_facts hfc hkC (u_lays hts c2 hk) hi).1
  have hap : ∀ x y, x < N → y < N → x ≠ y → (E.1.2 ci) x ≠ (E.1.2 ci) y := va_apart (own := own) hts c2 ty c3 c4 hKK.2.1 c1
  have h6 := u_store hfc hkC hkind hlay hi (c3 k hk) hn hfit
  refine W.putK hx hb (f := f) ⟨hown, hts _ hw, ⟨_, _, _, hi⟩, hst⟩ (by rw [q2]; exact h6) q1 q3 (by rw [hsl]; exact k2_hasslot (q4 k hk)) rfl rfl d fun H1 e1 e2 e3 => ?_
  rw [hsl] at e1 ⊢
  refine kk _ hf ls H1 _ hl (by rw [e2]; exact hz) (hP.set hka rfl e3 (fun q hq => ⟨wI_ne hq, rfl, rfl⟩) ⟨_, c1, t_OB.to ⟨_, e1, q2, q3, t_set q4 hap hk _⟩ (fun j _ => zfld_putI hr0 j)⟩) (hS.put e2 e3 hlo)
theorem r_putZ (C0 : zCt Γ E own cc nL ret hh rm) {β : Type} {r : β} {K : zMi → Option β} {ci k index : Nat} {C : String} {T : u_T} {N : Nat} {ty : Nat → FieldType} {a : Nat} (hc : zcl ci C T N ty) (hka : S.1 a = some (.inl ci)) (hk : k < N) (hw : Cond.fieldLink own index (T k).1 (T k).2.1 (T k).2.2.1 ∈ zWs) (hr0 : zisR ci k = false) (hfin : (T k).2.2.2 = false) (hty : ty k = .boolean) {x : Int32} (hf : grd (zb x) (bnd (wI M a k x) K) = some r) (d : decode cc pc = .ok (.putfield index, 3)) (kk : ∀ M1 : zMi, K M1 = some r → zG Γ Q E nL kc ks S Z M1 X (pc + 3) L st) : zG Γ Q E nL kc ks S Z M X pc L (.int x :: .ref a :: st) := r_putI C0 hc hka hk hw hr0 hfin (by rw [hty]; exact zb_nar (grd_some hf).1) (by rw [hty]; exact zb_fit (grd_some hf).1) (grd_some hf).2 d kk
theorem r_putR (C0 : zCt Γ E own cc nL ret hh rm) {ci k index : Nat} {C : String} {T : u_T} {N : Nat} {ty : Nat → FieldType} {a : Nat} (hc : zcl ci C T N ty) (hka : S.1 a = some (.inl ci)) (hk : k < N) (hw : Cond.fieldLink own index (T k).1 (T k).2.1 (T k).2.2.1 ∈ zWs) (hr0 : zisR ci k = true) (hfin : (T k).2.2.2 = true) (hin2 : (gH Γ).name = "<init>") (hdecl : (T k).1 = own) {q : Nat} (hn : narrow (ty k) (.ref q) = .ref q) (hfit : fits (ty k) (.ref q) = true) (d : decode cc pc = .ok (.putfield index, 3)) (kk : zG Γ Q E nL kc ks (wR S a k q) Z M X (pc + 3) L st) : zG Γ Q E nL kc ks S Z M X pc L (.ref q :: .ref a :: st) := by
  obtain ⟨hx, hb, hml, hown, hr, hlk, hts, hKK, hht, htr, hrm⟩ := C0
  obtain ⟨c1, c2, c3, c4⟩ := hc
  intro ls H locs hl hz hP hS
  obtain ⟨hlo, r9, h1, cell, q1, q2, q3, q4⟩ := hP a _ hka
  have hr9 : r9 = (C, T, N) := Option.some.inj (h1.symm.trans c1)
  subst hr9
  obtain ⟨hSl, hfc, kC, hkC, hkind⟩ := hKK.2.1.1 ci _ c1
  obtain ⟨cf, kf, fi, f, hi, hsl⟩ := hSl k hk
  have hlay := hts _ (c2 _ (u_in_lay hk))
  unfold u_lay at hlay
  rw [if_pos hfin] at hlay
  have hst := (u_facts hfc hkC (u_lays hts c2 hk) hi).1
  have hap : ∀ x y, x < N → y < N → x ≠ y → (E.1.2 ci) x ≠ (E.1.2 ci) y := va_apart (own := own) hts c2 ty c3 c4 hKK.2.1 c1
  have hcf : (gM Γ).cls = cf := by
    obtain ⟨_, _, c', _, _, _, -, -, hf', -, -, -, hown2, -⟩ := Cond.laysFinal_spec hlay
    have e1 : c' = cf := by have := hi.symm.trans hf'; simp at this; exact this.1.symm
    rw [hdecl] at hown2
    rw [← e1]; exact Option.some.inj (hown.symm.trans hown2)
  have h6 := u_fits hfc hkC hkind (Or.inr hlay) hi (c3 k hk) hn hfit
  refine W.putFinK hx hb hown (hts _ hw) hi hst hcf hin2 (by rw [q2]; exact h6) q1 q3 (by rw [hsl]; exact k2_hasslot (q4 k hk)) rfl rfl d fun H1 e1 e2 e3 => ?_
  rw [hsl] at e1 ⊢
  refine kk ls H1 _ hl (by rw [e2]; exact hz) (hP.set hka rfl e3 (fun q hq => ⟨rfl, rfl, wR_ne hq⟩) ⟨_, c1, t_OB.to ⟨_, e1, q2, q3, t_set q4 hap hk _⟩ (fun j _ => zfld_putR hr0 j)⟩) (hS.put e2 e3 hlo)
theorem zty_in (E : zEn) (t : Nat) (h : t < 8) : (ztys E)[t]? = some (E.2.1 t, ztyp t) := by
  match t, h with
  | 0, _ => rfl
  | 1, _ => rfl
  | 2, _ => rfl
  | 3, _ => rfl
  | 4, _ => rfl
  | 5, _ => rfl
  | 6, _ => rfl
  | 7, _ => rfl
theorem zelt_i {t : Nat} (h : t < 3) (Ma : Nat → Int32) (Xa : Nat → Int64) (Ra : Nat → Option Nat) (j : Nat) : zelt t Ma Xa Ra j = .int (Ma j) := by
  unfold zelt; rw [if_neg (by omega), if_pos h]
theorem zelt_l (Ma : Nat → Int32) (Xa : Nat → Int64) (Ra : Nat → Option Nat) (j : Nat) : zelt 3 Ma Xa Ra j = .long (Xa j) := rfl
theorem zelt_r {t : Nat} (h : 4 ≤ t) (Ma : Nat → Int32) (Xa : Nat → Int64) (Ra : Nat → Option Nat) (j : Nat) : zelt t Ma Xa Ra j = va_rf (Ra j) := by
  unfold zelt; rw [if_neg (by omega), if_neg (by omega)]
theorem r_iald (C0 : zCt Γ E own cc nL ret hh rm) {β : Type} {A : Option β} {r : β} {a n : Nat} {i : Int32} (hka : S.1 a = some (.inr (0, n)))  (hf : grd (inb i n) A = some r) (d : decode cc pc = .ok (.iaload, 1)) (kk : A = some r → zG Γ Q E nL kc ks S Z M X (pc + 1) L (.int (M a (ix i)) :: st)) : zG Γ Q E nL kc ks S Z M X pc L (.int i :: .ref a :: st) := by
  obtain ⟨hx, hb, hml, hown, hr, hlk, hts, hKK, hht, htr, hrm⟩ := C0
  obtain ⟨g, hf⟩ := grd_some hf
  have hin := inb_in g
  intro ls H locs hl hz hP hS
  obtain ⟨hlo, h1⟩ := hP a _ hka
  have hlt : i.toNatClampNeg < n := Nat.not_le.mp fun q => hin (Or.inr q)
  exact W.iald (v := .int (M a (ix i))) hx hb h1 ((hKK.2.1.2 0 _ (zty_in E 0 (by decide))).1 n _) (fun q => by cases q) (by show ¬ (i < 0 ∨ (arrV _ _ _).slots.size ≤ _); rw [arrV_size]; exact hin) (by show (arrV _ _ _).slots[_]? = _; rw [arrV_read _ _ hlt]; rfl) rfl rfl d (kk hf ls H locs hl hz hP hS)
theorem r_cald (C0 : zCt Γ E own cc nL ret hh rm) {β : Type} {A : Option β} {r : β} {a n : Nat} {i : Int32} (hka : S.1 a = some (.inr (1, n)))  (hf : grd (inb i n) A = some r) (d : decode cc pc = .ok (.caload, 1)) (kk : A = some r → zG Γ Q E nL kc ks S Z M X (pc + 1) L (.int (M a (ix i)) :: st)) : zG Γ Q E nL kc ks S Z M X pc L (.int i :: .ref a :: st) := by
  obtain ⟨hx, hb, hml, hown, hr, hlk, hts, hKK, hht, htr, hrm⟩ := C0
  obtain ⟨g, hf⟩ := grd_some hf
  have hin := inb_in g
  intro ls H locs hl hz hP hS
  obtain ⟨hlo, h1⟩ := hP a _ hka
  have hlt : i.toNatClampNeg < n := Nat.not_le.mp fun q => hin (Or.inr q)
  exact W.cald (v := .int (M a (ix i))) hx hb h1 ((hKK.2.1.2 1 _ (zty_in E 1 (by decide))).1 n _) (fun q => by cases q) (by show ¬ (i < 0 ∨ (arrV _ _ _).slots.size ≤ _); rw [arrV_size]; exact hin) (by show (arrV _ _ _).slots[_]? = _; rw [arrV_read _ _ hlt]; rfl) rfl rfl d (kk hf ls H locs hl hz hP hS)
theorem r_zald (C0 : zCt Γ E own cc nL ret hh rm) {β : Type} {A : Option β} {r : β} {a n : Nat} {i : Int32} (hka : S.1 a = some (.inr (2, n)))  (hf : grd (inb i n) A = some r) (d : decode cc pc = .ok (.baload, 1)) (kk : A = some r → zG Γ Q E nL kc ks S Z M X (pc + 1) L (.int (M a (ix i)) :: st)) : zG Γ Q E nL kc ks S Z M X pc L (.int i :: .ref a :: st) := by
  obtain ⟨hx, hb, hml, hown, hr, hlk, hts, hKK, hht, htr, hrm⟩ := C0
  obtain ⟨g, hf⟩ := grd_some hf
  have hin := inb_in g
  intro ls H locs hl hz hP hS
  obtain ⟨hlo, h1⟩ := hP a _ hka
  have hlt : i.toNatClampNeg < n := Nat.not_le.mp fun q => hin (Or.inr q)
  exact W.zald (v := .int (M a (ix i))) hx hb h1 ((hKK.2.1.2 2 _ (zty_in E 2 (by decide))).1 n _) (fun q => by cases q) (by show ¬ (i < 0 ∨ (arrV _ _ _).slots.size ≤ _); rw [arrV_size]; exact hin) (by show (arrV _ _ _).slots[_]? = _; rw [arrV_read _ _ hlt]; rfl) rfl rfl d (kk hf ls H locs hl hz hP hS)
theorem r_lald (C0 : zCt Γ E own cc nL ret hh rm) {β : Type} {A : Option β} {r : β} {a n : Nat} {i : Int32} (hka : S.1 a = some (.inr (3, n)))  (hf : grd (inb i n) A = some r) (d : decode cc pc = .ok (.laload, 1)) (kk : A = some r → zG Γ Q E nL kc ks S Z M X (pc + 1) L (.long (X a (ix i)) :: st)) : zG Γ Q E nL kc ks S Z M X pc L (.int i :: .ref a :: st) := by
  obtain ⟨hx, hb, hml, hown, hr, hlk, hts, hKK, hht, htr, hrm⟩ := C0
  obtain ⟨g, hf⟩ := grd_some hf
  have hin := inb_in g
  intro ls H locs hl hz hP hS
  obtain ⟨hlo, h1⟩ := hP a _ hka
  have hlt : i.toNatClampNeg < n := Nat.not_le.mp fun q => hin (Or.inr q)
  exact W.lald (v := .long (X a (ix i))) hx hb h1 ((hKK.2.1.2 3 _ (zty_in E 3 (by decide))).1 n _) (fun q => by cases q) (by show ¬ (i < 0 ∨ (arrV _ _ _).slots.size ≤ _); rw [arrV_size]; exact hin) (by show (arrV _ _ _).slots[_]? = _; rw [arrV_read _ _ hlt]; rfl) rfl rfl d (kk hf ls H locs hl hz hP hS)
theorem r_aald (C0 : zCt Γ E own cc nL ret hh rm) {β : Type} {A : Option β} {r : β} {a n t : Nat} {i : Int32} {C : String} {g : Nat → Nat} (hka : S.1 a = some (.inr (t, n))) (ht : t < 8) (h4 : 4 ≤ t) (hC : ztyp t = .object C) (hR : ∀ j, j < n → S.2 a j = some (g j)) (hf : grd (inb i n) A = some r) (d : decode cc pc = .ok (.aaload, 1)) (kk : ix i < n → A = some r → zG Γ Q E nL kc ks S Z M X (pc + 1) L (.ref (g (ix i)) :: st)) : zG Γ Q E nL kc ks S Z M X pc L (.int i :: .ref a :: st) := by
  obtain ⟨hx, hb, hml, hown, hr, hlk, hts, hKK, hht, htr, hrm⟩ := C0
  obtain ⟨g1, hf⟩ := grd_some hf
  have hin := inb_in g1
  intro ls H locs hl hz hP hS
  obtain ⟨hlo, h1⟩ := hP a _ hka
  have hlt : i.toNatClampNeg < n := Nat.not_le.mp fun q => hin (Or.inr q)
  have hA := (hKK.2.1.2 t _ (zty_in E t ht)).1
  refine W.aald (v := .ref (g (ix i))) (ty := ztyp t) hx hb h1 (hA n _) (by rw [hC]; rfl) (fun q => by cases q) (by show ¬ (i < 0 ∨ (arrV _ _ _).slots.size ≤ _); rw [arrV_size]; exact hin) (by show (arrV _ _ _).slots[_]? = _; rw [arrV_read _ _ hlt, zelt_r h4, hR _ hlt]; rfl) rfl rfl d (kk hlt hf ls H locs hl hz hP hS)
theorem r_alen (C0 : zCt Γ E own cc nL ret hh rm) {a n t : Nat} {v : Int32} (hka : S.1 a = some (.inr (t, n))) (ht : t < 8) (hv : Int32.ofNat n = v) (d : decode cc pc = .ok (.arraylength, 1)) (kk : zG Γ Q E nL kc ks S Z M X (pc + 1) L (.int v :: st)) : zG Γ Q E nL kc ks S Z M X pc L (.ref a :: st) := by
  obtain ⟨hx, hb, hml, hown, hr, hlk, hts, hKK, hht, htr, hrm⟩ := C0
  intro ls H locs hl hz hP hS
  obtain ⟨hlo, h1⟩ := hP a _ hka
  exact W.alen (n := v) hx hb h1 ((hKK.2.1.2 t _ (zty_in E t ht)).1 n _) (by rw [arrV_size]; exact hv) rfl rfl d (kk ls H locs hl hz hP hS)
def znar (t : FieldType) (x : Int32) : Int32 := vp_nar t x
theorem r_iast (C0 : zCt Γ E own cc nL ret hh rm) {β : Type} {r : β} {K : zMi → Option β} {a n : Nat} {i : Int32} {x : Int32} (hka : S.1 a = some (.inr (0, n))) (hf : grd (inb i n) (bnd (wI M a (ix i) x) K) = some r) (d : decode cc pc = .ok (.iastore, 1)) (kk : ∀ M1 : zMi, K M1 = some r → zG Γ Q E nL kc ks S Z M1 X (pc + 1) L st) : zG Γ Q E nL kc ks S Z M X pc L (.int x :: .int i :: .ref a :: st) := by
  obtain ⟨hx, hb, hml, hown, hr, hlk, hts, hKK, hht, htr, hrm⟩ := C0
  obtain ⟨g, hf⟩ := grd_some hf
  have hin := inb_in g
  intro ls H locs hl hz hP hS
  obtain ⟨hlo, h1⟩ := hP a _ hka
  refine W.iast hx hb h1 ((hKK.2.1.2 0 _ (zty_in E 0 (by decide))).1 n _) (fun q => by cases q) (by show ¬ (i < 0 ∨ (arrV _ _ _).slots.size ≤ _); rw [arrV_size]; exact hin) rfl rfl d fun H1 e z oq => ?_
  refine kk _ hf ls H1 _ hl (by rw [z]; exact hz) (hP.set hka rfl oq (fun q hq => ⟨wI_ne hq, rfl, rfl⟩) ?_) (hS.put z oq hlo)
  show H1[a]? = some (arrV _ _ _)
  rw [e, arrV_store]
  congr 2
  funext q
  by_cases hq : q = i.toNatClampNeg
  · subst hq; simp [updV, zelt, wI, ix]
  · simp [updV, zelt, wI, ix, hq]
theorem r_cast (C0 : zCt Γ E own cc nL ret hh rm) {β : Type} {r : β} {K : zMi → Option β} {a n : Nat} {i : Int32} {x : Int32} (hka : S.1 a = some (.inr (1, n))) (hf : grd (inb i n) (bnd (wI M a (ix i) (znar .char x)) K) = some r) (d : decode cc pc = .ok (.castore, 1)) (kk : ∀ M1 : zMi, K M1 = some r → zG Γ Q E nL kc ks S Z M1 X (pc + 1) L st) : zG Γ Q E nL kc ks S Z M X pc L (.int x :: .int i :: .ref a :: st) := by
  obtain ⟨hx, hb, hml, hown, hr, hlk, hts, hKK, hht, htr, hrm⟩ := C0
  obtain ⟨g, hf⟩ := grd_some hf
  have hin := inb_in g
  intro ls H locs hl hz hP hS
  obtain ⟨hlo, h1⟩ := hP a _ hka
  refine W.cast hx hb h1 ((hKK.2.1.2 1 _ (zty_in E 1 (by decide))).1 n _) (fun q => by cases q) (by show ¬ (i < 0 ∨ (arrV _ _ _).slots.size ≤ _); rw [arrV_size]; exact hin) rfl rfl d fun H1 e z oq => ?_
  refine kk _ hf ls H1 _ hl (by rw [z]; exact hz) (hP.set hka rfl oq (fun q hq => ⟨wI_ne hq, rfl, rfl⟩) ?_) (hS.put z oq hlo)
  show H1[a]? = some (arrV _ _ _)
  rw [e, arrV_store]
  congr 2
  funext q
  by_cases hq : q = i.toNatClampNeg
  · subst hq; simp [updV, zelt, wI, ix, znar, narrow, vp_nar]
  · simp [updV, zelt, wI, ix, hq]
theorem r_zast (C0 : zCt Γ E own cc nL ret hh rm) {β : Type} {r : β} {K : zMi → Option β} {a n : Nat} {i : Int32} {x : Int32} (hka : S.1 a = some (.inr (2, n))) (hf : grd (inb i n) (bnd (wI M a (ix i) (znar .boolean x)) K) = some r) (d : decode cc pc = .ok (.bastore, 1)) (kk : ∀ M1 : zMi, K M1 = some r → zG Γ Q E nL kc ks S Z M1 X (pc + 1) L st) : zG Γ Q E nL kc ks S Z M X pc L (.int x :: .int i :: .ref a :: st) := by
  obtain ⟨hx, hb, hml, hown, hr, hlk, hts, hKK, hht, htr, hrm⟩ := C0
  obtain ⟨g, hf⟩ := grd_some hf
  have hin := inb_in g
  intro ls H locs hl hz hP hS
  obtain ⟨hlo, h1⟩ := hP a _ hka
  refine W.zast hx hb h1 ((hKK.2.1.2 2 _ (zty_in E 2 (by decide))).1 n _) (fun q => by cases q) (by show ¬ (i < 0 ∨ (arrV _ _ _).slots.size ≤ _); rw [arrV_size]; exact hin) rfl rfl d fun H1 e z oq => ?_
  refine kk _ hf ls H1 _ hl (by rw [z]; exact hz) (hP.set hka rfl oq (fun q hq => ⟨wI_ne hq, rfl, rfl⟩) ?_) (hS.put z oq hlo)
  show H1[a]? = some (arrV _ _ _)
  rw [e, arrV_store]
  congr 2
  funext q
  by_cases hq : q = i.toNatClampNeg
  · subst hq; simp [updV, zelt, wI, ix, znar, narrow, vp_nar]
  · simp [updV, zelt, wI, ix, hq]
theorem r_last (C0 : zCt Γ E own cc nL ret hh rm) {β : Type} {r : β} {K : zMl → Option β} {a n : Nat} {i : Int32} {x : Int64} (hka : S.1 a = some (.inr (3, n))) (hf : grd (inb i n) (bnd (wL X a (ix i) x) K) = some r) (d : decode cc pc = .ok (.lastore, 1)) (kk : ∀ X1 : zMl, K X1 = some r → zG Γ Q E nL kc ks S Z M X1 (pc + 1) L st) : zG Γ Q E nL kc ks S Z M X pc L (.long x :: .int i :: .ref a :: st) := by
  obtain ⟨hx, hb, hml, hown, hr, hlk, hts, hKK, hht, htr, hrm⟩ := C0
  obtain ⟨g, hf⟩ := grd_some hf
  have hin := inb_in g
  intro ls H locs hl hz hP hS
  obtain ⟨hlo, h1⟩ := hP a _ hka
  refine W.last hx hb h1 ((hKK.2.1.2 3 _ (zty_in E 3 (by decide))).1 n _) (fun q => by cases q) (by show ¬ (i < 0 ∨ (arrV _ _ _).slots.size ≤ _); rw [arrV_size]; exact hin) rfl rfl d fun H1 e z oq => ?_
  refine kk _ hf ls H1 _ hl (by rw [z]; exact hz) (hP.set hka rfl oq (fun q hq => ⟨rfl, wL_ne hq, rfl⟩) ?_) (hS.put z oq hlo)
  show H1[a]? = some (arrV _ _ _)
  rw [e, arrV_store]
  congr 2
  funext q
  by_cases hq : q = i.toNatClampNeg
  · subst hq; simp [updV, zelt, wL, ix]
  · simp [updV, zelt, wL, ix, hq]
def zPre (E : zEn) (av : List Value) (S : zSk) (Z : Nat → Prop) (M : zMi) (X : zMl) : Array Value → State → Prop := fun v U => v = av.toArray ∧ Z U.heap.size ∧ zRp E S M X U.heap ∧ zKK E U
def zPost (E : zEn) (S : zSk) (Z : Nat → Prop) (ov : Option Value) (M : zMi) (X : zMl) : Array Value → State → Outcome → State → Prop := fun _ s o t => o = .returned ov ∧ Z t.heap.size ∧ zRp E S M X t.heap ∧ va_F (zlo E) s t
theorem zPre.blind {E : zEn} {av : List Value} {S : zSk} {Z : Nat → Prop} {M : zMi} {X : zMl} : FrameBlind (zPre E av S Z M X) := fun a U g mk q => by
  obtain ⟨h1, h2, h3, h4⟩ := q
  exact ⟨h1, h2, h3, h4.warm (U := U.calling g mk a) (State.WarmedH.refl U) (Nat.le_refl _) (fun _ _ _ => rfl)⟩
def zM (l : Launch) (E : zEn) (y : MethodName) (b : ByteArray) (maxL : Nat) (ret : Option FieldType) (rm : Room) (mc ms : Nat) (av : List Value) (S : zSk) (Z : Nat → Prop) (M : zMi) (X : zMl) (S' : zSk) (Z' : Nat → Prop) (ov : Option Value) (M' : zMi) (X' : zMl) : Prop :=
  Met l y [.code y b maxL ret] rm (zPre E av S Z M X) (zPost E S' Z' ov M' X') mc ms (zlo E)
/-- what a body owes at its end -/
abbrev zQ (Γ : zCx) (E : zEn) (mc ms : Nat) (S' : zSk) (Z' : Nat → Prop) (ov : Option Value) (M' : zMi) (X' : zMl) : State → Prop := MQ (gB Γ) (zPost E S' Z' ov M' X') (gA Γ) (gS Γ) mc ms (zlo E)
theorem zCt.of {p : Program} {l : Launch} {e : Env} {s : State} {m : MethodId} {args : Array Value} {below : List Frame} {meth : Method} {c : Code} {s₁ : State} {E : zEn} {y : MethodName} {cc : ByteArray} {maxL : Nat} {ret : Option FieldType} {rm : Room} (hl : l.stackTraces = false)
    (B : BodyLoose p l y (headSpec [.code y cc maxL ret] rm) cc maxL ret e s m args below meth c s₁) (hml : c.maxLocals = maxL) (hK : zKK E s) : zCt (p, l, e, rm, s, m, args, below, meth, c) E y.cls cc maxL ret [] rm := by
  refine ⟨B.exec, B.bytes, hml, findClass_of_methodNamed B.named, B.returns, B.notSynchronized, fun w hw => zw_at (State.WarmedH.refl s) (List.mem_filter.mp hw).2 (hK.2.2.1 w hw), hK, ?_, hl, rfl⟩
  obtain ⟨meth9, c9, h1, h2, -, -, -, -, h7, -⟩ := Cond.code_spec B.named (atoms_spec (ws := [.code y cc maxL ret]) B.pre _ List.mem_cons_self)
  cases Option.some.inj (h1.symm.trans B.method)
  cases Option.some.inj (h2.symm.trans (Stand.of_body B).code)
  show c.exceptionTable.toList = []
  exact congrArg Array.toList (Array.isEmpty_iff.mp h7)
theorem zM.intro {l : Launch} {y : MethodName} {b : ByteArray} {maxL : Nat} {rm : Room} {mc ms : Nat} {av : List Value} {S' : zSk} {Z' : Nat → Prop} {ov : Option Value} {M' : zMi} {X' : zMl} {L0 : List (Nat × Value)} (hl : l.stackTraces = false) (hy : plainName y.cls = true) (hav : (lg_sl av).length ≤ maxL) (hL0 : lv_args 0 av = L0)
    (body : ∀ Γ : zCx, zCt Γ E y.cls b maxL ret [] rm → ((gS Γ).methodNamed? y = some (gM Γ) ∧ (gS Γ).vm.method? (gM Γ) = some (gH Γ)) → zG Γ (zQ Γ E mc ms S' Z' ov M' X') E maxL 0 0 S Z M X 0 L0 []) : zM l E y b maxL ret rm mc ms av S Z M X S' Z' ov M' X' := by
  refine Met.ofW (cc := b) (maxL := maxL) (ret := ret) hy rfl ?_
  intro p e s m args below meth c s₁ B hml hv
  obtain ⟨rfl, hz, hP, hK⟩ := hv
  have hl0 := lv_entry av (n := maxL) hav
  rw [hL0] at hl0
  rw [lg_entry_eq]
  exact body (p, l, e, rm, s, m, av.toArray, below, meth, c) (zCt.of hl B hml hK) ⟨B.named, B.method⟩ _ s.heap [] hl0 hz hP va_S.rf
theorem r_widen {k1 s1 : Nat} (h1 : kc ≤ k1) (h2 : ks ≤ s1) (k : zG Γ Q E nL k1 s1 S Z M X pc L st) : zG Γ Q E nL kc ks S Z M X pc L st := fun ls H locs hl hz hP hS => W.widen h1 h2 (k ls H locs hl hz hP hS)
theorem r_iret (C0 : zCt Γ E own cc nL (some .int) hh rm) {v : Int32} (d : decode cc pc = .ok (.ireturn, 1)) : zG Γ (zQ Γ E kc ks S Z (some (.int v)) M X) E nL kc ks S Z M X pc L [.int v] := by
  obtain ⟨hx, hb, hml, hown, hr, hlk, hts, hKK, hht, htr, hrm⟩ := C0
  intro ls H locs hl hz hP hS
  exact W.iret hx hb hr (fun t ht _ => ⟨rfl, by rw [ht]; exact hz, by rw [ht]; exact hP, hS.F ht⟩) hS.2.2 d hlk
theorem r_zret (C0 : zCt Γ E own cc nL (some .boolean) hh rm) {v : Int32} (hv : zb v = true) (d : decode cc pc = .ok (.ireturn, 1)) : zG Γ (zQ Γ E kc ks S Z (some (.int v)) M X) E nL kc ks S Z M X pc L [.int v] := by
  obtain ⟨hx, hb, hml, hown, hr, hlk, hts, hKK, hht, htr, hrm⟩ := C0
  intro ls H locs hl hz hP hS
  exact W.zret hx hb hr (zb_nar hv) (fun t ht _ => ⟨rfl, by rw [ht]; exact hz, by rw [ht]; exact hP, hS.F ht⟩) hS.2.2 d hlk
theorem r_lret (C0 : zCt Γ E own cc nL (some .long) hh rm) {v : Int64} (d : decode cc pc = .ok (.lreturn, 1)) : zG Γ (zQ Γ E kc ks S Z (some (.long v)) M X) E nL kc ks S Z M X pc L [.long v] := by
  obtain ⟨hx, hb, hml, hown, hr, hlk, hts, hKK, hht, htr, hrm⟩ := C0
  intro ls H locs hl hz hP hS
  exact W.lret hx hb hr (fun t ht _ => ⟨rfl, by rw [ht]; exact hz, by rw [ht]; exact hP, hS.F ht⟩) hS.2.2 d hlk
theorem r_vret (C0 : zCt Γ E own cc nL none hh rm)  (d : decode cc pc = .ok (.return_, 1)) : zG Γ (zQ Γ E kc ks S Z none M X) E nL kc ks S Z M X pc L [] := by
  obtain ⟨hx, hb, hml, hown, hr, hlk, hts, hKK, hht, htr, hrm⟩ := C0
  intro ls H locs hl hz hP hS
  exact W.vret hx hb hr (fun t ht _ => ⟨rfl, by rw [ht]; exact hz, by rw [ht]; exact hP, hS.F ht⟩) hS.2.2 d hlk
theorem r_aret {C : String} (C0 : zCt Γ E own cc nL (some (.object C)) hh rm) {v : Option Nat} (d : decode cc pc = .ok (.areturn, 1)) : zG Γ (zQ Γ E kc ks S Z (some (va_rf v)) M X) E nL kc ks S Z M X pc L [va_rf v] := by
  obtain ⟨hx, hb, hml, hown, hr, hlk, hts, hKK, hht, htr, hrm⟩ := C0
  intro ls H locs hl hz hP hS
  exact W.aret hx hb hr (Or.inl ⟨_, rfl⟩) (by cases v <;> first | exact Or.inl rfl | exact Or.inr ⟨_, rfl⟩) (fun t ht _ => ⟨rfl, by rw [ht]; exact hz, by rw [ht]; exact hP, hS.F ht⟩) hS.2.2 d hlk
def cal {α β : Type} (x : Option α) (k : α → Option β) : Option β := match x with | some a => k a | none => none
theorem cal_some {α β : Type} {x : Option α} {k : α → Option β} {r : β} (h : cal x k = some r) : ∃ a, x = some a ∧ k a = some r := by
  cases x with
  | none => cases h
  | some a => exact ⟨a, rfl, h⟩
/-- what a call's site needs of the tables -/
def zcv (own : String) (index : Nat) (C : String) (y : MethodName) (b : ByteArray) (maxL : Nat) (ret : Option FieldType) (n : Nat) : Prop :=
  Cond.code y b maxL ret ∈ zWs ∧ Cond.initialized y.cls ∈ zWs ∧ (y.cls ≠ "java/lang/invoke/MethodHandle" ∧ y.cls ≠ "java/lang/invoke/VarHandle") ∧ (parseMethodDescriptor y.desc).map (fun d => d.parameters.length) = some n ∧ Cond.methodLink own index y ∈ zWs ∧ Cond.instanceMethod y ∈ zWs ∧ Cond.selects C y y ∈ zWs
def zcs (own : String) (index : Nat) (y : MethodName) (b : ByteArray) (maxL : Nat) (ret : Option FieldType) (n : Nat) : Prop :=
  Cond.code y b maxL ret ∈ zWs ∧ Cond.initialized y.cls ∈ zWs ∧ (y.cls ≠ "java/lang/invoke/MethodHandle" ∧ y.cls ≠ "java/lang/invoke/VarHandle") ∧ (parseMethodDescriptor y.desc).map (fun d => d.parameters.length) = some n ∧ Cond.methodLink own index y ∈ zWs ∧ Cond.static y ∈ zWs
def zrm (rm' rm : Room) (maxL mc ms kc ks : Nat) : Prop := rm'.frames + 1 ≤ rm.frames ∧ 8 + (maxL + 11) + rm'.locals ≤ rm.locals ∧ kc + mc ≤ rm.cells ∧ ks + ms ≤ rm.slots ∧ rm'.cells = mc ∧ rm'.slots = ms
theorem zlen {y : MethodName} {n : Nat} (h : (parseMethodDescriptor y.desc).map (fun d => d.parameters.length) = some n) : ∀ sig, parseMethodDescriptor y.desc = some sig → n = sig.parameters.length := fun sig e => by
  rw [e] at h
  exact (Option.some.inj h).symm
theorem zcont {p : Program} {l : Launch} {e : Env} {R : Room} {s : State} {m : MethodId} {args : Array Value} {below : List Frame} {meth : Method} {c : Code} {H : Heap} {locs : List Loc} {k n mc ms : Nat} {Q : State → Prop} {pc : Nat} {ls : Array Slot} {rest st0 : List Value} {a : Array Value} {E : zEn} {S' : zSk} {Z' : Nat → Prop} {ov : Option Value} {M' : zMi} {X' : zMl}
    (hr : va_Run p l e R s m args below meth c H locs k n mc ms (F0 m pc ls st0) rest (zPost E S' Z' ov M' X' a) (zlo E)) (hS : va_S (zlo E) s.heap H locs)
    (kk : ∀ (H1 : Heap) (locs1 : List Loc), Z' H1.size → zRp E S' M' X' H1 → va_S (zlo E) s.heap H1 locs1 → W p l e R s m args below meth c H1 locs1 (k + mc) (n + ms) Q (F0 m (pc + 3) ls (ov.toList ++ rest))) : W p l e R s m args below meth c H locs k n Q (F0 m pc ls st0) := by
  intro T hT X
  obtain ⟨v, st₀, t, T', L, h0, X', hL, e1, e2, ⟨hv, hz', hP', hz, hk⟩, st⟩ := hr T hT X
  cases hv
  rw [h0] at hz hk
  obtain ⟨t2, a1, b1⟩ := kk T'.heap (locs ++ L) (by rw [e1]; exact hz') (by rw [e1]; exact hP')
    ⟨Nat.le_trans hS.1 (by rw [e1]; exact hz), fun q h1 h2 => by rw [e1, hk q (Nat.lt_of_lt_of_le h1 hS.1) h2]; exact hS.2.1 q h1 h2, fun q hq => by
      rcases List.mem_append.mp hq with h | h
      · exact hS.2.2 q h
      · exact hL q h⟩ T' rfl X'
  exact ⟨t2, st t2 a1, b1⟩
theorem zcode {y : MethodName} {b : ByteArray} {maxL : Nat} {ret : Option FieldType} {s : State} {args : Array Value} (hts : ∀ w ∈ zWs, w.before args s = true) (h : Cond.code y b maxL ret ∈ zWs) : ∀ w ∈ [Cond.code y b maxL ret], ∀ (a' : Array Value) (U : State), s.WarmedH U.vm → w.before a' U = true := fun w hw a' U hW => by
  rw [List.mem_singleton] at hw
  subst hw
  exact zw_at hW (List.mem_filter.mp h).2 (hts _ h)
theorem r_callV (C0 : zCt Γ E own cc nL ret hh rm) {ρ β : Type} {f : Option ρ} {K : ρ → Option β} {r : β} {y : MethodName} {b1 : ByteArray} {maxL1 : Nat} {ret1 : Option FieldType} {rm1 : Room} {mc ms n index : Nat} {Z1 : Nat → Prop} {stk : List Value} {C : String} {ov : ρ → Option Value} {mo : ρ → zMi} {xo : ρ → zMl} (As : List Value) (b : Nat) (hf : cal f K = some r) (hcv : zcv own index C y b1 maxL1 ret1 n) (hM : (gL Γ).stackTraces = false → ∀ r1, f = some r1 → zM (gL Γ) E y b1 maxL1 ret1 rm1 mc ms (.ref b :: As) S Z M X S Z1 (ov r1) (mo r1) (xo r1)) {ci : Nat} {q9 : vw_C} (hkb : S.1 b = some (.inl ci)) (hci : vwCl[ci]? = some q9) (hq9 : q9.1 = C) (hn : As.length = n) (hst : stk = As.reverse ++ .ref b :: st) (hrt : (st.map fun v => v.category).sum ≤ 8) (d : decode cc pc = .ok (.invokevirtual index, 3)) (hroom : zrm rm1 rm maxL1 mc ms kc ks) (k : ∀ r1, f = some r1 → K r1 = some r → zG Γ Q E nL (kc + mc) (ks + ms) S Z1 (mo r1) (xo r1) (pc + 3) L ((ov r1).toList ++ st)) : zG Γ Q E nL kc ks S Z M X pc L stk := by
  obtain ⟨hx, hb, hml, hown, hr, hlk, hts, hKK, hht, htr, hrm⟩ := C0
  obtain ⟨r1, e1, hf⟩ := cal_some hf
  obtain ⟨g1, g2, g3, g4, g5, g6, g7⟩ := hcv
  obtain ⟨i1, i2, i3, i4, i5, i6⟩ := hroom
  subst hst
  intro ls H locs hl hz hP hS
  obtain ⟨-, r9, j1, cell, j2, j3, j4, -⟩ := hP b _ hkb
  have hr9 : r9 = q9 := Option.some.inj (j1.symm.trans hci)
  subst hr9
  refine zcont (va_runV (Ts := zWs) ⟨hx, hb, hml, hown, hts⟩ (hM htr r1 e1) ⟨⟨i5, i6, by rw [hrm]; exact i1, by rw [hrm]; exact i2, zcode hts g1, List.mem_cons_self, hts _ g1, hts _ g2, g3, zlen g4, hts _ g5⟩, hts _ g6, hts _ g7⟩ ⟨zPre.blind, ⟨cell, j2, by rw [j4]; rfl, by rw [j3, ← hq9]; exact (hKK.2.1.1 ci _ j1).2.1⟩, fun U hU hW => ⟨rfl, by rw [hU]; exact hz, by rw [hU]; exact hP, hKK.warm hW (by rw [hU]; exact hS.1) (fun q h1 h2 => by rw [hU]; exact hS.2.1 q h1 h2)⟩⟩ rfl hn hl.1 rfl (lv_room hrt) d ⟨by rw [hrm]; exact i3, by rw [hrm]; exact i4⟩) hS (fun H1 locs1 hz1 hP1 hS1 => ?_)
  exact k r1 e1 hf ls H1 locs1 hl hz1 hP1 hS1
theorem r_callS (C0 : zCt Γ E own cc nL ret hh rm) {ρ β : Type} {f : Option ρ} {K : ρ → Option β} {r : β} {y : MethodName} {b1 : ByteArray} {maxL1 : Nat} {ret1 : Option FieldType} {rm1 : Room} {mc ms n index : Nat} {Z1 : Nat → Prop} {stk : List Value} {ov : ρ → Option Value} {mo : ρ → zMi} {xo : ρ → zMl} (As : List Value) (hf : cal f K = some r) (hcv : zcs own index y b1 maxL1 ret1 n) (hM : (gL Γ).stackTraces = false → ∀ r1, f = some r1 → zM (gL Γ) E y b1 maxL1 ret1 rm1 mc ms As S Z M X S Z1 (ov r1) (mo r1) (xo r1)) (hn : As.length = n) (hst : stk = As.reverse ++ st) (hrt : (st.map fun v => v.category).sum ≤ 8) (d : decode cc pc = .ok (.invokestatic index, 3)) (hroom : zrm rm1 rm maxL1 mc ms kc ks) (k : ∀ r1, f = some r1 → K r1 = some r → zG Γ Q E nL (kc + mc) (ks + ms) S Z1 (mo r1) (xo r1) (pc + 3) L ((ov r1).toList ++ st)) : zG Γ Q E nL kc ks S Z M X pc L stk := by
  obtain ⟨hx, hb, hml, hown, hr, hlk, hts, hKK, hht, htr, hrm⟩ := C0
  obtain ⟨r1, e1, hf⟩ := cal_some hf
  obtain ⟨g1, g2, g3, g4, g5, g6⟩ := hcv
  obtain ⟨i1, i2, i3, i4, i5, i6⟩ := hroom
  subst hst
  intro ls H locs hl hz hP hS
  refine zcont (va_runS (Ts := zWs) ⟨hx, hb, hml, hown, hts⟩ (hM htr r1 e1) ⟨⟨i5, i6, by rw [hrm]; exact i1, by rw [hrm]; exact i2, zcode hts g1, List.mem_cons_self, hts _ g1, hts _ g2, g3, zlen g4, hts _ g5⟩, hts _ g6⟩ ⟨zPre.blind, fun U hU hW => ⟨rfl, by rw [hU]; exact hz, by rw [hU]; exact hP, hKK.warm hW (by rw [hU]; exact hS.1) (fun q h1 h2 => by rw [hU]; exact hS.2.1 q h1 h2)⟩⟩ rfl hn hl.1 rfl (lv_room hrt) d ⟨by rw [hrm]; exact i3, by rw [hrm]; exact i4⟩) hS (fun H1 locs1 hz1 hP1 hS1 => ?_)
  exact k r1 e1 hf ls H1 locs1 hl hz1 hP1 hS1
theorem r_callVim (C0 : zCt Γ E own cc nL ret hh rm) {β : Type} {f : Option (Int32 × zMi)} {K : Int32 × zMi → Option β} {r : β} {y : MethodName} {b1 : ByteArray} {maxL1 : Nat} {ret1 : Option FieldType} {rm1 : Room} {mc ms n index : Nat} {Z1 : Nat → Prop} {stk : List Value} {C : String} (As : List Value) (b : Nat) (hf : cal f K = some r) (hcv : zcv own index C y b1 maxL1 ret1 n) (hM : (gL Γ).stackTraces = false → ∀ r1, f = some r1 → zM (gL Γ) E y b1 maxL1 ret1 rm1 mc ms (.ref b :: As) S Z M X S Z1 (some (.int r1.1)) (r1.2) X) {ci : Nat} {q9 : vw_C} (hkb : S.1 b = some (.inl ci)) (hci : vwCl[ci]? = some q9) (hq9 : q9.1 = C) (hn : As.length = n) (hst : stk = As.reverse ++ .ref b :: st) (hrt : (st.map fun v => v.category).sum ≤ 8) (d : decode cc pc = .ok (.invokevirtual index, 3)) (hroom : zrm rm1 rm maxL1 mc ms kc ks) (k : ∀ r1, f = some r1 → K r1 = some r → zG Γ Q E nL (kc + mc) (ks + ms) S Z1 r1.2 X (pc + 3) L (.int r1.1 :: st)) : zG Γ Q E nL kc ks S Z M X pc L stk :=
  r_callV C0 (ov := fun r1 => some (.int r1.1)) (mo := fun r1 => r1.2) (xo := fun _ => X) As b hf hcv hM hkb hci hq9 hn hst hrt d hroom k
theorem r_callSim (C0 : zCt Γ E own cc nL ret hh rm) {β : Type} {f : Option (Int32 × zMi)} {K : Int32 × zMi → Option β} {r : β} {y : MethodName} {b1 : ByteArray} {maxL1 : Nat} {ret1 : Option FieldType} {rm1 : Room} {mc ms n index : Nat} {Z1 : Nat → Prop} {stk : List Value} (As : List Value) (hf : cal f K = some r) (hcv : zcs own index y b1 maxL1 ret1 n) (hM : (gL Γ).stackTraces = false → ∀ r1, f = some r1 → zM (gL Γ) E y b1 maxL1 ret1 rm1 mc ms As S Z M X S Z1 (some (.int r1.1)) (r1.2) X) (hn : As.length = n) (hst : stk = As.reverse ++ st) (hrt : (st.map fun v => v.category).sum ≤ 8) (d : decode cc pc = .ok (.invokestatic index, 3)) (hroom : zrm rm1 rm maxL1 mc ms kc ks) (k : ∀ r1, f = some r1 → K r1 = some r → zG Γ Q E nL (kc + mc) (ks + ms) S Z1 r1.2 X (pc + 3) L (.int r1.1 :: st)) : zG Γ Q E nL kc ks S Z M X pc L stk :=
  r_callS C0 (ov := fun r1 => some (.int r1.1)) (mo := fun r1 => r1.2) (xo := fun _ => X) As hf hcv hM hn hst hrt d hroom k
theorem r_callVi (C0 : zCt Γ E own cc nL ret hh rm) {β : Type} {f : Option (Int32)} {K : Int32 → Option β} {r : β} {y : MethodName} {b1 : ByteArray} {maxL1 : Nat} {ret1 : Option FieldType} {rm1 : Room} {mc ms n index : Nat} {Z1 : Nat → Prop} {stk : List Value} {C : String} (As : List Value) (b : Nat) (hf : cal f K = some r) (hcv : zcv own index C y b1 maxL1 ret1 n) (hM : (gL Γ).stackTraces = false → ∀ r1, f = some r1 → zM (gL Γ) E y b1 maxL1 ret1 rm1 mc ms (.ref b :: As) S Z M X S Z1 (some (.int r1)) (M) X) {ci : Nat} {q9 : vw_C} (hkb : S.1 b = some (.inl ci)) (hci : vwCl[ci]? = some q9) (hq9 : q9.1 = C) (hn : As.length = n) (hst : stk = As.reverse ++ .ref b :: st) (hrt : (st.map fun v => v.category).sum ≤ 8) (d : decode cc pc = .ok (.invokevirtual index, 3)) (hroom : zrm rm1 rm maxL1 mc ms kc ks) (k : ∀ r1, f = some r1 → K r1 = some r → zG Γ Q E nL (kc + mc) (ks + ms) S Z1 M X (pc + 3) L (.int r1 :: st)) : zG Γ Q E nL kc ks S Z M X pc L stk :=
  r_callV C0 (ov := fun r1 => some (.int r1)) (mo := fun _ => M) (xo := fun _ => X) As b hf hcv hM hkb hci hq9 hn hst hrt d hroom k
theorem r_callSi (C0 : zCt Γ E own cc nL ret hh rm) {β : Type} {f : Option (Int32)} {K : Int32 → Option β} {r : β} {y : MethodName} {b1 : ByteArray} {maxL1 : Nat} {ret1 : Option FieldType} {rm1 : Room} {mc ms n index : Nat} {Z1 : Nat → Prop} {stk : List Value} (As : List Value) (hf : cal f K = some r) (hcv : zcs own index y b1 maxL1 ret1 n) (hM : (gL Γ).stackTraces = false → ∀ r1, f = some r1 → zM (gL Γ) E y b1 maxL1 ret1 rm1 mc ms As S Z M X S Z1 (some (.int r1)) (M) X) (hn : As.length = n) (hst : stk = As.reverse ++ st) (hrt : (st.map fun v => v.category).sum ≤ 8) (d : decode cc pc = .ok (.invokestatic index, 3)) (hroom : zrm rm1 rm maxL1 mc ms kc ks) (k : ∀ r1, f = some r1 → K r1 = some r → zG Γ Q E nL (kc + mc) (ks + ms) S Z1 M X (pc + 3) L (.int r1 :: st)) : zG Γ Q E nL kc ks S Z M X pc L stk :=
  r_callS C0 (ov := fun r1 => some (.int r1)) (mo := fun _ => M) (xo := fun _ => X) As hf hcv hM hn hst hrt d hroom k
theorem r_callVm (C0 : zCt Γ E own cc nL ret hh rm) {β : Type} {f : Option (zMi)} {K : zMi → Option β} {r : β} {y : MethodName} {b1 : ByteArray} {maxL1 : Nat} {ret1 : Option FieldType} {rm1 : Room} {mc ms n index : Nat} {Z1 : Nat → Prop} {stk : List Value} {C : String} (As : List Value) (b : Nat) (hf : cal f K = some r) (hcv : zcv own index C y b1 maxL1 ret1 n) (hM : (gL Γ).stackTraces = false → ∀ r1, f = some r1 → zM (gL Γ) E y b1 maxL1 ret1 rm1 mc ms (.ref b :: As) S Z M X S Z1 (none) (r1) X) {ci : Nat} {q9 : vw_C} (hkb : S.1 b = some (.inl ci)) (hci : vwCl[ci]? = some q9) (hq9 : q9.1 = C) (hn : As.length = n) (hst : stk = As.reverse ++ .ref b :: st) (hrt : (st.map fun v => v.category).sum ≤ 8) (d : decode cc pc = .ok (.invokevirtual index, 3)) (hroom : zrm rm1 rm maxL1 mc ms kc ks) (k : ∀ r1, f = some r1 → K r1 = some r → zG Γ Q E nL (kc + mc) (ks + ms) S Z1 r1 X (pc + 3) L st) : zG Γ Q E nL kc ks S Z M X pc L stk :=
  r_callV C0 (ov := fun _ => none) (mo := fun r1 => r1) (xo := fun _ => X) As b hf hcv hM hkb hci hq9 hn hst hrt d hroom k
theorem r_callSm (C0 : zCt Γ E own cc nL ret hh rm) {β : Type} {f : Option (zMi)} {K : zMi → Option β} {r : β} {y : MethodName} {b1 : ByteArray} {maxL1 : Nat} {ret1 : Option FieldType} {rm1 : Room} {mc ms n index : Nat} {Z1 : Nat → Prop} {stk : List Value} (As : List Value) (hf : cal f K = some r) (hcv : zcs own index y b1 maxL1 ret1 n) (hM : (gL Γ).stackTraces = false → ∀ r1, f = some r1 → zM (gL Γ) E y b1 maxL1 ret1 rm1 mc ms As S Z M X S Z1 (none) (r1) X) (hn : As.length = n) (hst : stk = As.reverse ++ st) (hrt : (st.map fun v => v.category).sum ≤ 8) (d : decode cc pc = .ok (.invokestatic index, 3)) (hroom : zrm rm1 rm maxL1 mc ms kc ks) (k : ∀ r1, f = some r1 → K r1 = some r → zG Γ Q E nL (kc + mc) (ks + ms) S Z1 r1 X (pc + 3) L st) : zG Γ Q E nL kc ks S Z M X pc L stk :=
  r_callS C0 (ov := fun _ => none) (mo := fun r1 => r1) (xo := fun _ => X) As hf hcv hM hn hst hrt d hroom k
theorem r_callVv (C0 : zCt Γ E own cc nL ret hh rm) {β : Type} {f : Option (Unit)} {K : Unit → Option β} {r : β} {y : MethodName} {b1 : ByteArray} {maxL1 : Nat} {ret1 : Option FieldType} {rm1 : Room} {mc ms n index : Nat} {Z1 : Nat → Prop} {stk : List Value} {C : String} (As : List Value) (b : Nat) (hf : cal f K = some r) (hcv : zcv own index C y b1 maxL1 ret1 n) (hM : (gL Γ).stackTraces = false → ∀ r1, f = some r1 → zM (gL Γ) E y b1 maxL1 ret1 rm1 mc ms (.ref b :: As) S Z M X S Z1 (none) (M) X) {ci : Nat} {q9 : vw_C} (hkb : S.1 b = some (.inl ci)) (hci : vwCl[ci]? = some q9) (hq9 : q9.1 = C) (hn : As.length = n) (hst : stk = As.reverse ++ .ref b :: st) (hrt : (st.map fun v => v.category).sum ≤ 8) (d : decode cc pc = .ok (.invokevirtual index, 3)) (hroom : zrm rm1 rm maxL1 mc ms kc ks) (k : ∀ r1, f = some r1 → K r1 = some r → zG Γ Q E nL (kc + mc) (ks + ms) S Z1 M X (pc + 3) L st) : zG Γ Q E nL kc ks S Z M X pc L stk :=
  r_callV C0 (ov := fun _ => none) (mo := fun _ => M) (xo := fun _ => X) As b hf hcv hM hkb hci hq9 hn hst hrt d hroom k
theorem r_callSv (C0 : zCt Γ E own cc nL ret hh rm) {β : Type} {f : Option (Unit)} {K : Unit → Option β} {r : β} {y : MethodName} {b1 : ByteArray} {maxL1 : Nat} {ret1 : Option FieldType} {rm1 : Room} {mc ms n index : Nat} {Z1 : Nat → Prop} {stk : List Value} (As : List Value) (hf : cal f K = some r) (hcv : zcs own index y b1 maxL1 ret1 n) (hM : (gL Γ).stackTraces = false → ∀ r1, f = some r1 → zM (gL Γ) E y b1 maxL1 ret1 rm1 mc ms As S Z M X S Z1 (none) (M) X) (hn : As.length = n) (hst : stk = As.reverse ++ st) (hrt : (st.map fun v => v.category).sum ≤ 8) (d : decode cc pc = .ok (.invokestatic index, 3)) (hroom : zrm rm1 rm maxL1 mc ms kc ks) (k : ∀ r1, f = some r1 → K r1 = some r → zG Γ Q E nL (kc + mc) (ks + ms) S Z1 M X (pc + 3) L st) : zG Γ Q E nL kc ks S Z M X pc L stk :=
  r_callS C0 (ov := fun _ => none) (mo := fun _ => M) (xo := fun _ => X) As hf hcv hM hn hst hrt d hroom k
theorem r_callVl (C0 : zCt Γ E own cc nL ret hh rm) {β : Type} {f : Option (Int64)} {K : Int64 → Option β} {r : β} {y : MethodName} {b1 : ByteArray} {maxL1 : Nat} {ret1 : Option FieldType} {rm1 : Room} {mc ms n index : Nat} {Z1 : Nat → Prop} {stk : List Value} {C : String} (As : List Value) (b : Nat) (hf : cal f K = some r) (hcv : zcv own index C y b1 maxL1 ret1 n) (hM : (gL Γ).stackTraces = false → ∀ r1, f = some r1 → zM (gL Γ) E y b1 maxL1 ret1 rm1 mc ms (.ref b :: As) S Z M X S Z1 (some (.long r1)) (M) X) {ci : Nat} {q9 : vw_C} (hkb : S.1 b = some (.inl ci)) (hci : vwCl[ci]? = some q9) (hq9 : q9.1 = C) (hn : As.length = n) (hst : stk = As.reverse ++ .ref b :: st) (hrt : (st.map fun v => v.category).sum ≤ 8) (d : decode cc pc = .ok (.invokevirtual index, 3)) (hroom : zrm rm1 rm maxL1 mc ms kc ks) (k : ∀ r1, f = some r1 → K r1 = some r → zG Γ Q E nL (kc + mc) (ks + ms) S Z1 M X (pc + 3) L (.long r1 :: st)) : zG Γ Q E nL kc ks S Z M X pc L stk :=
  r_callV C0 (ov := fun r1 => some (.long r1)) (mo := fun _ => M) (xo := fun _ => X) As b hf hcv hM hkb hci hq9 hn hst hrt d hroom k
theorem r_callSl (C0 : zCt Γ E own cc nL ret hh rm) {β : Type} {f : Option (Int64)} {K : Int64 → Option β} {r : β} {y : MethodName} {b1 : ByteArray} {maxL1 : Nat} {ret1 : Option FieldType} {rm1 : Room} {mc ms n index : Nat} {Z1 : Nat → Prop} {stk : List Value} (As : List Value) (hf : cal f K = some r) (hcv : zcs own index y b1 maxL1 ret1 n) (hM : (gL Γ).stackTraces = false → ∀ r1, f = some r1 → zM (gL Γ) E y b1 maxL1 ret1 rm1 mc ms As S Z M X S Z1 (some (.long r1)) (M) X) (hn : As.length = n) (hst : stk = As.reverse ++ st) (hrt : (st.map fun v => v.category).sum ≤ 8) (d : decode cc pc = .ok (.invokestatic index, 3)) (hroom : zrm rm1 rm maxL1 mc ms kc ks) (k : ∀ r1, f = some r1 → K r1 = some r → zG Γ Q E nL (kc + mc) (ks + ms) S Z1 M X (pc + 3) L (.long r1 :: st)) : zG Γ Q E nL kc ks S Z M X pc L stk :=
  r_callS C0 (ov := fun r1 => some (.long r1)) (mo := fun _ => M) (xo := fun _ => X) As hf hcv hM hn hst hrt d hroom k
theorem r_callVr (C0 : zCt Γ E own cc nL ret hh rm) {β : Type} {f : Option (Option Nat)} {K : Option Nat → Option β} {r : β} {y : MethodName} {b1 : ByteArray} {maxL1 : Nat} {ret1 : Option FieldType} {rm1 : Room} {mc ms n index : Nat} {Z1 : Nat → Prop} {stk : List Value} {C : String} (As : List Value) (b : Nat) (hf : cal f K = some r) (hcv : zcv own index C y b1 maxL1 ret1 n) (hM : (gL Γ).stackTraces = false → ∀ r1, f = some r1 → zM (gL Γ) E y b1 maxL1 ret1 rm1 mc ms (.ref b :: As) S Z M X S Z1 (some (va_rf r1)) (M) X) {ci : Nat} {q9 : vw_C} (hkb : S.1 b = some (.inl ci)) (hci : vwCl[ci]? = some q9) (hq9 : q9.1 = C) (hn : As.length = n) (hst : stk = As.reverse ++ .ref b :: st) (hrt : (st.map fun v => v.category).sum ≤ 8) (d : decode cc pc = .ok (.invokevirtual index, 3)) (hroom : zrm rm1 rm maxL1 mc ms kc ks) (k : ∀ r1, f = some r1 → K r1 = some r → zG Γ Q E nL (kc + mc) (ks + ms) S Z1 M X (pc + 3) L (va_rf r1 :: st)) : zG Γ Q E nL kc ks S Z M X pc L stk :=
  r_callV C0 (ov := fun r1 => some (va_rf r1)) (mo := fun _ => M) (xo := fun _ => X) As b hf hcv hM hkb hci hq9 hn hst hrt d hroom k
theorem r_callSr (C0 : zCt Γ E own cc nL ret hh rm) {β : Type} {f : Option (Option Nat)} {K : Option Nat → Option β} {r : β} {y : MethodName} {b1 : ByteArray} {maxL1 : Nat} {ret1 : Option FieldType} {rm1 : Room} {mc ms n index : Nat} {Z1 : Nat → Prop} {stk : List Value} (As : List Value) (hf : cal f K = some r) (hcv : zcs own index y b1 maxL1 ret1 n) (hM : (gL Γ).stackTraces = false → ∀ r1, f = some r1 → zM (gL Γ) E y b1 maxL1 ret1 rm1 mc ms As S Z M X S Z1 (some (va_rf r1)) (M) X) (hn : As.length = n) (hst : stk = As.reverse ++ st) (hrt : (st.map fun v => v.category).sum ≤ 8) (d : decode cc pc = .ok (.invokestatic index, 3)) (hroom : zrm rm1 rm maxL1 mc ms kc ks) (k : ∀ r1, f = some r1 → K r1 = some r → zG Γ Q E nL (kc + mc) (ks + ms) S Z1 M X (pc + 3) L (va_rf r1 :: st)) : zG Γ Q E nL kc ks S Z M X pc L stk :=
  r_callS C0 (ov := fun r1 => some (va_rf r1)) (mo := fun _ => M) (xo := fun _ => X) As hf hcv hM hn hst hrt d hroom k
end ZR
theorem zz_bad : (1:Nat) = 2 := by decide
end
section
theorem zz_stub : True := trivial
end
