/-! ===== my own judgement over the kit's W: a memory of ints by address and place, a skeleton of kinds and references ===== -/
def zw (w : Cond) : Bool := goodWord w || (match w with | .methodLinkNest .. => true | .castable .. => true | .declares _ => true | .arrayOver (.object _) => true | _ => false)
theorem zw_at {args a' : Array Value} {s U : State} {w : Cond} (hW : s.WarmedH U.vm) (hg : zw w = true) (h : w.before args s = true) : w.before a' U = true := by
  by_cases g : goodWord w = true
  · exact word_at hW (good_of_word g) h
  · unfold zw at hg
    rw [Bool.or_eq_true] at hg
    rcases hg with hg | hg
    · exact absurd hg g
    · split at hg
      · exact va_Nw.use rfl (va_Nw.warmM hW (va_Nw.of rfl h))
      · exact va_Nw.use rfl (va_Nw.warmC hW (va_Nw.of rfl h))
      · exact va_Nw.use rfl (va_Nw.warmD hW (va_Nw.of rfl h))
      · exact va_AO.use (va_AO.moved hW.alike (va_AO.of h))
      · cases hg
def zWs : List Cond := lw_tbl.filter zw
theorem zq (w : Cond) (i : Nat) (h : lw_tbl[i]? = some w) (hz : zw w = true) : w ∈ zWs := List.mem_filter.mpr ⟨List.mem_of_getElem? h, hz⟩

def zci (own : String) (index : Nat) (y : MethodName) (b : ByteArray) (maxL : Nat) : Prop :=
  Cond.code y b maxL none ∈ zWs ∧ Cond.initialized y.cls ∈ zWs ∧ (y.cls ≠ "java/lang/invoke/MethodHandle" ∧ y.cls ≠ "java/lang/invoke/VarHandle") ∧ (parseMethodDescriptor y.desc).map (fun d => d.parameters.length) = some 0 ∧ (Cond.methodLink own index y ∈ zWs ∨ ∃ host, Cond.methodLinkNest own index y host ∈ zWs) ∧ Cond.instanceMethod y ∈ zWs ∧ y.name = "<init>"
/-- what a call's site needs of the tables -/
def zcv (own : String) (index : Nat) (C : String) (y : MethodName) (b : ByteArray) (maxL : Nat) (ret : Option FieldType) (n : Nat) : Prop :=
  Cond.code y b maxL ret ∈ zWs ∧ Cond.initialized y.cls ∈ zWs ∧ (y.cls ≠ "java/lang/invoke/MethodHandle" ∧ y.cls ≠ "java/lang/invoke/VarHandle") ∧ (parseMethodDescriptor y.desc).map (fun d => d.parameters.length) = some n ∧ Cond.methodLink own index y ∈ zWs ∧ Cond.instanceMethod y ∈ zWs ∧ Cond.selects C y y ∈ zWs
def zcsW (own : String) (index : Nat) (y : MethodName) (b : ByteArray) (maxL : Nat) (ret : Option FieldType) (hh : List (Nat × Nat × Nat × Nat)) (n : Nat) : Prop :=
  Cond.codeWith y b maxL ret hh ∈ zWs ∧ Cond.initialized y.cls ∈ zWs ∧ (y.cls ≠ "java/lang/invoke/MethodHandle" ∧ y.cls ≠ "java/lang/invoke/VarHandle") ∧ (parseMethodDescriptor y.desc).map (fun d => d.parameters.length) = some n ∧ Cond.methodLink own index y ∈ zWs ∧ Cond.static y ∈ zWs
def zcs (own : String) (index : Nat) (y : MethodName) (b : ByteArray) (maxL : Nat) (ret : Option FieldType) (n : Nat) : Prop :=
  Cond.code y b maxL ret ∈ zWs ∧ Cond.initialized y.cls ∈ zWs ∧ (y.cls ≠ "java/lang/invoke/MethodHandle" ∧ y.cls ≠ "java/lang/invoke/VarHandle") ∧ (parseMethodDescriptor y.desc).map (fun d => d.parameters.length) = some n ∧ Cond.methodLink own index y ∈ zWs ∧ Cond.static y ∈ zWs
def zex (e : Nat) : String := match e with | 1 => "java/lang/IllegalArgumentException" | 2 => "java/lang/IllegalStateException" | _ => "java/lang/IndexOutOfBoundsException"
def zNames : List String := ["java/lang/RuntimeException", "java/lang/Exception"]

theorem zall {l : List Cond} (h : l.all (fun w => decide (w ∈ lw_tbl) && zw w) = true) : ∀ w ∈ l, w ∈ zWs := fun w hw => by
  have h := List.all_eq_true.mp h w hw
  rw [Bool.and_eq_true] at h
  exact List.mem_filter.mpr ⟨of_decide_eq_true h.1, h.2⟩
theorem zall2 {l : List Cond} (h : l.all vx_ot = true) : ∀ w ∈ l, vx_ot w = true := fun w hw => List.all_eq_true.mp h w hw
