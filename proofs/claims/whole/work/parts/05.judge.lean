/-! A judgement of its own over the machine: what a method's body does from a place on, said by a picture of the cells (bj_M: a number of a cell to what it holds; ad: where the cell lies), by its locals and its operand stack; all that never changes (tables, frames below, room) is quantified away once and for all. -/
section BJ
abbrev bj_M : Type := Nat → Option va_E
/-- how a method ends: it returns a value, or it throws an exception of a class -/
abbrev bj_R : Type := Option Value ⊕ String
/-- launch; numbers of classes and slots; classes; array classes; the tables' words -/
abbrev bj_G : Type := Launch × va_G × List vw_C × List (ClassId × FieldType) × List Cond
/-- a method: its class, its name, its code, its locals, what it returns, its handlers -/
abbrev bj_Y : Type := String × MethodName × ByteArray × Nat × Option FieldType × List (Nat × Nat × Nat × Nat)
abbrev bj_K : Type := Nat × Nat × Nat × Nat
def bj_room (n : Nat) (K : bj_K) : Room := { frames := n, cells := K.1 + K.2.2.1, slots := K.2.1 + K.2.2.2, locals := 36 * n }
/-! locals -/
def bj_L (ls : Array Slot) (n : Nat) (L : List (Option Value)) : Prop := lv_has ls n [] ∧ L.length = n ∧ ∀ (i : Nat) (v : Value), L[i]? = some (some v) → ls[i]? = some (.val v) ∧ v.category = 1
def bj_pairs (L : List (Option Value)) : List (Nat × Value) := (List.range L.length).filterMap fun i => (L[i]?.getD none).map fun v => (i, v)
theorem bj_mem {L : List (Option Value)} {i : Nat} {v : Value} : (i, v) ∈ bj_pairs L ↔ L[i]? = some (some v) := by
  unfold bj_pairs
  rw [List.mem_filterMap]
  constructor
  · rintro ⟨j, -, hj⟩
    cases h : L[j]? with
    | none => rw [h] at hj; cases hj
    | some o =>
      rw [h] at hj
      cases o with
      | none => cases hj
      | some w =>
        have e : (j, w) = (i, v) := Option.some.inj hj
        cases e
        exact h
  · intro h
    refine ⟨i, List.mem_range.mpr (List.getElem?_eq_some_iff.mp h).1, ?_⟩
    rw [h]
    rfl
theorem bj_L.has {ls : Array Slot} {n : Nat} {L : List (Option Value)} (h : bj_L ls n L) : lv_has ls n (bj_pairs L) := ⟨h.1.1, h.1.2.1, fun q hq => (h.2.2 q.1 q.2 (bj_mem.mp hq)).1⟩
theorem bj_L.val {ls : Array Slot} {n : Nat} {L : List (Option Value)} (h : bj_L ls n L) {i : Nat} {v : Value} (hi : L[i]? = some (some v)) : ls[i]? = some (.val v) := (h.2.2 i v hi).1
theorem bj_L.store {ls ls' : Array Slot} {n i : Nat} {L L' : List (Option Value)} {v : Value} (h0 : bj_L ls n L) (hv : v.category = 1) (hi : i < n) (hL : L.set i (some v) = L')
    (h : lv_has ls' n ((i, v) :: (bj_pairs L).filter (fun q => !(q.1 == i) && !(q.1 + 1 == i && q.2.category == 2)))) : bj_L ls' n L' := by
  subst hL
  refine ⟨⟨h.1, h.2.1, fun _ hq => by cases hq⟩, by rw [List.length_set]; exact h0.2.1, fun j w hj => ?_⟩
  by_cases e : j = i
  · subst e
    rw [List.getElem?_set_self (by rw [h0.2.1]; exact hi)] at hj
    cases hj
    exact ⟨h.2.2 _ List.mem_cons_self, hv⟩
  · rw [List.getElem?_set_ne (Ne.symm e)] at hj
    have hw := (h0.2.2 j w hj).2
    refine ⟨h.2.2 (j, w) (List.mem_cons_of_mem _ (List.mem_filter.mpr ⟨bj_mem.mpr hj, ?_⟩)), hw⟩
    simp [e, hw]
/-! the cells -/
def bj_W (G : bj_G) (ad : Nat → Nat) (M : bj_M) (A : Nat → Prop) (H : Heap) : Prop :=
  (∀ (k : Nat) (x : va_E), M k = some x → va_at G.2.1 G.2.2.1 (ad k, x) H) ∧ (∀ i j : Nat, M i ≠ none → M j ≠ none → ad i = ad j → i = j) ∧ ∀ k : Nat, M k ≠ none → A (ad k)
theorem bj_ne {M : bj_M} {k : Nat} {x : va_E} (h : M k = some x) : M k ≠ none := by rw [h]; exact fun e => by cases e
theorem bj_up_dom {M : bj_M} {k j : Nat} {x x' : va_E} (hk : M k = some x) (h : va_up M k (some x') j ≠ none) : M j ≠ none := by
  by_cases e : j = k
  · subst e
    exact bj_ne hk
  · rwa [va_up_ne _ _ e] at h
theorem bj_W.set {G : bj_G} {ad : Nat → Nat} {M : bj_M} {A : Nat → Prop} {H H' : Heap} {k : Nat} {x x' : va_E} (h : bj_W G ad M A H) (hk : M k = some x) (he : va_at G.2.1 G.2.2.1 (ad k, x') H') (oq : ∀ q : Nat, q ≠ ad k → H'[q]? = H[q]?) : bj_W G ad (va_up M k (some x')) A H' := by
  refine ⟨fun j y hj => ?_, fun i j hi hj => h.2.1 i j (bj_up_dom hk hi) (bj_up_dom hk hj), fun j hj => h.2.2 j (bj_up_dom hk hj)⟩
  by_cases e : j = k
  · subst e
    rw [va_up_self] at hj
    cases hj
    exact he
  · rw [va_up_ne _ _ e] at hj
    exact (h.1 j y hj).kept (oq (ad j) (fun z => e (h.2.1 j k (bj_ne hj) (bj_ne hk) z)))
theorem bj_W.kept {G : bj_G} {ad : Nat → Nat} {M : bj_M} {A : Nat → Prop} {H H' : Heap} (h : bj_W G ad M A H) (oq : ∀ q : Nat, q < H.size → H'[q]? = H[q]?) : bj_W G ad M A H' :=
  ⟨fun k x hk => (h.1 k x hk).kept (oq _ (h.1 k x hk).lt), h.2.1, h.2.2⟩
/-! what stands as long as nothing outside A is written: the tables' words -/
def bj_F (G : bj_G) (A : Nat → Prop) (s : State) (H : Heap) : Prop :=
  ∀ (V : State) (a : Array Value), s.WarmedH V.vm → H.size ≤ V.heap.size → (∀ q : Nat, q < H.size → ¬ A q → V.heap[q]? = H[q]?) → (∀ w ∈ G.2.2.2.2, w.before a V = true) ∧ va_K G.2.1 G.2.2.1 G.2.2.2.1 V
theorem bj_F.go {G : bj_G} {A : Nat → Prop} {s U : State} {H H' : Heap} (h : bj_F G A s H) (hW : s.WarmedH U.vm) (hz : H.size ≤ H'.size) (hk : ∀ q : Nat, q < H.size → ¬ A q → H'[q]? = H[q]?) : bj_F G A U H' :=
  fun V a hV z k => h V a (State.WarmedH.trans hW hV) (Nat.le_trans hz z) (fun q hq hA => (k q (Nat.lt_of_lt_of_le hq hz) hA).trans (hk q hq hA))
def bj_C (G : bj_G) (Y : bj_Y) (A : Nat → Prop) (p : Program) (s : State) (m : MethodId) (args : Array Value) (meth : Method) (c : Code) : Prop :=
  p.tables.exec = Jvm.exec ∧ c.code = Y.2.2.1 ∧ c.maxLocals = Y.2.2.2.1 ∧ s.vm.findClass Y.1 = some m.cls ∧ meth.sig.returnType = Y.2.2.2.2.1 ∧ meth.locks = false ∧ meth.name = Y.2.1.name ∧ c.exceptionTable.toList = tableOf Y.2.2.2.2.2 ∧ bj_F G A s s.heap ∧ ∀ q : Nat, s.heap.size ≤ q → A q
section CX
variable {G : bj_G} {Y : bj_Y} {A : Nat → Prop} {p : Program} {s : State} {m : MethodId} {args : Array Value} {meth : Method} {c : Code}
theorem bj_C.ex (C : bj_C G Y A p s m args meth c) : p.tables.exec = Jvm.exec := C.1
theorem bj_C.by (C : bj_C G Y A p s m args meth c) : c.code = Y.2.2.1 := C.2.1
theorem bj_C.ml (C : bj_C G Y A p s m args meth c) : c.maxLocals = Y.2.2.2.1 := C.2.2.1
theorem bj_C.ow (C : bj_C G Y A p s m args meth c) : s.vm.findClass Y.1 = some m.cls := C.2.2.2.1
theorem bj_C.rt (C : bj_C G Y A p s m args meth c) : meth.sig.returnType = Y.2.2.2.2.1 := C.2.2.2.2.1
theorem bj_C.lk (C : bj_C G Y A p s m args meth c) : meth.locks = false := C.2.2.2.2.2.1
theorem bj_C.nm (C : bj_C G Y A p s m args meth c) : meth.name = Y.2.1.name := C.2.2.2.2.2.2.1
theorem bj_C.tb (C : bj_C G Y A p s m args meth c) : c.exceptionTable.toList = tableOf Y.2.2.2.2.2 := C.2.2.2.2.2.2.2.1
theorem bj_C.fc (C : bj_C G Y A p s m args meth c) : bj_F G A s s.heap := C.2.2.2.2.2.2.2.2.1
theorem bj_C.up (C : bj_C G Y A p s m args meth c) : ∀ q : Nat, s.heap.size ≤ q → A q := C.2.2.2.2.2.2.2.2.2
theorem bj_C.ts (C : bj_C G Y A p s m args meth c) : ∀ w ∈ G.2.2.2.2, w.before args s = true := (C.fc s args (State.WarmedH.refl s) (Nat.le_refl _) (fun _ _ _ => rfl)).1
theorem bj_C.k (C : bj_C G Y A p s m args meth c) : va_K G.2.1 G.2.2.1 G.2.2.2.1 s := (C.fc s args (State.WarmedH.refl s) (Nat.le_refl _) (fun _ _ _ => rfl)).2
end CX
/-- the end: returned (K.1 cells of K.2.1 slots made) or thrown (K.2.2.1 of K.2.2.2) -/
def bj_Q (G : bj_G) (ad : Nat → Nat) (Q : bj_R → bj_M → Prop) (K : bj_K) (A : Nat → Prop) (below : List Frame) (s : State) : State → Prop := fun t =>
  ∃ o, t.status = .running ∧ Ended t below o ∧
    ((∃ (v : Option Value) (M : bj_M) (L : List Loc), o = .returned v ∧ Q (.inl v) M ∧ bj_W G ad M A t.heap ∧ va_F A s t ∧ s.WarmedH t.vm ∧ s.sameButNew ({ t with vm := s.vm } : State) L K.1 K.2.1 ∧ ∀ q ∈ L, A q.base) ∨
     (∃ (x : Addr) (E : String) (ce : Cell) (M : bj_M) (L : List Loc), o = .threw x ∧ Q (.inr E) M ∧ bj_W G ad M A t.heap ∧ va_F A s t ∧ t.heap[x]? = some ce ∧ ce.vm = .none ∧ s.vm.findClass E = some ce.cls ∧ s.WarmedH t.vm ∧ s.sameButNew ({ t with vm := s.vm } : State) L K.2.2.1 K.2.2.2 ∧ ∀ q ∈ L, A q.base))
/-- THE JUDGEMENT: from pc, with locals L, stack st and cells M, the body ends as Q says -/
def bj_S (G : bj_G) (Y : bj_Y) (n : Nat) (K : bj_K) (ad : Nat → Nat) (Q : bj_R → bj_M → Prop) (cs sl pc : Nat) (L : List (Option Value)) (st : List Value) (M : bj_M) : Prop :=
  ∀ (p : Program) (e : Env) (s : State) (m : MethodId) (args : Array Value) (below : List Frame) (meth : Method) (c : Code) (A : Nat → Prop) (H : Heap) (locs : List Loc) (ls : Array Slot),
    bj_C G Y A p s m args meth c → bj_W G ad M A H → va_S A s.heap H locs → bj_L ls Y.2.2.2.1 L →
    W p G.1 e (bj_room n K) s m args below meth c H locs cs sl (bj_Q G ad Q K A below s) (F0 m pc ls st)
/-- a method's contract: its body from the start, with its arguments in the locals -/
def bj_ent (Y : bj_Y) (av : List Value) : List (Option Value) := av.map some ++ List.replicate (Y.2.2.2.1 - av.length) none
def bj_T (G : bj_G) (Y : bj_Y) (n : Nat) (K : bj_K) (ad : Nat → Nat) (Q : bj_R → bj_M → Prop) (av : List Value) (M : bj_M) : Prop := bj_S G Y n K ad Q 0 0 0 (bj_ent Y av) [] M
end BJ
