section
/-! A judgement of its own over the machine: what a method's body does from a place on, said by a picture of the cells (bj_M: a number of a cell to what it holds; ad: where the cell lies), by its locals and its operand stack; all that never changes (tables, frames below, room) is quantified away once and for all. -/
section BJ
abbrev bj_M : Type := Nat → Option va_E
/-- how a method ends: it returns a value, or it throws an exception of a class -/
abbrev bj_R : Type := Option Value ⊕ String
/-- launch; numbers of classes and slots; classes; array classes; the tables' words -/
abbrev bj_G : Type := Launch × va_G × List vw_C × List (ClassId × FieldType) × List Cond
/-- a method: its class, its name, its code, its locals, what it returns, its handlers -/
abbrev bj_Y : Type := String × MethodName × ByteArray × Nat × Option FieldType × List (Nat × Nat × Nat × Nat)
abbrev bj_K : Type := Nat × Nat × Nat × Nat
def bj_room (n : Nat) (K : bj_K) : Room := { frames := n, cells := K.1 + K.2.2.1, slots := K.2.1 + K.2.2.2, locals := 36 * n }
/-! locals -/
def bj_L (ls : Array Slot) (n : Nat) (L : List (Option Value)) : Prop := lv_has ls n [] ∧ L.length = n ∧ ∀ (i : Nat) (v : Value), L[i]? = some (some v) → ls[i]? = some (.val v) ∧ v.category = 1
def bj_pairs (L : List (Option Value)) : List (Nat × Value) := (List.range L.length).filterMap fun i => (L[i]?.getD none).map fun v => (i, v)
theorem bj_mem {L : List (Option Value)} {i : Nat} {v : Value} : (i, v) ∈ bj_pairs L ↔ L[i]? = some (some v) := by
  unfold bj_pairs
  rw [List.mem_filterMap]
  constructor
  · rintro ⟨j, -, hj⟩
    cases h : L[j]? with
    | none => rw [h] at hj; cases hj
    | some o =>
      rw [h] at hj
      cases o with
      | none => cases hj
      | some w =>
        have e : (j, w) = (i, v) := Option.some.inj hj
        cases e
        exact h
  · intro h
    refine ⟨i, List.mem_range.mpr (List.getElem?_eq_some_iff.mp h).1, ?_⟩
    rw [h]
    rfl
theorem bj_L.has {ls : Array Slot} {n : Nat} {L : List (Option Value)} (h : bj_L ls n L) : lv_has ls n (bj_pairs L) := ⟨h.1.1, h.1.2.1, fun q hq => (h.2.2 q.1 q.2 (bj_mem.mp hq)).1⟩
theorem bj_L.val {ls : Array Slot} {n : Nat} {L : List (Option Value)} (h : bj_L ls n L) {i : Nat} {v : Value} (hi : L[i]? = some (some v)) : ls[i]? = some (.val v) := (h.2.2 i v hi).1
theorem bj_L.store {ls ls' : Array Slot} {n i : Nat} {L L' : List (Option Value)} {v : Value} (h0 : bj_L ls n L) (hv : v.category = 1) (hi : i < n) (hL : L.set i (some v) = L')
    (h : lv_has ls' n ((i, v) :: (bj_pairs L).filter (fun q => !(q.1 == i) && !(q.1 + 1 == i && q.2.category == 2)))) : bj_L ls' n L' := by
  subst hL
  refine ⟨⟨h.1, h.2.1, fun _ hq => by cases hq⟩, by rw [List.length_set]; exact h0.2.1, fun j w hj => ?_⟩
  by_cases e : j = i
  · subst e
    rw [List.getElem?_set_self (by rw [h0.2.1]; exact hi)] at hj
    cases hj
    exact ⟨h.2.2 _ List.mem_cons_self, hv⟩
  · rw [List.getElem?_set_ne (Ne.symm e)] at hj
    have hw := (h0.2.2 j w hj).2
    refine ⟨h.2.2 (j, w) (List.mem_cons_of_mem _ (List.mem_filter.mpr ⟨bj_mem.mpr hj, ?_⟩)), hw⟩
    simp [e, hw]
/-! the cells -/
def bj_W (G : bj_G) (ad : Nat → Nat) (M : bj_M) (A : Nat → Prop) (H : Heap) : Prop :=
  (∀ (k : Nat) (x : va_E), M k = some x → va_at G.2.1 G.2.2.1 (ad k, x) H) ∧ (∀ i j : Nat, M i ≠ none → M j ≠ none → ad i = ad j → i = j) ∧ ∀ k : Nat, M k ≠ none → A (ad k)
theorem bj_ne {M : bj_M} {k : Nat} {x : va_E} (h : M k = some x) : M k ≠ none := by rw [h]; exact fun e => by cases e
theorem bj_up_dom {M : bj_M} {k j : Nat} {x x' : va_E} (hk : M k = some x) (h : va_up M k (some x') j ≠ none) : M j ≠ none := by
  by_cases e : j = k
  · subst e
    exact bj_ne hk
  · rwa [va_up_ne _ _ e] at h
theorem bj_W.set {G : bj_G} {ad : Nat → Nat} {M : bj_M} {A : Nat → Prop} {H H' : Heap} {k : Nat} {x x' : va_E} (h : bj_W G ad M A H) (hk : M k = some x) (he : va_at G.2.1 G.2.2.1 (ad k, x') H') (oq : ∀ q : Nat, q ≠ ad k → H'[q]? = H[q]?) : bj_W G ad (va_up M k (some x')) A H' := by
  refine ⟨fun j y hj => ?_, fun i j hi hj => h.2.1 i j (bj_up_dom hk hi) (bj_up_dom hk hj), fun j hj => h.2.2 j (bj_up_dom hk hj)⟩
  by_cases e : j = k
  · subst e
    rw [va_up_self] at hj
    cases hj
    exact he
  · rw [va_up_ne _ _ e] at hj
    exact (h.1 j y hj).kept (oq (ad j) (fun z => e (h.2.1 j k (bj_ne hj) (bj_ne hk) z)))
theorem bj_W.kept {G : bj_G} {ad : Nat → Nat} {M : bj_M} {A : Nat → Prop} {H H' : Heap} (h : bj_W G ad M A H) (oq : ∀ q : Nat, q < H.size → H'[q]? = H[q]?) : bj_W G ad M A H' :=
  ⟨fun k x hk => (h.1 k x hk).kept (oq _ (h.1 k x hk).lt), h.2.1, h.2.2⟩
/-! what stands as long as nothing outside A is written: the tables' words -/
def bj_F (G : bj_G) (A : Nat → Prop) (s : State) (H : Heap) : Prop :=
  ∀ (V : State) (a : Array Value), s.WarmedH V.vm → H.size ≤ V.heap.size → (∀ q : Nat, q < H.size → ¬ A q → V.heap[q]? = H[q]?) → (∀ w ∈ G.2.2.2.2, w.before a V = true) ∧ va_K G.2.1 G.2.2.1 G.2.2.2.1 V
theorem bj_F.go {G : bj_G} {A : Nat → Prop} {s U : State} {H H' : Heap} (h : bj_F G A s H) (hW : s.WarmedH U.vm) (hz : H.size ≤ H'.size) (hk : ∀ q : Nat, q < H.size → ¬ A q → H'[q]? = H[q]?) : bj_F G A U H' :=
  fun V a hV z k => h V a (State.WarmedH.trans hW hV) (Nat.le_trans hz z) (fun q hq hA => (k q (Nat.lt_of_lt_of_le hq hz) hA).trans (hk q hq hA))
def bj_C (G : bj_G) (Y : bj_Y) (A : Nat → Prop) (p : Program) (s : State) (m : MethodId) (args : Array Value) (meth : Method) (c : Code) : Prop :=
  p.tables.exec = Jvm.exec ∧ c.code = Y.2.2.1 ∧ c.maxLocals = Y.2.2.2.1 ∧ s.vm.findClass Y.1 = some m.cls ∧ meth.sig.returnType = Y.2.2.2.2.1 ∧ meth.locks = false ∧ meth.name = Y.2.1.name ∧ c.exceptionTable.toList = tableOf Y.2.2.2.2.2 ∧ bj_F G A s s.heap ∧ ∀ q : Nat, s.heap.size ≤ q → A q
section CX
variable {G : bj_G} {Y : bj_Y} {A : Nat → Prop} {p : Program} {s : State} {m : MethodId} {args : Array Value} {meth : Method} {c : Code}
theorem bj_C.ex (C : bj_C G Y A p s m args meth c) : p.tables.exec = Jvm.exec := C.1
theorem bj_C.by (C : bj_C G Y A p s m args meth c) : c.code = Y.2.2.1 := C.2.1
theorem bj_C.ml (C : bj_C G Y A p s m args meth c) : c.maxLocals = Y.2.2.2.1 := C.2.2.1
theorem bj_C.ow (C : bj_C G Y A p s m args meth c) : s.vm.findClass Y.1 = some m.cls := C.2.2.2.1
theorem bj_C.rt (C : bj_C G Y A p s m args meth c) : meth.sig.returnType = Y.2.2.2.2.1 := C.2.2.2.2.1
theorem bj_C.lk (C : bj_C G Y A p s m args meth c) : meth.locks = false := C.2.2.2.2.2.1
theorem bj_C.nm (C : bj_C G Y A p s m args meth c) : meth.name = Y.2.1.name := C.2.2.2.2.2.2.1
theorem bj_C.tb (C : bj_C G Y A p s m args meth c) : c.exceptionTable.toList = tableOf Y.2.2.2.2.2 := C.2.2.2.2.2.2.2.1
theorem bj_C.fc (C : bj_C G Y A p s m args meth c) : bj_F G A s s.heap := C.2.2.2.2.2.2.2.2.1
theorem bj_C.up (C : bj_C G Y A p s m args meth c) : ∀ q : Nat, s.heap.size ≤ q → A q := C.2.2.2.2.2.2.2.2.2
theorem bj_C.ts (C : bj_C G Y A p s m args meth c) : ∀ w ∈ G.2.2.2.2, w.before args s = true := (C.fc s args (State.WarmedH.refl s) (Nat.le_refl _) (fun _ _ _ => rfl)).1
theorem bj_C.k (C : bj_C G Y A p s m args meth c) : va_K G.2.1 G.2.2.1 G.2.2.2.1 s := (C.fc s args (State.WarmedH.refl s) (Nat.le_refl _) (fun _ _ _ => rfl)).2
end CX
/-- the end: returned (K.1 cells of K.2.1 slots made) or thrown (K.2.2.1 of K.2.2.2) -/
def bj_Q (G : bj_G) (ad : Nat → Nat) (Q : bj_R → bj_M → Prop) (K : bj_K) (A : Nat → Prop) (below : List Frame) (s : State) : State → Prop := fun t =>
  ∃ o, t.status = .running ∧ Ended t below o ∧
    ((∃ (v : Option Value) (M : bj_M) (L : List Loc), o = .returned v ∧ Q (.inl v) M ∧ bj_W G ad M A t.heap ∧ va_F A s t ∧ s.WarmedH t.vm ∧ s.sameButNew ({ t with vm := s.vm } : State) L K.1 K.2.1 ∧ ∀ q ∈ L, A q.base) ∨
     (∃ (x : Addr) (E : String) (ce : Cell) (M : bj_M) (L : List Loc), o = .threw x ∧ Q (.inr E) M ∧ bj_W G ad M A t.heap ∧ va_F A s t ∧ t.heap[x]? = some ce ∧ ce.vm = .none ∧ s.vm.findClass E = some ce.cls ∧ s.WarmedH t.vm ∧ s.sameButNew ({ t with vm := s.vm } : State) L K.2.2.1 K.2.2.2 ∧ ∀ q ∈ L, A q.base))
/-- THE JUDGEMENT: from pc, with locals L, stack st and cells M, the body ends as Q says -/
def bj_S (G : bj_G) (Y : bj_Y) (n : Nat) (K : bj_K) (ad : Nat → Nat) (Q : bj_R → bj_M → Prop) (cs sl pc : Nat) (L : List (Option Value)) (st : List Value) (M : bj_M) : Prop :=
  ∀ (p : Program) (e : Env) (s : State) (m : MethodId) (args : Array Value) (below : List Frame) (meth : Method) (c : Code) (A : Nat → Prop) (H : Heap) (locs : List Loc) (ls : Array Slot),
    bj_C G Y A p s m args meth c → bj_W G ad M A H → va_S A s.heap H locs → bj_L ls Y.2.2.2.1 L →
    W p G.1 e (bj_room n K) s m args below meth c H locs cs sl (bj_Q G ad Q K A below s) (F0 m pc ls st)
/-- a method's contract: its body from the start, with its arguments in the locals -/
def bj_ent (Y : bj_Y) (av : List Value) : List (Option Value) := av.map some ++ List.replicate (Y.2.2.2.1 - av.length) none
def bj_T (G : bj_G) (Y : bj_Y) (n : Nat) (K : bj_K) (ad : Nat → Nat) (Q : bj_R → bj_M → Prop) (av : List Value) (M : bj_M) : Prop := bj_S G Y n K ad Q 0 0 0 (bj_ent Y av) [] M
end BJ
end
section
/-! the judgement's rows: instructions that touch no cell (written by gen/rows.py) -/
section BR
variable {G : bj_G} {Y : bj_Y} {n : Nat} {K : bj_K} {ad : Nat → Nat} {Q : bj_R → bj_M → Prop} {cs sl pc : Nat} {L : List (Option Value)} {st : List Value} {M : bj_M}
theorem bj_iconst {v : Int32} {z : Int} (d : decode Y.2.2.1 pc = .ok (.iconst z, 1)) (hv : Int32.ofInt z = v) (kk : bj_S G Y n K ad Q cs sl (pc + 1) L (.int v :: st) M) : bj_S G Y n K ad Q cs sl pc L st M :=
  fun p e s m ar be me c A H lo ls C hW hS hl => lv_iconst C.ex C.by d hv (kk p e s m ar be me c A H lo ls C hW hS hl)
theorem bj_bipush {v : Int32} {z : Int} (d : decode Y.2.2.1 pc = .ok (.bipush z, 2)) (hv : (Int8.ofInt z).toInt32 = v) (kk : bj_S G Y n K ad Q cs sl (pc + 2) L (.int v :: st) M) : bj_S G Y n K ad Q cs sl pc L st M :=
  fun p e s m ar be me c A H lo ls C hW hS hl => lv_bipush C.ex C.by d hv (kk p e s m ar be me c A H lo ls C hW hS hl)
theorem bj_sipush {v : Int32} {z : Int} (d : decode Y.2.2.1 pc = .ok (.sipush z, 3)) (hv : (Int16.ofInt z).toInt32 = v) (kk : bj_S G Y n K ad Q cs sl (pc + 3) L (.int v :: st) M) : bj_S G Y n K ad Q cs sl pc L st M :=
  fun p e s m ar be me c A H lo ls C hW hS hl => lv_sipush C.ex C.by d hv (kk p e s m ar be me c A H lo ls C hW hS hl)
theorem bj_lconst {v : Int64} {z : Fin 2} (d : decode Y.2.2.1 pc = .ok (.lconst z, 1)) (hv : Int64.ofNat (z : Nat) = v) (kk : bj_S G Y n K ad Q cs sl (pc + 1) L (.long v :: st) M) : bj_S G Y n K ad Q cs sl pc L st M :=
  fun p e s m ar be me c A H lo ls C hW hS hl => lv_lconst C.ex C.by d hv (kk p e s m ar be me c A H lo ls C hW hS hl)
theorem bj_iload_n {i : Nat} {x : Int32} {z : Fin 4} (d : decode Y.2.2.1 pc = .ok (.iload_n z, 1)) (hi : (z : Nat) = i) (hx : L[i]? = some (some (.int x))) (kk : bj_S G Y n K ad Q cs sl (pc + 1) L (.int x :: st) M) : bj_S G Y n K ad Q cs sl pc L st M :=
  fun p e s m ar be me c A H lo ls C hW hS hl => lv_iload_n C.ex C.by d hi (hl.val hx) (kk p e s m ar be me c A H lo ls C hW hS hl)
theorem bj_iload {i : Nat} {x : Int32} (d : decode Y.2.2.1 pc = .ok (.iload i, 2)) (hx : L[i]? = some (some (.int x))) (kk : bj_S G Y n K ad Q cs sl (pc + 2) L (.int x :: st) M) : bj_S G Y n K ad Q cs sl pc L st M :=
  fun p e s m ar be me c A H lo ls C hW hS hl => lv_iload C.ex C.by d (hl.val hx) (kk p e s m ar be me c A H lo ls C hW hS hl)
theorem bj_istore_n {i : Nat} {x : Int32} {z : Fin 4} {L' : List (Option Value)} (d : decode Y.2.2.1 pc = .ok (.istore_n z, 1)) (hi : (z : Nat) = i) (hn : i < Y.2.2.2.1) (hL : L.set i (some (.int x)) = L') (kk : bj_S G Y n K ad Q cs sl (pc + 1) L' st M) : bj_S G Y n K ad Q cs sl pc L (.int x :: st) M :=
  fun p e s m ar be me c A H lo ls C hW hS hl => lv_istore_n C.ex C.by d hi hl.has hn rfl (fun ls' h' => kk p e s m ar be me c A H lo ls' C hW hS (hl.store rfl hn hL h'))
theorem bj_istore {i : Nat} {x : Int32} {L' : List (Option Value)} (d : decode Y.2.2.1 pc = .ok (.istore i, 2)) (hn : i < Y.2.2.2.1) (hL : L.set i (some (.int x)) = L') (kk : bj_S G Y n K ad Q cs sl (pc + 2) L' st M) : bj_S G Y n K ad Q cs sl pc L (.int x :: st) M :=
  fun p e s m ar be me c A H lo ls C hW hS hl => lv_istore C.ex C.by d hl.has hn rfl (fun ls' h' => kk p e s m ar be me c A H lo ls' C hW hS (hl.store rfl hn hL h'))
theorem bj_aload_n {i : Nat} {x : Nat} {z : Fin 4} (d : decode Y.2.2.1 pc = .ok (.aload_n z, 1)) (hi : (z : Nat) = i) (hx : L[i]? = some (some (.ref x))) (kk : bj_S G Y n K ad Q cs sl (pc + 1) L (.ref x :: st) M) : bj_S G Y n K ad Q cs sl pc L st M :=
  fun p e s m ar be me c A H lo ls C hW hS hl => lv_aload_n C.ex C.by d hi (hl.val hx) (kk p e s m ar be me c A H lo ls C hW hS hl)
theorem bj_aload {i : Nat} {x : Nat} (d : decode Y.2.2.1 pc = .ok (.aload i, 2)) (hx : L[i]? = some (some (.ref x))) (kk : bj_S G Y n K ad Q cs sl (pc + 2) L (.ref x :: st) M) : bj_S G Y n K ad Q cs sl pc L st M :=
  fun p e s m ar be me c A H lo ls C hW hS hl => lv_aload C.ex C.by d (hl.val hx) (kk p e s m ar be me c A H lo ls C hW hS hl)
theorem bj_astore_n {i : Nat} {x : Nat} {z : Fin 4} {L' : List (Option Value)} (d : decode Y.2.2.1 pc = .ok (.astore_n z, 1)) (hi : (z : Nat) = i) (hn : i < Y.2.2.2.1) (hL : L.set i (some (.ref x)) = L') (kk : bj_S G Y n K ad Q cs sl (pc + 1) L' st M) : bj_S G Y n K ad Q cs sl pc L (.ref x :: st) M :=
  fun p e s m ar be me c A H lo ls C hW hS hl => lv_astore_n C.ex C.by d hi hl.has hn rfl (fun ls' h' => kk p e s m ar be me c A H lo ls' C hW hS (hl.store rfl hn hL h'))
theorem bj_astore {i : Nat} {x : Nat} {L' : List (Option Value)} (d : decode Y.2.2.1 pc = .ok (.astore i, 2)) (hn : i < Y.2.2.2.1) (hL : L.set i (some (.ref x)) = L') (kk : bj_S G Y n K ad Q cs sl (pc + 2) L' st M) : bj_S G Y n K ad Q cs sl pc L (.ref x :: st) M :=
  fun p e s m ar be me c A H lo ls C hW hS hl => lv_astore C.ex C.by d hl.has hn rfl (fun ls' h' => kk p e s m ar be me c A H lo ls' C hW hS (hl.store rfl hn hL h'))
theorem bj_iinc {i : Nat} {x v : Int32} {z : Int} {L' : List (Option Value)} (d : decode Y.2.2.1 pc = .ok (.iinc i z, 3)) (hx : L[i]? = some (some (.int x))) (hv : x + Int32.ofInt z = v) (hn : i < Y.2.2.2.1) (hL : L.set i (some (.int v)) = L') (kk : bj_S G Y n K ad Q cs sl (pc + 3) L' st M) : bj_S G Y n K ad Q cs sl pc L st M :=
  fun p e s m ar be me c A H lo ls C hW hS hl => by
    obtain ⟨j, hj⟩ := List.getElem?_of_mem (bj_mem.mpr hx)
    exact lv_iinc C.ex C.by d hl.has hj hv hn rfl (fun ls' h' => kk p e s m ar be me c A H lo ls' C hW hS (hl.store rfl hn hL h'))
theorem bj_iadd {x y v : Int32} (d : decode Y.2.2.1 pc = .ok (.iadd, 1)) (hv : x + y = v) (kk : bj_S G Y n K ad Q cs sl (pc + 1) L (.int v :: st) M) : bj_S G Y n K ad Q cs sl pc L (.int y :: .int x :: st) M :=
  fun p e s m ar be me c A H lo ls C hW hS hl => by subst hv; exact lv_iadd C.ex C.by d (kk p e s m ar be me c A H lo ls C hW hS hl)
theorem bj_isub {x y v : Int32} (d : decode Y.2.2.1 pc = .ok (.isub, 1)) (hv : x - y = v) (kk : bj_S G Y n K ad Q cs sl (pc + 1) L (.int v :: st) M) : bj_S G Y n K ad Q cs sl pc L (.int y :: .int x :: st) M :=
  fun p e s m ar be me c A H lo ls C hW hS hl => by subst hv; exact lv_isub C.ex C.by d (kk p e s m ar be me c A H lo ls C hW hS hl)
theorem bj_imul {x y v : Int32} (d : decode Y.2.2.1 pc = .ok (.imul, 1)) (hv : x * y = v) (kk : bj_S G Y n K ad Q cs sl (pc + 1) L (.int v :: st) M) : bj_S G Y n K ad Q cs sl pc L (.int y :: .int x :: st) M :=
  fun p e s m ar be me c A H lo ls C hW hS hl => by subst hv; exact lv_imul C.ex C.by d (kk p e s m ar be me c A H lo ls C hW hS hl)
theorem bj_iand {x y v : Int32} (d : decode Y.2.2.1 pc = .ok (.iand, 1)) (hv : x &&& y = v) (kk : bj_S G Y n K ad Q cs sl (pc + 1) L (.int v :: st) M) : bj_S G Y n K ad Q cs sl pc L (.int y :: .int x :: st) M :=
  fun p e s m ar be me c A H lo ls C hW hS hl => by subst hv; exact lv_iand C.ex C.by d (kk p e s m ar be me c A H lo ls C hW hS hl)
theorem bj_ior {x y v : Int32} (d : decode Y.2.2.1 pc = .ok (.ior, 1)) (hv : x ||| y = v) (kk : bj_S G Y n K ad Q cs sl (pc + 1) L (.int v :: st) M) : bj_S G Y n K ad Q cs sl pc L (.int y :: .int x :: st) M :=
  fun p e s m ar be me c A H lo ls C hW hS hl => by subst hv; exact lv_ior C.ex C.by d (kk p e s m ar be me c A H lo ls C hW hS hl)
theorem bj_ixor {x y v : Int32} (d : decode Y.2.2.1 pc = .ok (.ixor, 1)) (hv : x ^^^ y = v) (kk : bj_S G Y n K ad Q cs sl (pc + 1) L (.int v :: st) M) : bj_S G Y n K ad Q cs sl pc L (.int y :: .int x :: st) M :=
  fun p e s m ar be me c A H lo ls C hW hS hl => by subst hv; exact lv_ixor C.ex C.by d (kk p e s m ar be me c A H lo ls C hW hS hl)
theorem bj_ishl {x y v : Int32} (d : decode Y.2.2.1 pc = .ok (.ishl, 1)) (hv : x <<< (y &&& 31) = v) (kk : bj_S G Y n K ad Q cs sl (pc + 1) L (.int v :: st) M) : bj_S G Y n K ad Q cs sl pc L (.int y :: .int x :: st) M :=
  fun p e s m ar be me c A H lo ls C hW hS hl => by subst hv; exact lv_ishl C.ex C.by d (kk p e s m ar be me c A H lo ls C hW hS hl)
theorem bj_ishr {x y v : Int32} (d : decode Y.2.2.1 pc = .ok (.ishr, 1)) (hv : x >>> (y &&& 31) = v) (kk : bj_S G Y n K ad Q cs sl (pc + 1) L (.int v :: st) M) : bj_S G Y n K ad Q cs sl pc L (.int y :: .int x :: st) M :=
  fun p e s m ar be me c A H lo ls C hW hS hl => by subst hv; exact lv_ishr C.ex C.by d (kk p e s m ar be me c A H lo ls C hW hS hl)
theorem bj_iushr {x y v : Int32} (d : decode Y.2.2.1 pc = .ok (.iushr, 1)) (hv : (x.toUInt32 >>> (y.toUInt32 &&& Int32.toUInt32 31)).toInt32 = v) (kk : bj_S G Y n K ad Q cs sl (pc + 1) L (.int v :: st) M) : bj_S G Y n K ad Q cs sl pc L (.int y :: .int x :: st) M :=
  fun p e s m ar be me c A H lo ls C hW hS hl => lv_iushr C.ex C.by d hv (kk p e s m ar be me c A H lo ls C hW hS hl)
theorem bj_idiv {x y v : Int32} (d : decode Y.2.2.1 pc = .ok (.idiv, 1)) (hne : ¬ y = 0) (hv : x / y = v) (kk : bj_S G Y n K ad Q cs sl (pc + 1) L (.int v :: st) M) : bj_S G Y n K ad Q cs sl pc L (.int y :: .int x :: st) M :=
  fun p e s m ar be me c A H lo ls C hW hS hl => by subst hv; exact lv_idiv C.ex C.by d hne (kk p e s m ar be me c A H lo ls C hW hS hl)
theorem bj_irem {x y v : Int32} (d : decode Y.2.2.1 pc = .ok (.irem, 1)) (hne : ¬ y = 0) (hv : x - x / y * y = v) (kk : bj_S G Y n K ad Q cs sl (pc + 1) L (.int v :: st) M) : bj_S G Y n K ad Q cs sl pc L (.int y :: .int x :: st) M :=
  fun p e s m ar be me c A H lo ls C hW hS hl => by subst hv; exact lv_irem C.ex C.by d hne (kk p e s m ar be me c A H lo ls C hW hS hl)
theorem bj_ineg {x v : Int32} (d : decode Y.2.2.1 pc = .ok (.ineg, 1)) (hv : -x = v) (kk : bj_S G Y n K ad Q cs sl (pc + 1) L (.int v :: st) M) : bj_S G Y n K ad Q cs sl pc L (.int x :: st) M :=
  fun p e s m ar be me c A H lo ls C hW hS hl => by subst hv; exact lv_ineg C.ex C.by d (kk p e s m ar be me c A H lo ls C hW hS hl)
theorem bj_i2l {x : Int32} {v : Int64} (d : decode Y.2.2.1 pc = .ok (.i2l, 1)) (hv : x.toInt64 = v) (kk : bj_S G Y n K ad Q cs sl (pc + 1) L (.long v :: st) M) : bj_S G Y n K ad Q cs sl pc L (.int x :: st) M :=
  fun p e s m ar be me c A H lo ls C hW hS hl => lv_i2l C.ex C.by d hv (kk p e s m ar be me c A H lo ls C hW hS hl)
theorem bj_lcmp {x y : Int64} (d : decode Y.2.2.1 pc = .ok (.lcmp, 1)) (kk : bj_S G Y n K ad Q cs sl (pc + 1) L (.int (lg_cmp x y) :: st) M) : bj_S G Y n K ad Q cs sl pc L (.long y :: .long x :: st) M :=
  fun p e s m ar be me c A H lo ls C hW hS hl => W.lcmp C.ex C.by d (kk p e s m ar be me c A H lo ls C hW hS hl)
theorem bj_dup {x : Value} (d : decode Y.2.2.1 pc = .ok (.dup, 1)) (hx : x.category = 1) (kk : bj_S G Y n K ad Q cs sl (pc + 1) L (x :: x :: st) M) : bj_S G Y n K ad Q cs sl pc L (x :: st) M :=
  fun p e s m ar be me c A H lo ls C hW hS hl => lv_dup C.ex C.by d hx (kk p e s m ar be me c A H lo ls C hW hS hl)
theorem bj_pop {x : Value} (d : decode Y.2.2.1 pc = .ok (.pop, 1)) (hx : x.category = 1) (kk : bj_S G Y n K ad Q cs sl (pc + 1) L st M) : bj_S G Y n K ad Q cs sl pc L (x :: st) M :=
  fun p e s m ar be me c A H lo ls C hW hS hl => lv_pop C.ex C.by d hx (kk p e s m ar be me c A H lo ls C hW hS hl)
theorem bj_dup_x1 {x y : Value} (d : decode Y.2.2.1 pc = .ok (.dup_x1, 1)) (hx : x.category = 1) (hy : y.category = 1) (kk : bj_S G Y n K ad Q cs sl (pc + 1) L (x :: y :: x :: st) M) : bj_S G Y n K ad Q cs sl pc L (x :: y :: st) M :=
  fun p e s m ar be me c A H lo ls C hW hS hl => lv_dup_x1 C.ex C.by d hx hy (kk p e s m ar be me c A H lo ls C hW hS hl)
theorem bj_dup_x2 {x y z : Value} (d : decode Y.2.2.1 pc = .ok (.dup_x2, 1)) (hx : x.category = 1) (hy : y.category = 1) (hz : z.category = 1) (kk : bj_S G Y n K ad Q cs sl (pc + 1) L (x :: y :: z :: x :: st) M) : bj_S G Y n K ad Q cs sl pc L (x :: y :: z :: st) M :=
  fun p e s m ar be me c A H lo ls C hW hS hl => lv_dup_x2 C.ex C.by d hx hy hz (kk p e s m ar be me c A H lo ls C hW hS hl)
theorem bj_dup2 {x y : Value} (d : decode Y.2.2.1 pc = .ok (.dup2, 1)) (hx : x.category = 1) (hy : y.category = 1) (kk : bj_S G Y n K ad Q cs sl (pc + 1) L (x :: y :: x :: y :: st) M) : bj_S G Y n K ad Q cs sl pc L (x :: y :: st) M :=
  fun p e s m ar be me c A H lo ls C hW hS hl => lv_dup2_11 C.ex C.by d hx hy (kk p e s m ar be me c A H lo ls C hW hS hl)
theorem bj_goto {off : Int} {tgt : Nat} (d : decode Y.2.2.1 pc = .ok (.goto off, 3)) (ht : (pc : Int) + off = (tgt : Int)) (kk : bj_S G Y n K ad Q cs sl tgt L st M) : bj_S G Y n K ad Q cs sl pc L st M :=
  fun p e s m ar be me c A H lo ls C hW hS hl => lv_goto C.ex C.by d ht (kk p e s m ar be me c A H lo ls C hW hS hl)
theorem bj_if_eq {x : Int32} {off : Int} {tgt : Nat} (d : decode Y.2.2.1 pc = .ok (.ifCond .eq off, 3)) (ht : (pc : Int) + off = (tgt : Int)) (kt : x = 0 → bj_S G Y n K ad Q cs sl tgt L st M) (kf : ¬ (x = 0) → bj_S G Y n K ad Q cs sl (pc + 3) L st M) : bj_S G Y n K ad Q cs sl pc L (.int x :: st) M :=
  fun p e s m ar be me c A H lo ls C hW hS hl => lv_if_eq C.ex C.by d ht (fun h => kt h p e s m ar be me c A H lo ls C hW hS hl) (fun h => kf h p e s m ar be me c A H lo ls C hW hS hl)
theorem bj_icmp_eq {x y : Int32} {off : Int} {tgt : Nat} (d : decode Y.2.2.1 pc = .ok (.if_icmp .eq off, 3)) (ht : (pc : Int) + off = (tgt : Int)) (kt : x = y → bj_S G Y n K ad Q cs sl tgt L st M) (kf : ¬ (x = y) → bj_S G Y n K ad Q cs sl (pc + 3) L st M) : bj_S G Y n K ad Q cs sl pc L (.int y :: .int x :: st) M :=
  fun p e s m ar be me c A H lo ls C hW hS hl => lv_icmp_eq C.ex C.by d ht (fun h => kt h p e s m ar be me c A H lo ls C hW hS hl) (fun h => kf h p e s m ar be me c A H lo ls C hW hS hl)
theorem bj_if_ne {x : Int32} {off : Int} {tgt : Nat} (d : decode Y.2.2.1 pc = .ok (.ifCond .ne off, 3)) (ht : (pc : Int) + off = (tgt : Int)) (kt : ¬ x = 0 → bj_S G Y n K ad Q cs sl tgt L st M) (kf : x = 0 → bj_S G Y n K ad Q cs sl (pc + 3) L st M) : bj_S G Y n K ad Q cs sl pc L (.int x :: st) M :=
  fun p e s m ar be me c A H lo ls C hW hS hl => lv_if_ne C.ex C.by d ht (fun h => kt h p e s m ar be me c A H lo ls C hW hS hl) (fun h => kf h p e s m ar be me c A H lo ls C hW hS hl)
theorem bj_icmp_ne {x y : Int32} {off : Int} {tgt : Nat} (d : decode Y.2.2.1 pc = .ok (.if_icmp .ne off, 3)) (ht : (pc : Int) + off = (tgt : Int)) (kt : ¬ x = y → bj_S G Y n K ad Q cs sl tgt L st M) (kf : x = y → bj_S G Y n K ad Q cs sl (pc + 3) L st M) : bj_S G Y n K ad Q cs sl pc L (.int y :: .int x :: st) M :=
  fun p e s m ar be me c A H lo ls C hW hS hl => lv_icmp_ne C.ex C.by d ht (fun h => kt h p e s m ar be me c A H lo ls C hW hS hl) (fun h => kf h p e s m ar be me c A H lo ls C hW hS hl)
theorem bj_if_lt {x : Int32} {off : Int} {tgt : Nat} (d : decode Y.2.2.1 pc = .ok (.ifCond .lt off, 3)) (ht : (pc : Int) + off = (tgt : Int)) (kt : x < 0 → bj_S G Y n K ad Q cs sl tgt L st M) (kf : ¬ (x < 0) → bj_S G Y n K ad Q cs sl (pc + 3) L st M) : bj_S G Y n K ad Q cs sl pc L (.int x :: st) M :=
  fun p e s m ar be me c A H lo ls C hW hS hl => lv_if_lt C.ex C.by d ht (fun h => kt h p e s m ar be me c A H lo ls C hW hS hl) (fun h => kf h p e s m ar be me c A H lo ls C hW hS hl)
theorem bj_icmp_lt {x y : Int32} {off : Int} {tgt : Nat} (d : decode Y.2.2.1 pc = .ok (.if_icmp .lt off, 3)) (ht : (pc : Int) + off = (tgt : Int)) (kt : x < y → bj_S G Y n K ad Q cs sl tgt L st M) (kf : ¬ (x < y) → bj_S G Y n K ad Q cs sl (pc + 3) L st M) : bj_S G Y n K ad Q cs sl pc L (.int y :: .int x :: st) M :=
  fun p e s m ar be me c A H lo ls C hW hS hl => lv_icmp_lt C.ex C.by d ht (fun h => kt h p e s m ar be me c A H lo ls C hW hS hl) (fun h => kf h p e s m ar be me c A H lo ls C hW hS hl)
theorem bj_if_ge {x : Int32} {off : Int} {tgt : Nat} (d : decode Y.2.2.1 pc = .ok (.ifCond .ge off, 3)) (ht : (pc : Int) + off = (tgt : Int)) (kt : 0 ≤ x → bj_S G Y n K ad Q cs sl tgt L st M) (kf : ¬ (0 ≤ x) → bj_S G Y n K ad Q cs sl (pc + 3) L st M) : bj_S G Y n K ad Q cs sl pc L (.int x :: st) M :=
  fun p e s m ar be me c A H lo ls C hW hS hl => lv_if_ge C.ex C.by d ht (fun h => kt h p e s m ar be me c A H lo ls C hW hS hl) (fun h => kf h p e s m ar be me c A H lo ls C hW hS hl)
theorem bj_icmp_ge {x y : Int32} {off : Int} {tgt : Nat} (d : decode Y.2.2.1 pc = .ok (.if_icmp .ge off, 3)) (ht : (pc : Int) + off = (tgt : Int)) (kt : y ≤ x → bj_S G Y n K ad Q cs sl tgt L st M) (kf : ¬ (y ≤ x) → bj_S G Y n K ad Q cs sl (pc + 3) L st M) : bj_S G Y n K ad Q cs sl pc L (.int y :: .int x :: st) M :=
  fun p e s m ar be me c A H lo ls C hW hS hl => lv_icmp_ge C.ex C.by d ht (fun h => kt h p e s m ar be me c A H lo ls C hW hS hl) (fun h => kf h p e s m ar be me c A H lo ls C hW hS hl)
theorem bj_if_gt {x : Int32} {off : Int} {tgt : Nat} (d : decode Y.2.2.1 pc = .ok (.ifCond .gt off, 3)) (ht : (pc : Int) + off = (tgt : Int)) (kt : 0 < x → bj_S G Y n K ad Q cs sl tgt L st M) (kf : ¬ (0 < x) → bj_S G Y n K ad Q cs sl (pc + 3) L st M) : bj_S G Y n K ad Q cs sl pc L (.int x :: st) M :=
  fun p e s m ar be me c A H lo ls C hW hS hl => lv_if_gt C.ex C.by d ht (fun h => kt h p e s m ar be me c A H lo ls C hW hS hl) (fun h => kf h p e s m ar be me c A H lo ls C hW hS hl)
theorem bj_icmp_gt {x y : Int32} {off : Int} {tgt : Nat} (d : decode Y.2.2.1 pc = .ok (.if_icmp .gt off, 3)) (ht : (pc : Int) + off = (tgt : Int)) (kt : y < x → bj_S G Y n K ad Q cs sl tgt L st M) (kf : ¬ (y < x) → bj_S G Y n K ad Q cs sl (pc + 3) L st M) : bj_S G Y n K ad Q cs sl pc L (.int y :: .int x :: st) M :=
  fun p e s m ar be me c A H lo ls C hW hS hl => lv_icmp_gt C.ex C.by d ht (fun h => kt h p e s m ar be me c A H lo ls C hW hS hl) (fun h => kf h p e s m ar be me c A H lo ls C hW hS hl)
theorem bj_if_le {x : Int32} {off : Int} {tgt : Nat} (d : decode Y.2.2.1 pc = .ok (.ifCond .le off, 3)) (ht : (pc : Int) + off = (tgt : Int)) (kt : x ≤ 0 → bj_S G Y n K ad Q cs sl tgt L st M) (kf : ¬ (x ≤ 0) → bj_S G Y n K ad Q cs sl (pc + 3) L st M) : bj_S G Y n K ad Q cs sl pc L (.int x :: st) M :=
  fun p e s m ar be me c A H lo ls C hW hS hl => lv_if_le C.ex C.by d ht (fun h => kt h p e s m ar be me c A H lo ls C hW hS hl) (fun h => kf h p e s m ar be me c A H lo ls C hW hS hl)
theorem bj_icmp_le {x y : Int32} {off : Int} {tgt : Nat} (d : decode Y.2.2.1 pc = .ok (.if_icmp .le off, 3)) (ht : (pc : Int) + off = (tgt : Int)) (kt : x ≤ y → bj_S G Y n K ad Q cs sl tgt L st M) (kf : ¬ (x ≤ y) → bj_S G Y n K ad Q cs sl (pc + 3) L st M) : bj_S G Y n K ad Q cs sl pc L (.int y :: .int x :: st) M :=
  fun p e s m ar be me c A H lo ls C hW hS hl => lv_icmp_le C.ex C.by d ht (fun h => kt h p e s m ar be me c A H lo ls C hW hS hl) (fun h => kf h p e s m ar be me c A H lo ls C hW hS hl)
theorem bj_swOut {dflt lo hi : Int} {offs : Array Int} {len : Nat} {x : Int32} {tgt : Nat} (d : decode Y.2.2.1 pc = .ok (.tableswitch dflt lo hi offs, len)) (h : x.toInt < lo ∨ hi < x.toInt) (ht : (pc : Int) + dflt = (tgt : Int)) (kk : bj_S G Y n K ad Q cs sl tgt L st M) : bj_S G Y n K ad Q cs sl pc L (.int x :: st) M :=
  fun p e s m ar be me c A H lo ls C hW hS hl => lv_tableOut C.ex C.by d h ht (kk p e s m ar be me c A H lo ls C hW hS hl)
theorem bj_swIn {dflt lo hi : Int} {offs : Array Int} {len : Nat} {x : Int32} {off : Int} {tgt : Nat} (d : decode Y.2.2.1 pc = .ok (.tableswitch dflt lo hi offs, len)) (h1 : ¬ x.toInt < lo) (h2 : ¬ hi < x.toInt) (ho : offs[(x.toInt - lo).toNat]? = some off) (ht : (pc : Int) + off = (tgt : Int)) (kk : bj_S G Y n K ad Q cs sl tgt L st M) : bj_S G Y n K ad Q cs sl pc L (.int x :: st) M :=
  fun p e s m ar be me c A H lo ls C hW hS hl => lv_tableIn C.ex C.by d h1 h2 ho ht (kk p e s m ar be me c A H lo ls C hW hS hl)
theorem bj_icmp_eqN {a b : Nat} {off : Int} {tgt : Nat} (d : decode Y.2.2.1 pc = .ok (.if_icmp .eq off, 3)) (ht : (pc : Int) + off = (tgt : Int)) (ha : a < 2 ^ 31) (hb : b < 2 ^ 31) (kt : a = b → bj_S G Y n K ad Q cs sl tgt L st M) (kf : a ≠ b → bj_S G Y n K ad Q cs sl (pc + 3) L st M) : bj_S G Y n K ad Q cs sl pc L (.int (nI b) :: .int (nI a) :: st) M :=
  bj_icmp_eq d ht (fun h => kt ((nI_eq ha hb).mp h)) (fun h => kf (fun q => h ((nI_eq ha hb).mpr q)))
theorem bj_icmp_neN {a b : Nat} {off : Int} {tgt : Nat} (d : decode Y.2.2.1 pc = .ok (.if_icmp .ne off, 3)) (ht : (pc : Int) + off = (tgt : Int)) (ha : a < 2 ^ 31) (hb : b < 2 ^ 31) (kt : a ≠ b → bj_S G Y n K ad Q cs sl tgt L st M) (kf : a = b → bj_S G Y n K ad Q cs sl (pc + 3) L st M) : bj_S G Y n K ad Q cs sl pc L (.int (nI b) :: .int (nI a) :: st) M :=
  bj_icmp_ne d ht (fun h => kt (fun q => h ((nI_eq ha hb).mpr q))) (fun h => kf ((nI_eq ha hb).mp h))
theorem bj_icmp_ltN {a b : Nat} {off : Int} {tgt : Nat} (d : decode Y.2.2.1 pc = .ok (.if_icmp .lt off, 3)) (ht : (pc : Int) + off = (tgt : Int)) (ha : a < 2 ^ 31) (hb : b < 2 ^ 31) (kt : a < b → bj_S G Y n K ad Q cs sl tgt L st M) (kf : b ≤ a → bj_S G Y n K ad Q cs sl (pc + 3) L st M) : bj_S G Y n K ad Q cs sl pc L (.int (nI b) :: .int (nI a) :: st) M :=
  bj_icmp_lt d ht (fun h => kt ((nI_ltI ha hb).mp h)) (fun h => kf (Nat.le_of_not_lt (fun q => h ((nI_ltI ha hb).mpr q))))
theorem bj_icmp_geN {a b : Nat} {off : Int} {tgt : Nat} (d : decode Y.2.2.1 pc = .ok (.if_icmp .ge off, 3)) (ht : (pc : Int) + off = (tgt : Int)) (ha : a < 2 ^ 31) (hb : b < 2 ^ 31) (kt : b ≤ a → bj_S G Y n K ad Q cs sl tgt L st M) (kf : a < b → bj_S G Y n K ad Q cs sl (pc + 3) L st M) : bj_S G Y n K ad Q cs sl pc L (.int (nI b) :: .int (nI a) :: st) M :=
  bj_icmp_ge d ht (fun h => kt ((nI_leI hb ha).mp h)) (fun h => kf (Nat.lt_of_not_le (fun q => h ((nI_leI hb ha).mpr q))))
theorem bj_icmp_gtN {a b : Nat} {off : Int} {tgt : Nat} (d : decode Y.2.2.1 pc = .ok (.if_icmp .gt off, 3)) (ht : (pc : Int) + off = (tgt : Int)) (ha : a < 2 ^ 31) (hb : b < 2 ^ 31) (kt : b < a → bj_S G Y n K ad Q cs sl tgt L st M) (kf : a ≤ b → bj_S G Y n K ad Q cs sl (pc + 3) L st M) : bj_S G Y n K ad Q cs sl pc L (.int (nI b) :: .int (nI a) :: st) M :=
  bj_icmp_gt d ht (fun h => kt ((nI_ltI hb ha).mp h)) (fun h => kf (Nat.le_of_not_lt (fun q => h ((nI_ltI hb ha).mpr q))))
theorem bj_icmp_leN {a b : Nat} {off : Int} {tgt : Nat} (d : decode Y.2.2.1 pc = .ok (.if_icmp .le off, 3)) (ht : (pc : Int) + off = (tgt : Int)) (ha : a < 2 ^ 31) (hb : b < 2 ^ 31) (kt : a ≤ b → bj_S G Y n K ad Q cs sl tgt L st M) (kf : b < a → bj_S G Y n K ad Q cs sl (pc + 3) L st M) : bj_S G Y n K ad Q cs sl pc L (.int (nI b) :: .int (nI a) :: st) M :=
  bj_icmp_le d ht (fun h => kt ((nI_leI ha hb).mp h)) (fun h => kf (Nat.lt_of_not_le (fun q => h ((nI_leI ha hb).mpr q))))
theorem bj_if_eqN {a : Nat} {off : Int} {tgt : Nat} (d : decode Y.2.2.1 pc = .ok (.ifCond .eq off, 3)) (ht : (pc : Int) + off = (tgt : Int)) (ha : a < 2 ^ 31) (kt : a = 0 → bj_S G Y n K ad Q cs sl tgt L st M) (kf : a ≠ 0 → bj_S G Y n K ad Q cs sl (pc + 3) L st M) : bj_S G Y n K ad Q cs sl pc L (.int (nI a) :: st) M :=
  bj_if_eq d ht (fun h => kt (Classical.byContradiction (fun q => nI_ne0 (Nat.pos_of_ne_zero q) ha h))) (fun h => kf (fun q => h (by rw [q]; exact nI_0)))
theorem bj_if_neN {a : Nat} {off : Int} {tgt : Nat} (d : decode Y.2.2.1 pc = .ok (.ifCond .ne off, 3)) (ht : (pc : Int) + off = (tgt : Int)) (ha : a < 2 ^ 31) (kt : a ≠ 0 → bj_S G Y n K ad Q cs sl tgt L st M) (kf : a = 0 → bj_S G Y n K ad Q cs sl (pc + 3) L st M) : bj_S G Y n K ad Q cs sl pc L (.int (nI a) :: st) M :=
  bj_if_ne d ht (fun h => kt (fun q => h (by rw [q]; exact nI_0))) (fun h => kf (Classical.byContradiction (fun q => nI_ne0 (Nat.pos_of_ne_zero q) ha h)))
theorem bj_if_gtN {a : Nat} {off : Int} {tgt : Nat} (d : decode Y.2.2.1 pc = .ok (.ifCond .gt off, 3)) (ht : (pc : Int) + off = (tgt : Int)) (ha : a < 2 ^ 31) (kt : 0 < a → bj_S G Y n K ad Q cs sl tgt L st M) (kf : a = 0 → bj_S G Y n K ad Q cs sl (pc + 3) L st M) : bj_S G Y n K ad Q cs sl pc L (.int (nI a) :: st) M :=
  bj_if_gt d ht (fun h => kt (Nat.pos_of_ne_zero (fun q => by rw [q, nI_0] at h; exact absurd h (by decide)))) (fun h => kf (Classical.byContradiction (fun q => h (by rw [← nI_0]; exact nI_lt (Nat.pos_of_ne_zero q) ha))))
theorem bj_if_leN {a : Nat} {off : Int} {tgt : Nat} (d : decode Y.2.2.1 pc = .ok (.ifCond .le off, 3)) (ht : (pc : Int) + off = (tgt : Int)) (ha : a < 2 ^ 31) (kt : a = 0 → bj_S G Y n K ad Q cs sl tgt L st M) (kf : 0 < a → bj_S G Y n K ad Q cs sl (pc + 3) L st M) : bj_S G Y n K ad Q cs sl pc L (.int (nI a) :: st) M :=
  bj_if_le d ht (fun h => kt (Classical.byContradiction (fun q => nI_nle (Nat.pos_of_ne_zero q) ha h))) (fun h => kf (Nat.pos_of_ne_zero (fun q => h (by rw [q, nI_0]; decide))))
theorem bj_if_ltN {a : Nat} {off : Int} (d : decode Y.2.2.1 pc = .ok (.ifCond .lt off, 3)) {tgt : Nat} (ht : (pc : Int) + off = (tgt : Int)) (ha : a < 2 ^ 31) (kf : bj_S G Y n K ad Q cs sl (pc + 3) L st M) : bj_S G Y n K ad Q cs sl pc L (.int (nI a) :: st) M :=
  bj_if_lt d ht (fun h => absurd h (nI_pos ha)) (fun _ => kf)
theorem bj_if_geN {a : Nat} {off : Int} (d : decode Y.2.2.1 pc = .ok (.ifCond .ge off, 3)) {tgt : Nat} (ht : (pc : Int) + off = (tgt : Int)) (ha : a < 2 ^ 31) (kt : bj_S G Y n K ad Q cs sl tgt L st M) : bj_S G Y n K ad Q cs sl pc L (.int (nI a) :: st) M :=
  bj_if_ge d ht (fun _ => kt) (fun h => absurd (nI_pos' ha) h)
end BR
end
section
/-! the judgement's rows: fields, arrays, answers -/
section BC
variable {G : bj_G} {Y : bj_Y} {n : Nat} {K : bj_K} {ad : Nat → Nat} {Q : bj_R → bj_M → Prop} {cs sl pc : Nat} {L : List (Option Value)} {st : List Value} {M : bj_M}
theorem bj_mono {p : Program} {l : Launch} {e : Env} {R : Room} {s : State} {m : MethodId} {args : Array Value} {below : List Frame} {meth : Method} {c : Code} {H : Heap} {locs : List Loc} {cells slots : Nat} {Q Q' : State → Prop} {g : JFrame} (h : W p l e R s m args below meth c H locs cells slots Q g) (hi : ∀ t, Q t → Q' t) : W p l e R s m args below meth c H locs cells slots Q' g := by
  intro T hT X
  obtain ⟨t, a, b⟩ := h T hT X
  exact ⟨t, a, hi t b⟩
/-- more cells and slots than were made -/
theorem bj_wide {cs' sl' : Nat} (h1 : cs ≤ cs') (h2 : sl ≤ sl') (kk : bj_S G Y n K ad Q cs' sl' pc L st M) : bj_S G Y n K ad Q cs sl pc L st M :=
  fun p e s m ar be me c A H lo ls C hW hS hl => W.widen h1 h2 (kk p e s m ar be me c A H lo ls C hW hS hl)
/-- the post may be weakened -/
theorem bj_post {Q' : bj_R → bj_M → Prop} (h : ∀ r M, Q r M → Q' r M) (kk : bj_S G Y n K ad Q cs sl pc L st M) : bj_S G Y n K ad Q' cs sl pc L st M :=
  fun p e s m ar be me c A H lo ls C hW hS hl => bj_mono (kk p e s m ar be me c A H lo ls C hW hS hl) (fun t ht => by
    obtain ⟨o, h1, h2, h3⟩ := ht
    refine ⟨o, h1, h2, ?_⟩
    rcases h3 with ⟨v, M', Lc, g1, g2, g3⟩ | ⟨x, E, ce, M', Lc, g1, g2, g3⟩
    · exact Or.inl ⟨v, M', Lc, g1, h _ _ g2, g3⟩
    · exact Or.inr ⟨x, E, ce, M', Lc, g1, h _ _ g2, g3⟩)
/-! answers -/
theorem bj_iret {x : Int32} {ty : FieldType} (d : decode Y.2.2.1 pc = .ok (.ireturn, 1)) (hr : Y.2.2.2.2.1 = some ty) (hn : narrow ty (.int x) = .int x) (hc : cs ≤ K.1) (hs : sl ≤ K.2.1) (hq : Q (.inl (some (.int x))) M) : bj_S G Y n K ad Q cs sl pc L [.int x] M := by
  intro p e s m ar be me c A H lo ls C hW hS hl
  refine W.widen hc hs (bj_mono (W.zret (Qc := fun _ _ o t => o = .returned (some (.int x)) ∧ t.heap = H) (free := A) C.ex C.by (C.rt.trans hr) hn (fun t ht _ => ⟨rfl, ht⟩) hS.2.2 d C.lk) ?_)
  rintro t ⟨o, h1, h2, ⟨ho, hH⟩, Lc, ⟨-, hw, hsm⟩, hL⟩
  exact ⟨o, h1, h2, Or.inl ⟨_, M, Lc, ho, hq, by rw [hH]; exact hW, hS.F hH, hw, hsm, hL⟩⟩
theorem bj_vret (d : decode Y.2.2.1 pc = .ok (.return_, 1)) (hr : Y.2.2.2.2.1 = none) (hc : cs ≤ K.1) (hs : sl ≤ K.2.1) (hq : Q (.inl none) M) : bj_S G Y n K ad Q cs sl pc L [] M := by
  intro p e s m ar be me c A H lo ls C hW hS hl
  refine W.widen hc hs (bj_mono (W.vret (Qc := fun _ _ o t => o = .returned none ∧ t.heap = H) (free := A) C.ex C.by (C.rt.trans hr) (fun t ht _ => ⟨rfl, ht⟩) hS.2.2 d C.lk) ?_)
  rintro t ⟨o, h1, h2, ⟨ho, hH⟩, Lc, ⟨-, hw, hsm⟩, hL⟩
  exact ⟨o, h1, h2, Or.inl ⟨_, M, Lc, ho, hq, by rw [hH]; exact hW, hS.F hH, hw, hsm, hL⟩⟩
/-! fields -/
theorem bj_one {D : va_G} {cl : List vw_C} {a : Nat} {x : va_E} {H : Heap} (h : va_at D cl (a, x) H) : va_P D cl [(a, x)] H := by
  intro j q hj
  cases j with
  | zero => cases hj; exact h
  | succ j => simp at hj
theorem bj_get {C ref : String} {T : u_T} {N ci index k f : Nat} {fs : List Value} {v : Value} (d : decode Y.2.2.1 pc = .ok (.getfield index, 3)) (hin : ∀ w ∈ u_ws C T N, w ∈ G.2.2.2.2) (hc : G.2.2.1[ci]? = some (C, T, N)) (hf : f < N) (hlink : Cond.fieldLink Y.1 index ref (T f).2.1 (T f).2.2.1 ∈ G.2.2.2.2) (href : (T f).1 = ref) (hM : M k = some (.inr (ci, fs))) (hv : fs[f]? = some v)
    (kk : bj_S G Y n K ad Q cs sl (pc + 3) L (v :: st) M) : bj_S G Y n K ad Q cs sl pc L (.ref (ad k) :: st) M :=
  fun p e s m ar be me c A H lo ls C hW hS hl => va_get (ws := [(ad k, .inr (ci, fs))]) C.ex C.by C.ts hin C.ow C.k (bj_one (hW.1 k _ hM)) 0 rfl hc f hf (C.ts _ hlink) (fun x hx => by rw [← href]; exact hx) hv d (kk p e s m ar be me c A H lo ls C hW hS hl)
theorem bj_getN {C ref host : String} {T : u_T} {N ci index k f : Nat} {fs : List Value} {v : Value} (d : decode Y.2.2.1 pc = .ok (.getfield index, 3)) (hin : ∀ w ∈ u_ws C T N, w ∈ G.2.2.2.2) (hc : G.2.2.1[ci]? = some (C, T, N)) (hf : f < N) (hlink : Cond.fieldLinkNest Y.1 index ref (T f).2.1 (T f).2.2.1 host ∈ G.2.2.2.2) (href : (T f).1 = ref) (hM : M k = some (.inr (ci, fs))) (hv : fs[f]? = some v)
    (kk : bj_S G Y n K ad Q cs sl (pc + 3) L (v :: st) M) : bj_S G Y n K ad Q cs sl pc L (.ref (ad k) :: st) M :=
  fun p e s m ar be me c A H lo ls C hW hS hl => va_getN (ws := [(ad k, .inr (ci, fs))]) C.ex C.by C.ts hin C.ow C.k (bj_one (hW.1 k _ hM)) 0 rfl hc f hf (C.ts _ hlink) (fun x hx => by rw [← href]; exact hx) hv d (kk p e s m ar be me c A H lo ls C hW hS hl)
theorem bj_put {C ref : String} {T : u_T} {N ci index k f : Nat} {fs : List Value} {v : Value} {ty : FieldType} {ty0 : Nat → FieldType} (d : decode Y.2.2.1 pc = .ok (.putfield index, 3)) (hin : ∀ w ∈ u_ws C T N, w ∈ G.2.2.2.2) (hty : ∀ k, k < N → parseFieldDescriptor (T k).2.2.1 = some (ty0 k)) (hnm : ∀ a, a < N → ∀ b, b < N → a ≠ b → (T a).2.1 ≠ (T b).2.1)
    (hc : G.2.2.1[ci]? = some (C, T, N)) (hf : f < N) (hlink : Cond.fieldLink Y.1 index ref (T f).2.1 (T f).2.2.1 ∈ G.2.2.2.2) (href : (T f).1 = ref) (hfin : (T f).2.2.2 = false) (hd : ty0 f = ty) (hn : narrow ty v = v) (hfit : fits ty v = true) (hl9 : f < fs.length) (hM : M k = some (.inr (ci, fs)))
    (kk : bj_S G Y n K ad Q cs sl (pc + 3) L st (va_up M k (some (.inr (ci, fs.set f v))))) : bj_S G Y n K ad Q cs sl pc L (v :: .ref (ad k) :: st) M := by
  intro p e s m ar be me c A H lo ls Cx hW hS hl
  have hK := Cx.k
  have hts := Cx.ts
  have hap := va_apart (own := Y.1) hts hin ty0 hty hnm hK hc
  obtain ⟨r, h1, cell, q1, q2, q3, q4⟩ := hW.1 k _ hM
  have hr : r = (C, T, N) := Option.some.inj (h1.symm.trans hc)
  subst hr
  obtain ⟨hSl, hfc, kC, hkC, hkind⟩ := hK.1 ci _ hc
  obtain ⟨cf, kf, fi, fd, hi, hsl⟩ := hSl f hf
  have hlay := hts _ (hin _ (u_in_lay hf))
  unfold u_lay at hlay
  rw [if_neg (by rw [hfin]; decide)] at hlay
  have hst := (u_facts hfc hkC (u_lays hts hin hf) hi).1
  have h6 := u_store hfc hkC hkind hlay hi ((hty f hf).trans (by rw [hd])) hn hfit
  have hi' : s.fieldFound? ref (T f).2.1 (T f).2.2.1 = some (cf, kf, fi, fd) := by rw [← href]; exact hi
  refine W.putK Cx.ex Cx.by (f := fd) ⟨Cx.ow, hts _ hlink, ⟨_, _, _, hi'⟩, hst⟩ (by rw [q2]; exact h6) q1 q3 (by rw [hsl]; exact k2_hasslot (q4 f hf)) rfl rfl d fun H' e1 e2 e3 => ?_
  rw [hsl] at e1
  exact kk p e s m ar be me c A H' _ ls Cx (hW.set hM ⟨_, hc, t_OB.to (V := updV (vp_V fs) f v) ⟨_, e1, q2, q3, t_set q4 hap hf v⟩ (fun j _ => vp_updV_set hl9 v j)⟩ e3) (hS.put e2 e3 (hW.2.2 k (bj_ne hM))) hl
theorem bj_putN {C ref host : String} {T : u_T} {N ci index k f : Nat} {fs : List Value} {v : Value} {ty : FieldType} {ty0 : Nat → FieldType} (d : decode Y.2.2.1 pc = .ok (.putfield index, 3)) (hin : ∀ w ∈ u_ws C T N, w ∈ G.2.2.2.2) (hty : ∀ k, k < N → parseFieldDescriptor (T k).2.2.1 = some (ty0 k)) (hnm : ∀ a, a < N → ∀ b, b < N → a ≠ b → (T a).2.1 ≠ (T b).2.1)
    (hc : G.2.2.1[ci]? = some (C, T, N)) (hf : f < N) (hlink : Cond.fieldLinkNest Y.1 index ref (T f).2.1 (T f).2.2.1 host ∈ G.2.2.2.2) (href : (T f).1 = ref) (hfin : (T f).2.2.2 = false) (hd : ty0 f = ty) (hn : narrow ty v = v) (hfit : fits ty v = true) (hl9 : f < fs.length) (hM : M k = some (.inr (ci, fs)))
    (kk : bj_S G Y n K ad Q cs sl (pc + 3) L st (va_up M k (some (.inr (ci, fs.set f v))))) : bj_S G Y n K ad Q cs sl pc L (v :: .ref (ad k) :: st) M := by
  intro p e s m ar be me c A H lo ls Cx hW hS hl
  have hK := Cx.k
  have hts := Cx.ts
  have hap := va_apart (own := Y.1) hts hin ty0 hty hnm hK hc
  obtain ⟨r, h1, cell, q1, q2, q3, q4⟩ := hW.1 k _ hM
  have hr : r = (C, T, N) := Option.some.inj (h1.symm.trans hc)
  subst hr
  obtain ⟨hSl, hfc, kC, hkC, hkind⟩ := hK.1 ci _ hc
  obtain ⟨cf, kf, fi, fd, hi, hsl⟩ := hSl f hf
  have hlay := hts _ (hin _ (u_in_lay hf))
  unfold u_lay at hlay
  rw [if_neg (by rw [hfin]; decide)] at hlay
  have hst := (u_facts hfc hkC (u_lays hts hin hf) hi).1
  have h6 := u_store hfc hkC hkind hlay hi ((hty f hf).trans (by rw [hd])) hn hfit
  have hi' : s.fieldFound? ref (T f).2.1 (T f).2.2.1 = some (cf, kf, fi, fd) := by rw [← href]; exact hi
  refine va_WputK Cx.ex Cx.by (f := fd) Cx.ow (hts _ hlink) hi' hst (by rw [q2]; exact h6) q1 q3 (by rw [hsl]; exact k2_hasslot (q4 f hf)) rfl rfl d fun H' e1 e2 e3 => ?_
  rw [hsl] at e1
  exact kk p e s m ar be me c A H' _ ls Cx (hW.set hM ⟨_, hc, t_OB.to (V := updV (vp_V fs) f v) ⟨_, e1, q2, q3, t_set q4 hap hf v⟩ (fun j _ => vp_updV_set hl9 v j)⟩ e3) (hS.put e2 e3 (hW.2.2 k (bj_ne hM))) hl
/-- a final field, in the constructor -/
theorem bj_putF {C ref : String} {T : u_T} {N ci index k f : Nat} {fs : List Value} {v : Value} {ty : FieldType} {ty0 : Nat → FieldType} (d : decode Y.2.2.1 pc = .ok (.putfield index, 3)) (hin : ∀ w ∈ u_ws C T N, w ∈ G.2.2.2.2) (hty : ∀ k, k < N → parseFieldDescriptor (T k).2.2.1 = some (ty0 k)) (hnm : ∀ a, a < N → ∀ b, b < N → a ≠ b → (T a).2.1 ≠ (T b).2.1)
    (hc : G.2.2.1[ci]? = some (C, T, N)) (hf : f < N) (hlink : Cond.fieldLink Y.1 index ref (T f).2.1 (T f).2.2.1 ∈ G.2.2.2.2) (href : (T f).1 = ref) (hfin : (T f).2.2.2 = true) (hini : Y.2.1.name = "<init>") (hown : (T f).1 = Y.1) (hd : ty0 f = ty) (hn : narrow ty v = v) (hfit : fits ty v = true) (hl9 : f < fs.length) (hM : M k = some (.inr (ci, fs)))
    (kk : bj_S G Y n K ad Q cs sl (pc + 3) L st (va_up M k (some (.inr (ci, fs.set f v))))) : bj_S G Y n K ad Q cs sl pc L (v :: .ref (ad k) :: st) M := by
  intro p e s m ar be me c A H lo ls Cx hW hS hl
  have hK := Cx.k
  have hts := Cx.ts
  have hap := va_apart (own := Y.1) hts hin ty0 hty hnm hK hc
  obtain ⟨r, h1, cell, q1, q2, q3, q4⟩ := hW.1 k _ hM
  have hr : r = (C, T, N) := Option.some.inj (h1.symm.trans hc)
  subst hr
  obtain ⟨hSl, hfc, kC, hkC, hkind⟩ := hK.1 ci _ hc
  obtain ⟨cf, kf, fi, fd, hi, hsl⟩ := hSl f hf
  have hlay := hts _ (hin _ (u_in_lay hf))
  unfold u_lay at hlay
  rw [if_pos hfin] at hlay
  have hst := (u_facts hfc hkC (u_lays hts hin hf) hi).1
  have hcf : m.cls = cf := by
    obtain ⟨_, _, c', _, _, _, -, -, hf', -, -, -, hown2, -⟩ := Cond.laysFinal_spec hlay
    have e1 : c' = cf := by have := hi.symm.trans hf'; simp at this; exact this.1.symm
    rw [hown] at hown2
    rw [← e1]; exact Option.some.inj (Cx.ow.symm.trans hown2)
  have h6 := u_fits hfc hkC hkind (Or.inr hlay) hi ((hty f hf).trans (by rw [hd])) hn hfit
  have hi' : s.fieldFound? ref (T f).2.1 (T f).2.2.1 = some (cf, kf, fi, fd) := by rw [← href]; exact hi
  refine W.putFinK Cx.ex Cx.by Cx.ow (hts _ hlink) hi' hst hcf (Cx.nm.trans hini) (by rw [q2]; exact h6) q1 q3 (by rw [hsl]; exact k2_hasslot (q4 f hf)) rfl rfl d fun H' e1 e2 e3 => ?_
  rw [hsl] at e1
  exact kk p e s m ar be me c A H' _ ls Cx (hW.set hM ⟨_, hc, t_OB.to (V := updV (vp_V fs) f v) ⟨_, e1, q2, q3, t_set q4 hap hf v⟩ (fun j _ => vp_updV_set hl9 v j)⟩ e3) (hS.put e2 e3 (hW.2.2 k (bj_ne hM))) hl
/-! arrays -/
theorem bj_iald {x : Int32} {k j N : Nat} {cA : ClassId} {f : Nat → Int32} (d : decode Y.2.2.1 pc = .ok (.iaload, 1)) (t : Nat) (ht : G.2.2.2.1[t]? = some (cA, .int)) (hM : M k = some (.inl (cA, N, .inl f))) (hx : x = nI j) (hj : j < N) (hN : N < 2 ^ 31)
    (kk : bj_S G Y n K ad Q cs sl (pc + 1) L (.int (f j) :: st) M) : bj_S G Y n K ad Q cs sl pc L (.int x :: .ref (ad k) :: st) M := by
  subst hx
  intro p e s m ar be me c A H lo ls C hW hS hl
  have e9 : (nI j).toNatClampNeg = j := nI_clamp (Nat.lt_trans hj hN)
  refine va_iald (ws := [(ad k, .inl (cA, N, .inl f))]) C.ex C.by C.k (bj_one (hW.1 k _ hM)) 0 t rfl ht (vp_in_nI hj hN) d ?_
  rw [e9]
  exact kk p e s m ar be me c A H lo ls C hW hS hl
theorem bj_zald {x : Int32} {k j N : Nat} {cA : ClassId} {f : Nat → Int32} (d : decode Y.2.2.1 pc = .ok (.baload, 1)) (t : Nat) (ht : G.2.2.2.1[t]? = some (cA, .boolean)) (hM : M k = some (.inl (cA, N, .inl f))) (hx : x = nI j) (hj : j < N) (hN : N < 2 ^ 31)
    (kk : bj_S G Y n K ad Q cs sl (pc + 1) L (.int (f j) :: st) M) : bj_S G Y n K ad Q cs sl pc L (.int x :: .ref (ad k) :: st) M := by
  subst hx
  intro p e s m ar be me c A H lo ls C hW hS hl
  have e9 : (nI j).toNatClampNeg = j := nI_clamp (Nat.lt_trans hj hN)
  refine va_zald (ws := [(ad k, .inl (cA, N, .inl f))]) C.ex C.by C.k (bj_one (hW.1 k _ hM)) 0 t rfl ht (vp_in_nI hj hN) d ?_
  rw [e9]
  exact kk p e s m ar be me c A H lo ls C hW hS hl
theorem bj_lald {x : Int32} {k j N : Nat} {cA : ClassId} {f : Nat → Int64} (d : decode Y.2.2.1 pc = .ok (.laload, 1)) (t : Nat) (ht : G.2.2.2.1[t]? = some (cA, .long)) (hM : M k = some (.inl (cA, N, .inr (.inl f)))) (hx : x = nI j) (hj : j < N) (hN : N < 2 ^ 31)
    (kk : bj_S G Y n K ad Q cs sl (pc + 1) L (.long (f j) :: st) M) : bj_S G Y n K ad Q cs sl pc L (.int x :: .ref (ad k) :: st) M := by
  subst hx
  intro p e s m ar be me c A H lo ls C hW hS hl
  have e9 : (nI j).toNatClampNeg = j := nI_clamp (Nat.lt_trans hj hN)
  refine va_lald (ws := [(ad k, .inl (cA, N, .inr (.inl f)))]) C.ex C.by C.k (bj_one (hW.1 k _ hM)) 0 t rfl ht (vp_in_nI hj hN) d ?_
  rw [e9]
  exact kk p e s m ar be me c A H lo ls C hW hS hl
theorem bj_aald {x : Int32} {k j N q : Nat} {cA : ClassId} {ty : FieldType} {f : Nat → Option Nat} (d : decode Y.2.2.1 pc = .ok (.aaload, 1)) (t : Nat) (ht : G.2.2.2.1[t]? = some (cA, ty)) (hty : ty.isReference = true) (hM : M k = some (.inl (cA, N, .inr (.inr (.inr (.inr f)))))) (hx : x = nI j) (hj : j < N) (hN : N < 2 ^ 31) (hq : f j = some q)
    (kk : bj_S G Y n K ad Q cs sl (pc + 1) L (.ref q :: st) M) : bj_S G Y n K ad Q cs sl pc L (.int x :: .ref (ad k) :: st) M := by
  subst hx
  intro p e s m ar be me c A H lo ls C hW hS hl
  have e9 : (nI j).toNatClampNeg = j := nI_clamp (Nat.lt_trans hj hN)
  have hcell : H[ad k]? = some (vp_cell cA (N, .inr (.inr (.inr (.inr f))))) := hW.1 k _ hM
  refine W.aald (v := .ref q) (ty := ty) C.ex C.by hcell ((C.k.2 t _ ht).1 N (fun j => va_rf (f j))) hty (fun z => by cases z) ?_ ?_ rfl rfl d (kk p e s m ar be me c A H lo ls C hW hS hl)
  · rw [vp_cell_q, arrV_size]
    exact vp_in_nI hj hN
  · rw [vp_cell_q, e9, arrV_read _ _ hj, hq]
    rfl
theorem bj_alen {k : Nat} {cA : ClassId} {x : vp_A} {ty : FieldType} {v : Int32} (d : decode Y.2.2.1 pc = .ok (.arraylength, 1)) (t : Nat) (ht : G.2.2.2.1[t]? = some (cA, ty)) (hM : M k = some (.inl (cA, x))) (hv : nI x.1 = v)
    (kk : bj_S G Y n K ad Q cs sl (pc + 1) L (.int v :: st) M) : bj_S G Y n K ad Q cs sl pc L (.ref (ad k) :: st) M :=
  fun p e s m ar be me c A H lo ls C hW hS hl => va_alen (ws := [(ad k, .inl (cA, x))]) C.ex C.by C.k (bj_one (hW.1 k _ hM)) 0 t rfl ht hv d (kk p e s m ar be me c A H lo ls C hW hS hl)
theorem bj_iast {x y : Int32} {k j N : Nat} {cA : ClassId} {f : Nat → Int32} (d : decode Y.2.2.1 pc = .ok (.iastore, 1)) (t : Nat) (ht : G.2.2.2.1[t]? = some (cA, .int)) (hM : M k = some (.inl (cA, N, .inl f))) (hx : x = nI j) (hj : j < N) (hN : N < 2 ^ 31)
    (kk : bj_S G Y n K ad Q cs sl (pc + 1) L st (va_up M k (some (.inl (cA, N, .inl (va_up f j y)))))) : bj_S G Y n K ad Q cs sl pc L (.int y :: .int x :: .ref (ad k) :: st) M := by
  subst hx
  intro p e s m ar be me c A H lo ls C hW hS hl
  have e9 : (nI j).toNatClampNeg = j := nI_clamp (Nat.lt_trans hj hN)
  have hcell : H[ad k]? = some (vp_cell cA (N, .inl f)) := hW.1 k _ hM
  refine W.iast C.ex C.by hcell ((C.k.2 t _ ht).1 N (fun j => .int (f j))) (fun z => by cases z) (by rw [vp_cell_i, arrV_size]; exact vp_in_nI hj hN) rfl rfl d fun H1 e1 z oq => ?_
  refine kk p e s m ar be me c A H1 _ ls C (hW.set hM ?_ oq) (hS.put z oq (hW.2.2 k (bj_ne hM))) hl
  show H1[ad k]? = some (vp_cell _ _)
  rw [e1, e9, vp_cell_i, vp_cell_i, arrV_store]
  congr 2
  funext q
  by_cases hq : q = j
  · subst hq
    simp [updV, va_up]
  · simp [updV, va_up, hq]
theorem bj_zast {x y : Int32} {k j N : Nat} {cA : ClassId} {f : Nat → Int32} (d : decode Y.2.2.1 pc = .ok (.bastore, 1)) (t : Nat) (ht : G.2.2.2.1[t]? = some (cA, .boolean)) (hM : M k = some (.inl (cA, N, .inl f))) (hx : x = nI j) (hj : j < N) (hN : N < 2 ^ 31) (hy : narrow .boolean (.int y) = .int y)
    (kk : bj_S G Y n K ad Q cs sl (pc + 1) L st (va_up M k (some (.inl (cA, N, .inl (va_up f j y)))))) : bj_S G Y n K ad Q cs sl pc L (.int y :: .int x :: .ref (ad k) :: st) M := by
  subst hx
  intro p e s m ar be me c A H lo ls C hW hS hl
  have e9 : (nI j).toNatClampNeg = j := nI_clamp (Nat.lt_trans hj hN)
  have hcell : H[ad k]? = some (vp_cell cA (N, .inl f)) := hW.1 k _ hM
  refine W.zast C.ex C.by hcell ((C.k.2 t _ ht).1 N (fun j => .int (f j))) (fun z => by cases z) (by rw [vp_cell_i, arrV_size]; exact vp_in_nI hj hN) rfl rfl d fun H1 e1 z oq => ?_
  refine kk p e s m ar be me c A H1 _ ls C (hW.set hM ?_ oq) (hS.put z oq (hW.2.2 k (bj_ne hM))) hl
  show H1[ad k]? = some (vp_cell _ _)
  rw [e1, e9, hy, vp_cell_i, vp_cell_i, arrV_store]
  congr 2
  funext q
  by_cases hq : q = j
  · subst hq
    simp [updV, va_up]
  · simp [updV, va_up, hq]
theorem bj_last {x : Int32} {y : Int64} {k j N : Nat} {cA : ClassId} {f : Nat → Int64} (d : decode Y.2.2.1 pc = .ok (.lastore, 1)) (t : Nat) (ht : G.2.2.2.1[t]? = some (cA, .long)) (hM : M k = some (.inl (cA, N, .inr (.inl f)))) (hx : x = nI j) (hj : j < N) (hN : N < 2 ^ 31)
    (kk : bj_S G Y n K ad Q cs sl (pc + 1) L st (va_up M k (some (.inl (cA, N, .inr (.inl (va_up f j y))))))) : bj_S G Y n K ad Q cs sl pc L (.long y :: .int x :: .ref (ad k) :: st) M := by
  subst hx
  intro p e s m ar be me c A H lo ls C hW hS hl
  have e9 : (nI j).toNatClampNeg = j := nI_clamp (Nat.lt_trans hj hN)
  have hcell : H[ad k]? = some (vp_cell cA (N, .inr (.inl f))) := hW.1 k _ hM
  refine W.last C.ex C.by hcell ((C.k.2 t _ ht).1 N (fun j => .long (f j))) (fun z => by cases z) (by rw [vp_cell_l, arrV_size]; exact vp_in_nI hj hN) rfl rfl d fun H1 e1 z oq => ?_
  refine kk p e s m ar be me c A H1 _ ls C (hW.set hM ?_ oq) (hS.put z oq (hW.2.2 k (bj_ne hM))) hl
  show H1[ad k]? = some (vp_cell _ _)
  rw [e1, e9, vp_cell_l, vp_cell_l, arrV_store]
  congr 2
  funext q
  by_cases hq : q = j
  · subst hq
    simp [updV, va_up]
  · simp [updV, va_up, hq]
end BC
end
section
/-! the judgement's rows: calls; a callee's body is entered, its contract used, and the caller goes on behind it, or is left by the exception -/
section BK
theorem bj_wk {tb : Tables} {e : Env} {f : Frame} {below : List Frame} {a b : State} (h : Steps tb e (f :: below) a b) : Steps tb e below a b := by
  obtain ⟨n, h1, h2⟩ := h
  exact ⟨n, h1, fun k hk => Within.weaken (mid := [f]) (h2 k hk)⟩
/-- the locals at a method's start -/
theorem bj_start (av : List Value) {n : Nat} (hc : ∀ v ∈ av, v.category = 1) (hn : av.length ≤ n) : bj_L ((av.map Slot.val ++ List.replicate (n - av.length) Slot.unset).toArray) n (av.map some ++ List.replicate (n - av.length) none) := by
  have key : ∀ (i : Nat) (z : Slot), ((av.map Slot.val ++ List.replicate (n - av.length) Slot.unset).toArray)[i]? = some z → (∃ v, v ∈ av ∧ z = .val v) ∨ z = .unset := by
    intro i z h
    rw [List.getElem?_toArray] at h
    rcases List.mem_append.mp (List.mem_of_getElem? h) with h1 | h1
    · obtain ⟨v, hv, rfl⟩ := List.mem_map.mp h1
      exact Or.inl ⟨v, hv, rfl⟩
    · exact Or.inr (List.eq_of_mem_replicate h1)
  refine ⟨⟨by simp; omega, ⟨fun i v h h2 => ?_, fun i h => ?_⟩, fun _ h => by cases h⟩, by simp; omega, fun i v h => ?_⟩
  · rcases key i _ h with ⟨w, hw, e⟩ | e
    · cases e
      have := hc v hw
      omega
    · cases e
  · rcases key i _ h with ⟨w, hw, e⟩ | e
    · cases e
    · cases e
  · by_cases hi : i < av.length
    · rw [List.getElem?_append_left (by simpa using hi), List.getElem?_map] at h
      rw [List.getElem?_toArray, List.getElem?_append_left (by simpa using hi), List.getElem?_map]
      cases hv : av[i]? with
      | none => rw [hv] at h; cases h
      | some w =>
        rw [hv] at h
        cases h
        exact ⟨rfl, hc _ (List.mem_of_getElem? hv)⟩
    · rw [List.getElem?_append_right (by simp; omega)] at h
      have := List.eq_of_mem_replicate (List.mem_of_getElem? h)
      cases this
/-- a method as the tables have it -/
def bj_H (Yk : bj_Y) (s : State) (mk : MethodId) : Prop := s.methodNamed? Yk.2.1 = some mk ∧ ∃ (methk : Method) (ck : Code), s.vm.method? mk = some methk ∧ methk.code = some ck ∧ ck.code = Yk.2.2.1 ∧ ck.maxLocals = Yk.2.2.2.1 ∧ methk.sig.returnType = Yk.2.2.2.2.1 ∧ methk.locks = false ∧ ck.exceptionTable.toList = tableOf Yk.2.2.2.2.2 ∧ parseMethodDescriptor Yk.2.1.desc = some methk.sig
/-- its word: with handlers, or without -/
def bj_cw (Yk : bj_Y) (TB : List Cond) : Prop := (Yk.2.2.2.2.2 = [] ∧ Cond.code Yk.2.1 Yk.2.2.1 Yk.2.2.2.1 Yk.2.2.2.2.1 ∈ TB) ∨ Cond.codeWith Yk.2.1 Yk.2.2.1 Yk.2.2.2.1 Yk.2.2.2.2.1 Yk.2.2.2.2.2 ∈ TB
theorem bj_has {Yk : bj_Y} {TB : List Cond} {args : Array Value} {s : State} (h : bj_cw Yk TB) (ht : ∀ w ∈ TB, w.before args s = true) : ∃ mk, bj_H Yk s mk := by
  rcases h with ⟨h0, h⟩ | h
  · obtain ⟨mk, hn⟩ := Cond.code_named (ht _ h)
    obtain ⟨methk, ck, h1, h2, h3, h4, h5, h6, h7, h8⟩ := Cond.code_spec hn (ht _ h)
    refine ⟨mk, hn, methk, ck, h1, h2, h3, h4, h5, h6, ?_, h8⟩
    rw [h0, Array.isEmpty_iff.mp h7]
    rfl
  · obtain ⟨mk, methk, ck, hn, h1, h2, h3, h4, h5, h6, h7, h8⟩ := Cond.codeWith_spec (ht _ h)
    refine ⟨mk, hn, methk, ck, h1, h2, h3, h4, h6, h7, ?_, h8⟩
    rw [← h5, table_eq]
/-- a callee's run, seen by its caller -/
theorem bj_run {G : bj_G} {Y Yk : bj_Y} {n nk : Nat} {K Kk : bj_K} {ad : Nat → Nat} {Qk : bj_R → bj_M → Prop} {cs sl : Nat} {M : bj_M} {A : Nat → Prop} {p : Program} {e : Env} {s U : State} {m mk : MethodId} {ar : Array Value} {be : List Frame} {me : Method} {c : Code} {lo : List Loc} {av : List Value} {g : JFrame} {ig : Instr}
    (X : Stand p G.1 e (bj_room n K) s m ar be me c U lo cs sl) (C : bj_C G Y A p s m ar me c) (hW : bj_W G ad M A U.heap) (hS : va_S A s.heap U.heap lo) (hT : bj_T G Yk nk Kk ad Qk av M)
    (hH : bj_H Yk s mk) (hown : Yk.1 = Yk.2.1.cls) (hpl : plainFor Yk.2.1 = true) (hav : ∀ v ∈ av, v.category = 1) (hlen : av.length ≤ Yk.2.2.2.1) (hn : nk + 1 ≤ n) (hml : Yk.2.2.2.1 ≤ 17)
    (hc : cs + (Kk.1 + Kk.2.2.1) ≤ K.1 + K.2.2.1) (hs : sl + (Kk.2.1 + Kk.2.2.2) ≤ K.2.1 + K.2.2.2)
    (hg : g.method = m) (hsize : g.locals.size = c.maxLocals) (hdg : decode c.code g.pc = .ok (ig, 3)) (hroom : 2 * g.monitorRoom + (g.stack.map fun v => v.category).sum ≤ 8) :
    ∃ t : State, (∀ acts, Steps p.tables e be (doInvoke e (U.setTop g) acts mk av.toArray).1 t) ∧
      ((∃ (v : Option Value) (M' : bj_M) (T' : State) (L' : List Loc), Qk (.inl v) M' ∧ bj_W G ad M' A T'.heap ∧ va_S A s.heap T'.heap (lo ++ L') ∧ Stand p G.1 e (bj_room n K) s m ar be me c T' (lo ++ L') (cs + Kk.1) (sl + Kk.2.1) ∧ t = T'.setTop { g with pc := g.pc + 3, stack := v.toList ++ g.stack }) ∨
       (∃ (x : Addr) (E : String) (ce : Cell) (M' : bj_M) (T' : State) (L' : List Loc), Qk (.inr E) M' ∧ bj_W G ad M' A T'.heap ∧ va_S A s.heap T'.heap (lo ++ L') ∧ T'.heap[x]? = some ce ∧ ce.vm = .none ∧ s.vm.findClass E = some ce.cls ∧ Stand p G.1 e (bj_room n K) s m ar be me c T' (lo ++ L') (cs + Kk.2.2.1) (sl + Kk.2.2.2) ∧ t = (T'.setTop g).pushFrame (.throwing x))) := by
  obtain ⟨hnm, methk, ck, h1, h2, h3, h4, h5, h6, h7, h8⟩ := hH
  have hal : s.vm.Alike U.vm := X.warmed.alike
  have hmU : U.vm.method? mk = some methk := by rw [hal.method?]; exact h1
  have hpk : U.plainMethod mk := State.plainMethod.of_named hpl (X.named hnm) hmU
  obtain ⟨Yst, hst⟩ := X.into (g := g) hg hsize hdg (mk := mk) (methk := methk) (ck := ck) av.toArray (R' := bj_room nk Kk) hmU h2 h6 hpk (by show nk + 1 ≤ n; omega)
    (by show 2 * g.monitorRoom + (g.stack.map fun v => v.category).sum + (ck.maxLocals + 11) + 36 * nk ≤ 36 * n; rw [h4]; omega) hc hs
  have hheap : (U.calling g mk av.toArray).heap = U.heap := rfl
  have Ck : bj_C G Yk A p (U.calling g mk av.toArray) mk av.toArray methk ck := by
    refine ⟨C.ex, h3, h4, ?_, h5, h6, (name_of_methodNamed hnm h1).1, h7, ?_, fun q hq => C.up q (Nat.le_trans hS.1 hq)⟩
    · show U.vm.findClass Yk.1 = some mk.cls
      rw [hal.findClass, hown]
      exact findClass_of_methodNamed hnm
    · exact C.fc.go X.warmed hS.1 hS.2.1
  have w := hT p e (U.calling g mk av.toArray) mk av.toArray (.java g :: be) methk ck A U.heap [] _ Ck hW va_S.rf (bj_start av hav hlen)
  obtain ⟨t, hs1, o, hrun, hend, hq⟩ := w ((U.setTop g).pushFrame (.java (entryFrame mk av.toArray ck.maxLocals))) rfl Yst
  refine ⟨t, fun acts => ?_, ?_⟩
  · rw [hst acts, h4, entry_eq mk av hav]
    rw [h4, entry_eq mk av hav] at hs1
    exact bj_wk hs1
  · rcases hq with ⟨v, M', L', rfl, hq1, hq2, hF, hw, hsm, hL⟩ | ⟨x, E, ce, M', L', rfl, hq1, hq2, hF, hce, hcv, hcl, hw, hsm, hL⟩
    · obtain ⟨T', X', -, -, ht⟩ := X.outOf hg hdg hend hw hsm
      have hh : t.heap = T'.heap := by rw [ht]; rfl
      refine Or.inl ⟨v, M', T', L', hq1, by rw [← hh]; exact hq2, ?_, X', ht⟩
      rw [← hh]
      exact ⟨Nat.le_trans hS.1 hF.1, fun q h9 hA => (hF.2 q (Nat.lt_of_lt_of_le h9 hS.1) hA).trans (hS.2.1 q h9 hA), fun q hq => by
        rcases List.mem_append.mp hq with h | h
        · exact hS.2.2 q h
        · exact hL q h⟩
    · obtain ⟨T', X', -, -, ht⟩ := X.outOfThrown hg hend hw hsm
      have hh : t.heap = T'.heap := by rw [ht]; rfl
      refine Or.inr ⟨x, E, ce, M', T', L', hq1, by rw [← hh]; exact hq2, ?_, by rw [← hh]; exact hce, hcv, ?_, X', ht⟩
      · rw [← hh]
        exact ⟨Nat.le_trans hS.1 hF.1, fun q h9 hA => (hF.2 q (Nat.lt_of_lt_of_le h9 hS.1) hA).trans (hS.2.1 q h9 hA), fun q hq => by
          rcases List.mem_append.mp hq with h | h
          · exact hS.2.2 q h
          · exact hL q h⟩
      · have h9 : U.vm.findClass E = some ce.cls := hcl
        rw [hal.findClass] at h9
        exact h9
/-- an exception of class E stands over the body at pc -/
def bj_X (G : bj_G) (Y : bj_Y) (n : Nat) (K : bj_K) (ad : Nat → Nat) (Q : bj_R → bj_M → Prop) (cs sl pc : Nat) (L : List (Option Value)) (E : String) (M : bj_M) : Prop :=
  ∀ (p : Program) (e : Env) (s : State) (m : MethodId) (args : Array Value) (below : List Frame) (meth : Method) (c : Code) (A : Nat → Prop) (H : Heap) (locs : List Loc) (ls : Array Slot) (x : Addr) (ce : Cell) (st : List Value) (T : State),
    bj_C G Y A p s m args meth c → bj_W G ad M A H → va_S A s.heap H locs → bj_L ls Y.2.2.2.1 L → H[x]? = some ce → ce.vm = .none → s.vm.findClass E = some ce.cls → T.heap = H → Stand p G.1 e (bj_room n K) s m args below meth c T locs cs sl →
    ∃ t, Steps p.tables e below ((T.setTop (F0 m pc ls st)).pushFrame (.throwing x)) t ∧ bj_Q G ad Q K A below s t
section Rows
variable {G : bj_G} {Y Yk : bj_Y} {n nk : Nat} {K Kk : bj_K} {ad : Nat → Nat} {Q Qk : bj_R → bj_M → Prop} {cs sl pc index : Nat} {L : List (Option Value)} {st st0 av : List Value} {M : bj_M}
/-- what every call asks -/
def bj_ok (Yk : bj_Y) (av : List Value) (nk n : Nat) (K Kk : bj_K) (cs sl : Nat) (st : List Value) : Prop :=
  Yk.1 = Yk.2.1.cls ∧ plainFor Yk.2.1 = true ∧ (∀ v ∈ av, v.category = 1) ∧ av.length ≤ Yk.2.2.2.1 ∧ nk + 1 ≤ n ∧ Yk.2.2.2.1 ≤ 17 ∧ cs + (Kk.1 + Kk.2.2.1) ≤ K.1 + K.2.2.1 ∧ sl + (Kk.2.1 + Kk.2.2.2) ≤ K.2.1 + K.2.2.2 ∧ (st.map fun v => v.category).sum ≤ 8 ∧ (Yk.2.1.cls ≠ "java/lang/invoke/MethodHandle" ∧ Yk.2.1.cls ≠ "java/lang/invoke/VarHandle")
theorem bj_back {p : Program} {e : Env} {s T U : State} {m mk : MethodId} {ar : Array Value} {be : List Frame} {me : Method} {c : Code} {A : Nat → Prop} {lo : List Loc} {ls : Array Slot} {ig : Instr} {g0 : JFrame}
    (X : Stand p G.1 e (bj_room n K) s m ar be me c U lo cs sl) (C : bj_C G Y A p s m ar me c) (hW : bj_W G ad M A U.heap) (hS : va_S A s.heap U.heap lo) (hl : bj_L ls Y.2.2.2.1 L) (hT : bj_T G Yk nk Kk ad Qk av M) (hH : bj_H Yk s mk) (ok : bj_ok Yk av nk n K Kk cs sl st)
    (hdg : decode c.code pc = .ok (ig, 3)) (step : ∀ target, (∀ acts, Steps p.tables e be (doInvoke e (U.setTop (F0 m pc ls st)) acts mk av.toArray).1 target) → Steps p.tables e be (T.setTop g0) target)
    (kr : ∀ v M', Qk (.inl v) M' → bj_S G Y n K ad Q (cs + Kk.1) (sl + Kk.2.1) (pc + 3) L (v.toList ++ st) M') (kx : ∀ E M', Qk (.inr E) M' → bj_X G Y n K ad Q (cs + Kk.2.2.1) (sl + Kk.2.2.2) pc L E M') : ∃ t, Steps p.tables e be (T.setTop g0) t ∧ bj_Q G ad Q K A be s t := by
  obtain ⟨o1, o2, o3, o4, o5, o6, o7, o8, o9, -⟩ := ok
  obtain ⟨t, ht, h⟩ := bj_run (g := F0 m pc ls st) X C hW hS hT hH o1 o2 o3 o4 o5 o6 o7 o8 rfl (hl.1.1.trans C.ml.symm) hdg (by show 2 * 0 + (st.map fun v => v.category).sum ≤ 8; omega)
  have h0 := step t ht
  rcases h with ⟨v, M', T', L', q1, q2, q3, q4, rfl⟩ | ⟨x, E, ce, M', T', L', q1, q2, q3, q5, q6, q7, q4, rfl⟩
  · obtain ⟨t2, a1, b1⟩ := kr v M' q1 p e s m ar be me c A T'.heap _ ls C q2 q3 hl T' rfl q4
    exact ⟨t2, h0.trans a1, b1⟩
  · obtain ⟨t2, a1, b1⟩ := kx E M' q1 p e s m ar be me c A T'.heap _ ls x ce st T' C q2 q3 hl q5 q6 q7 rfl q4
    exact ⟨t2, h0.trans a1, b1⟩
theorem bj_callS (d : decode Y.2.2.1 pc = .ok (.invokestatic index, 3)) (hT : bj_T G Yk nk Kk ad Qk av M) (w1 : Cond.methodLink Y.1 index Yk.2.1 ∈ G.2.2.2.2) (w2 : Cond.static Yk.2.1 ∈ G.2.2.2.2) (w3 : Cond.initialized Yk.2.1.cls ∈ G.2.2.2.2) (w4 : bj_cw Yk G.2.2.2.2)
    (hlen : (parseMethodDescriptor Yk.2.1.desc).map (fun d => d.parameters.length) = some av.length) (ok : bj_ok Yk av nk n K Kk cs sl st) (hst : st0 = av.reverse ++ st)
    (kr : ∀ v M', Qk (.inl v) M' → bj_S G Y n K ad Q (cs + Kk.1) (sl + Kk.2.1) (pc + 3) L (v.toList ++ st) M') (kx : ∀ E M', Qk (.inr E) M' → bj_X G Y n K ad Q (cs + Kk.2.2.1) (sl + Kk.2.2.2) pc L E M') : bj_S G Y n K ad Q cs sl pc L st0 M := by
  subst hst
  intro p e s m ar be me c A H lo ls C hW hS hl T hTh X
  subst hTh
  obtain ⟨mk, hH⟩ := bj_has w4 C.ts
  obtain ⟨hnm, methk, ck, h1, h2, h3, h4, h5, h6, h7, h8⟩ := id hH
  have hstat : methk.isStatic = true := Cond.static_spec hnm h1 (C.ts _ w2)
  obtain ⟨kP, hkP, -⟩ := className_of_methodNamed hnm
  have hinit : kP.init = .initialized := Cond.initialized_spec (findClass_of_methodNamed hnm) hkP (C.ts _ w3)
  have hln : av.length = methk.sig.parameters.length := by rw [h8] at hlen; exact (Option.some.inj hlen).symm
  have hdg : decode c.code pc = .ok (.invokestatic index, 3) := by rw [C.by]; exact d
  obtain ⟨vm₁, X₁, hstep⟩ := X.invokestatic C.ex C.ow (C.ts _ w1) hnm h1 hstat hkP hinit ok.2.2.2.2.2.2.2.2.2 (g := F0 m pc ls (av.reverse ++ st)) rfl (argsL := av) (rest := st) hln rfl hdg
  exact bj_back X₁ C hW hS hl hT hH ok hdg hstep kr kx
theorem bj_callSN {host : String} (d : decode Y.2.2.1 pc = .ok (.invokestatic index, 3)) (hT : bj_T G Yk nk Kk ad Qk av M) (w1 : Cond.methodLinkNest Y.1 index Yk.2.1 host ∈ G.2.2.2.2) (w2 : Cond.static Yk.2.1 ∈ G.2.2.2.2) (w3 : Cond.initialized Yk.2.1.cls ∈ G.2.2.2.2) (w4 : bj_cw Yk G.2.2.2.2)
    (hlen : (parseMethodDescriptor Yk.2.1.desc).map (fun d => d.parameters.length) = some av.length) (ok : bj_ok Yk av nk n K Kk cs sl st) (hst : st0 = av.reverse ++ st)
    (kr : ∀ v M', Qk (.inl v) M' → bj_S G Y n K ad Q (cs + Kk.1) (sl + Kk.2.1) (pc + 3) L (v.toList ++ st) M') (kx : ∀ E M', Qk (.inr E) M' → bj_X G Y n K ad Q (cs + Kk.2.2.1) (sl + Kk.2.2.2) pc L E M') : bj_S G Y n K ad Q cs sl pc L st0 M := by
  subst hst
  intro p e s m ar be me c A H lo ls C hW hS hl T hTh X
  subst hTh
  obtain ⟨mk, hH⟩ := bj_has w4 C.ts
  obtain ⟨hnm, methk, ck, h1, h2, h3, h4, h5, h6, h7, h8⟩ := id hH
  have hstat : methk.isStatic = true := Cond.static_spec hnm h1 (C.ts _ w2)
  obtain ⟨kP, hkP, -⟩ := className_of_methodNamed hnm
  have hinit : kP.init = .initialized := Cond.initialized_spec (findClass_of_methodNamed hnm) hkP (C.ts _ w3)
  have hln : av.length = methk.sig.parameters.length := by rw [h8] at hlen; exact (Option.some.inj hlen).symm
  have hdg : decode c.code pc = .ok (.invokestatic index, 3) := by rw [C.by]; exact d
  obtain ⟨vm₁, X₁, hstep⟩ := X.invokestaticNest C.ex C.ow (C.ts _ w1) hnm h1 hstat hkP hinit ok.2.2.2.2.2.2.2.2.2 (g := F0 m pc ls (av.reverse ++ st)) rfl (argsL := av) (rest := st) hln rfl hdg
  exact bj_back X₁ C hW hS hl hT hH ok hdg hstep kr kx
theorem bj_callV {k ci : Nat} {fs as : List Value} {r : vw_C} (d : decode Y.2.2.1 pc = .ok (.invokevirtual index, 3)) (hT : bj_T G Yk nk Kk ad Qk (.ref (ad k) :: as) M) (w1 : Cond.methodLink Y.1 index Yk.2.1 ∈ G.2.2.2.2) (w2 : Cond.instanceMethod Yk.2.1 ∈ G.2.2.2.2) (w3 : Cond.selects Yk.2.1.cls Yk.2.1 Yk.2.1 ∈ G.2.2.2.2) (w4 : bj_cw Yk G.2.2.2.2)
    (hlen : (parseMethodDescriptor Yk.2.1.desc).map (fun d => d.parameters.length) = some as.length) (ok : bj_ok Yk (.ref (ad k) :: as) nk n K Kk cs sl st) (hst : st0 = as.reverse ++ .ref (ad k) :: st) (hM : M k = some (.inr (ci, fs))) (hc : G.2.2.1[ci]? = some r) (hr : r.1 = Yk.2.1.cls)
    (kr : ∀ v M', Qk (.inl v) M' → bj_S G Y n K ad Q (cs + Kk.1) (sl + Kk.2.1) (pc + 3) L (v.toList ++ st) M') (kx : ∀ E M', Qk (.inr E) M' → bj_X G Y n K ad Q (cs + Kk.2.2.1) (sl + Kk.2.2.2) pc L E M') : bj_S G Y n K ad Q cs sl pc L st0 M := by
  subst hst
  intro p e s m ar be me c A H lo ls C hW hS hl T hTh X
  subst hTh
  obtain ⟨mk, hH⟩ := bj_has w4 C.ts
  obtain ⟨hnm, methk, ck, h1, h2, h3, h4, h5, h6, h7, h8⟩ := id hH
  obtain ⟨mk2, meth2, hnm2, h12, hst2, hab⟩ := Cond.instanceMethod_spec (C.ts _ w2)
  cases hnm.symm.trans hnm2
  cases h1.symm.trans h12
  obtain ⟨r', hr', cellB, g1, g2, g3, -⟩ := hW.1 k _ hM
  have hfc : s.vm.findClass Yk.2.1.cls = some cellB.cls := by
    rw [g2, ← hr]
    exact (C.k.1 ci r hc).2.1
  obtain ⟨c2, r2, m2, q1, q2, q3, q4, kP, hkP, hkPi⟩ := Cond.selects_spec (C.ts _ w3)
  cases hfc.symm.trans q1
  cases (State.methodFound?_of_named hnm ok.2.2.2.2.2.2.2.2.2).symm.trans q2
  cases hnm.symm.trans q3
  have hselP : selectMethod e.platform s.vm cellB.cls mk = .method mk := by rw [Launch.admits_selectMethod X.admits]; exact q4
  have hln : as.length = methk.sig.parameters.length := by rw [h8] at hlen; exact (Option.some.inj hlen).symm
  have hdg : decode c.code pc = .ok (.invokevirtual index, 3) := by rw [C.by]; exact d
  obtain ⟨vm₁, X₁, hstep⟩ := X.invokevirtual C.ex C.ow (C.ts _ w1) hnm h1 hst2 hkP hkPi ok.2.2.2.2.2.2.2.2.2 (a := ad k) (cell := cellB) g1 (fun z h => by rw [g3] at h; cases h) hselP h1 hab hkP hkPi (g := F0 m pc ls (as.reverse ++ .ref (ad k) :: st)) rfl (argsL := as) (rest := st) hln rfl hdg
  exact bj_back X₁ C hW hS hl hT hH ok hdg hstep kr kx
theorem bj_callI {k : Nat} {as : List Value} (d : decode Y.2.2.1 pc = .ok (.invokespecial index, 3)) (hT : bj_T G Yk nk Kk ad Qk (.ref k :: as) M) (w1 : Cond.methodLink Y.1 index Yk.2.1 ∈ G.2.2.2.2) (w2 : Cond.instanceMethod Yk.2.1 ∈ G.2.2.2.2) (w4 : Cond.code Yk.2.1 Yk.2.2.1 Yk.2.2.2.1 none ∈ G.2.2.2.2) (hh : Yk.2.2.2.2.2 = []) (hrt : Yk.2.2.2.2.1 = none) (hnm0 : Yk.2.1.name = "<init>")
    (hlen : (parseMethodDescriptor Yk.2.1.desc).map (fun d => d.parameters.length) = some as.length) (ok : bj_ok Yk (.ref k :: as) nk n K Kk cs sl st) (hst : st0 = as.reverse ++ .ref k :: st)
    (kr : ∀ v M', Qk (.inl v) M' → bj_S G Y n K ad Q (cs + Kk.1) (sl + Kk.2.1) (pc + 3) L (v.toList ++ st) M') (kx : ∀ E M', Qk (.inr E) M' → bj_X G Y n K ad Q (cs + Kk.2.2.1) (sl + Kk.2.2.2) pc L E M') : bj_S G Y n K ad Q cs sl pc L st0 M := by
  subst hst
  intro p e s m ar be me c A H lo ls C hW hS hl T hTh X
  subst hTh
  obtain ⟨mk, hH⟩ := bj_has (Yk := Yk) (TB := G.2.2.2.2) (Or.inl ⟨hh, by rw [hrt]; exact w4⟩) C.ts
  obtain ⟨hnm, methk, ck, h1, h2, h3, h4, h5, h6, h7, h8⟩ := id hH
  have hpl : e.platform.magicAccessors = ({} : Platform).magicAccessors := by rw [X.admits.platform]
  have hdg : decode c.code pc = .ok (.invokespecial index, 3) := by rw [C.by]; exact d
  obtain ⟨mk2, methM, cM, kP, vm₁, hnamed, -, -, -, -, -, -, -, hW₁, hstep⟩ := Steps.initColdArgs (e := e) X.here C.ex X.warmed hpl C.ow hnm0 ok.2.2.2.2.2.2.2.2.2 (C.ts _ w1) (C.ts _ w2) (C.ts _ w4) (f := F0 m pc ls (as.reverse ++ .ref k :: st)) rfl (a := k) (argsL := as) (rest := st) (fun sig h => by rw [h] at hlen; exact (Option.some.inj hlen).symm) rfl hdg
  cases hnm.symm.trans hnamed
  exact bj_back (X.noted hW₁) C hW hS hl hT hH ok hdg hstep kr kx
end Rows
end BK
end
section
/-! the judgement's rows: exceptions made and thrown, that leave a body, that are caught in it -/
section BT
/-- the same frame, looked at from here on -/
theorem bj_rebase {p : Program} {l : Launch} {e : Env} {R R' : Room} {s T : State} {m : MethodId} {args : Array Value} {below : List Frame} {meth : Method} {c : Code} {locs : List Loc} {cells slots : Nat} (X : Stand p l e R s m args below meth c T locs cells slots) (hf : R'.frames ≤ R.frames) (hl : R'.locals ≤ R.locals) (hc : cells + R'.cells ≤ R.cells) (hs : slots + R'.slots ≤ R.slots) :
    Stand p l e R' ((T.setVm s.vm).setFrames (.invoking m args :: below)) m args below meth c T [] 0 0 := by
  have htop : (T.setVm s.vm).topJava?.isSome := X.here.top
  have hcur : (T.setVm s.vm).cur < (T.setVm s.vm).threads.size := State.cur_lt_of_top htop
  have hF : ((T.setVm s.vm).setFrames (.invoking m args :: below)).frames = .invoking m args :: below := State.frames_setFrames _ hcur
  have hloc : ((T.setVm s.vm).setFrames (.invoking m args :: below)).localsInUse = s.localsInUse := by
    rw [State.localsInUse_invoking hF (meth := meth) (c := c) X.method X.code, State.localsInUse_invoking X.frames X.method X.code]
  obtain ⟨g₀, hfr⟩ := X.frames_eq
  obtain ⟨th, hth, -⟩ := State.frames_cons hfr
  obtain ⟨th', hth', -⟩ := State.frames_cons hF
  have hlim : e.platform.stackLimits ((T.setVm s.vm).setFrames (.invoking m args :: below)).me = e.platform.stackLimits s.me := by
    rw [State.stackLimits_setFrames]; exact X.limits
  have hby : ((T.setVm s.vm).setFrames (.invoking m args :: below)).me.stackBytes = s.me.stackBytes := by
    rw [State.stackBytes_setFrames]; exact X.bytes
  have hroom : ((T.setVm s.vm).setFrames (.invoking m args :: below)).hasRoom e.platform R' = true := by
    have h := X.room
    have q1 := X.heapSize
    have q2 := X.used
    have q3 := X.book
    simp only [State.hasRoom, Bool.and_eq_true, decide_eq_true_eq] at h ⊢
    obtain ⟨⟨⟨⟨h1, h2, h3, h4, h5, h6⟩, h7⟩, h8⟩, h9⟩ := h
    rw [X.frames] at h2 h3
    rw [hF, hloc, hlim, hby]
    refine ⟨⟨⟨⟨by omega, by omega, by omega, by omega, by omega, h6⟩, ?_⟩, ?_⟩, q3⟩
    · show T.heap.size + R'.cells ≤ e.platform.maxCells
      omega
    · show T.slotsUsed + R'.slots ≤ e.platform.maxSlots
      omega
  have hsame : ((T.setVm s.vm).setFrames (.invoking m args :: below)).sameButNew (T.setVm s.vm) [] 0 0 := by
    have h := (State.sameButNew.refl ((T.setVm s.vm).setFrames (.invoking m args :: below)) hth').setFrames (T.setVm s.vm).frames (State.cur_lt_of_frames hF)
    rw [State.setFrames_setFrames, State.setFrames_self (s := T.setVm s.vm) hth] at h
    exact h
  exact ⟨X.admits, X.cas, X.clock, hF, hroom, X.hears, X.method, X.code, X.here, X.tail, X.warmed, X.limits.trans hlim.symm, X.bytes.trans hby.symm, hsame⟩
/-- where nothing old was written, every old cell is what it was -/
theorem bj_old {s U : State} {k n : Nat} (h : s.sameButNew ({ U with vm := s.vm } : State) [] k n) : s.heap.size ≤ U.heap.size ∧ ∀ q : Nat, q < s.heap.size → U.heap[q]? = s.heap[q]? := by
  obtain ⟨-, h2, -, -, -, h6⟩ := h
  refine ⟨h2, fun q hq => ?_⟩
  obtain ⟨x, hx⟩ : ∃ x, s.heap[q]? = some x := ⟨s.heap[q], Array.getElem?_eq_getElem hq⟩
  obtain ⟨x', hx', e1, e2, e3⟩ := h6 q x hx
  have e4 : x'.slots = x.slots := Array.ext_getElem? (fun i => e3 i (fun z => by cases z))
  rw [e4] at e1
  have hU : U.heap[q]? = some x' := hx'
  rw [hU, hx, e1]
section Rows
variable {G : bj_G} {Y : bj_Y} {n : Nat} {K : bj_K} {ad : Nat → Nat} {Q : bj_R → bj_M → Prop} {cs sl pc : Nat} {L : List (Option Value)} {st : List Value} {M : bj_M}
set_option maxHeartbeats 4000000 in
/-- throw new E("text") -/
theorem bj_throw {cls text : String} {names : List String} {ik is ic : Nat} (d0 : decode Y.2.2.1 pc = .ok (.new ik, 3)) (d3 : decode Y.2.2.1 (pc + 3) = .ok (.dup, 1)) (d4 : decode Y.2.2.1 (pc + 4) = .ok (.ldc is, 2)) (d6 : decode Y.2.2.1 (pc + 6) = .ok (.invokespecial ic, 3)) (d9 : decode Y.2.2.1 (pc + 9) = .ok (.athrow, 1))
    (htr0 : G.1.stackTraces = false) (hcls : Bundle.fit cls = true) (hnames : ∀ x ∈ names, Bundle.fit x = true) (hnl : names.length ≤ 2) (hn6 : 6 ≤ n) (w1 : Cond.classLink Y.1 ik cls ∈ G.2.2.2.2) (w2 : Cond.initialized cls ∈ G.2.2.2.2) (w3 : Cond.stringRef Y.1 is text ∈ G.2.2.2.2) (w4 : ∀ w ∈ Bundle.ownAtoms Y.1 ic cls names, w ∈ G.2.2.2.2)
    (hout : ∀ x ∈ tableOf Y.2.2.2.2.2, covers x (pc + 9) = false) (hc : cs + 1 ≤ K.2.2.1) (hs : sl + 6 ≤ K.2.2.2) (hst : (st.map fun v => v.category).sum ≤ 8) (hq : Q (.inr cls) M) : bj_S G Y n K ad Q cs sl pc L st M := by
  intro p e s m ar be me c A H lo ls C hW hS hl T hT X
  subst hT
  have htr : e.platform.stackTraces = false := (show e.platform.stackTraces = G.1.stackTraces by rw [X.admits.platform]).trans htr0
  have Xb := bj_rebase X (R' := { frames := n, locals := 36 * n, cells := 1, slots := 6 }) (Nat.le_refl _) (Nat.le_refl _) (by show cs + 1 ≤ K.1 + K.2.2.1; omega) (by show sl + 6 ≤ K.2.1 + K.2.2.2; omega)
  have hw : ∀ w ∈ G.2.2.2.2, w.before ar ((T.setVm s.vm).setFrames (.invoking m ar :: be)) = true := (C.fc ((T.setVm s.vm).setFrames (.invoking m ar :: be)) ar (State.WarmedH.refl s) hS.1 hS.2.1).1
  have hown : ((T.setVm s.vm).setFrames (.invoking m ar :: be)).vm.findClass Y.1 = some m.cls := C.ow
  have hsame0 : ∀ U : State, ((T.setVm s.vm).setFrames (.invoking m ar :: be)).sameButNew ({ U with vm := s.vm } : State) [] (0 + 1) (0 + 6) → (T.setVm s.vm).sameButNew ({ U with vm := s.vm } : State) [] 1 6 := by
    intro U hU
    obtain ⟨e1, e2⟩ := hU
    rw [State.setFrames_setFrames] at e1
    exact ⟨e1, e2⟩
  have hheap : ((T.setVm s.vm).setFrames (.invoking m ar :: be)).heap = T.heap := rfl
  have hvm : ((T.setVm s.vm).setFrames (.invoking m ar :: be)).vm = s.vm := rfl
  generalize (T.setVm s.vm).setFrames (.invoking m ar :: be) = s' at Xb hw hown hsame0 hheap hvm
  have hins : (Cond.instantiable cls 6).before ar s' = true := hw _ (w4 _ (by simp [Bundle.ownAtoms]))
  obtain ⟨vm₁, cX, kX, hfX, hkX, -, -, X₁, st1⟩ := Xb.newCold C.ex (own := Y.1) (C := cls) (index := ik) (n := 6) hown (hw _ w1) hins (hw _ w2)
    (g := F0 m pc ls st) rfl (by rw [C.by]; exact d0) (Nat.le_refl _) (Nat.le_refl _)
  generalize hT1 : (T.setVm vm₁).pushCell { cls := cX, slots := kX.instanceTypes.map defaultValue, vm := .none } = T1 at X₁ st1
  have hcat : (Value.ref T.heap.size).category = 1 := rfl
  have hcellA : T1.heap[T.heap.size]? = some (freshCell cX kX) := by rw [← hT1]; exact State.heap_pushCell_size _ _
  have d3' : decode c.code (pc + 3) = .ok (.dup, 1) := by rw [C.by]; exact d3
  have d4' : decode c.code (pc + 4) = .ok (.ldc is, 2) := by rw [C.by]; exact d4
  obtain ⟨-, -, -, sa, -, -, -, -, -, hev⟩ := Cond.stringRef_spec hown (hw _ w3)
  obtain ⟨U, hsteps, hrun, hend, hWU, hsame, ce, hce, hO⟩ := X₁.ctorThrowS C.ex htr (own := Y.1) (cls := cls) (names := names) (ic := ic) hown hcls hnames (fun w h => hw _ (w4 w h)) (fun x hx => nomatch hx) hfX hkX hcellA (by rw [hheap]; exact Nat.le_refl _) (msg := .ref sa) rfl
    (g := { method := m, pc := pc + 6, locals := ls, stack := .ref sa :: .ref T.heap.size :: .ref T.heap.size :: st, locked := none }) rfl (hl.1.1.trans C.ml.symm) rfl rfl (rest := st) rfl
    (by rw [C.by]; exact d6) (by rw [C.by]; exact d9) (by rw [C.tb]; exact hout) (by show names.length + 3 < n; omega) (by
      show 2 * 0 + ((Value.ref T.heap.size :: st).map fun v => v.category).sum + (13 * (names.length + 1) + 42) ≤ 36 * n
      simp only [List.map_cons, List.sum_cons, hcat]; omega) C.lk
  rw [hvm] at hsame
  have hsm := hsame0 U hsame
  have hold := bj_old (s := T.setVm s.vm) hsm
  have hcl : s.vm.findClass cls = some ce.cls := by
    have h9 := hO.cls
    rw [hvm] at h9
    exact h9
  have hWs : s.WarmedH U.vm := State.WarmedH.trans (t := s') (by rw [hvm]; exact State.WarmedH.refl s) hWU
  have hall : s.sameButNew ({ U with vm := s.vm } : State) lo K.2.2.1 K.2.2.2 := by
    have h3 := X.same.trans hsm
    rw [List.append_nil] at h3
    exact h3.mono hc hs
  refine ⟨U, ?_, .threw T.heap.size, hrun, hend, Or.inr ⟨T.heap.size, cls, ce, M, lo, rfl, hq, hW.kept hold.2, ⟨Nat.le_trans hS.1 hold.1, fun q h1 h2 => (hold.2 q (Nat.lt_of_lt_of_le h1 hS.1)).trans (hS.2.1 q h1 h2)⟩, hce, hO.vm, hcl, hWs, hall, hS.2.2⟩⟩
  refine st1 _ ?_
  show Steps p.tables e be (T1.setTop { method := m, pc := pc + 3, locals := ls, stack := .ref T.heap.size :: st, locked := none }) _
  jvm_step X₁.here [X₁.here.top, C.ex, d3', Value.category]
  exact X₁.ldcString C.ex (own := Y.1) (text := text) (index := is) (a := sa) hown (hw _ w3) hev
    (g := { method := m, pc := pc + 4, locals := ls, stack := .ref T.heap.size :: .ref T.heap.size :: st, locked := none }) rfl d4' _ hsteps
/-- no handler here: the exception leaves the body -/
theorem bj_out {E : String} (hout : ∀ x ∈ tableOf Y.2.2.2.2.2, covers x pc = false) (hc : cs ≤ K.2.2.1) (hs : sl ≤ K.2.2.2) (hq : Q (.inr E) M) : bj_X G Y n K ad Q cs sl pc L E M := by
  intro p e s m ar be me c A H lo ls x ce st T C hW hS hl hx hv hcl hT X
  subst hT
  obtain ⟨st1, hrun, hend, hWU, hsm⟩ := X.leaveThrown x (g := F0 m pc ls st) rfl rfl rfl (by rw [C.tb]; exact hout) C.lk
  exact ⟨_, st1, .threw x, hrun, hend, Or.inr ⟨x, E, ce, M, lo, rfl, hq, hW, hS.F rfl, hx, hv, hcl, hWU, hsm.mono hc hs, hS.2.2⟩⟩
end Rows
/-! the search for a handler, its classes linked or not -/
theorem bj_goStep {Q : Handler → Pre} {E : CtlPost} {e : Env} {d : Bool} {acts : List Action} {s : State} {f : JFrame} {a : Addr} {x : ExceptionTableEntry} {t : List ExceptionTableEntry} {c : ClassId} {cell : Cell} {b : Bool} (hx : covers x f.pc = true) (h0 : x.catchType ≠ 0)
    (hl : s.vm.ClassLinks e.platform f.method.cls x.catchType c) (hcell : s.heap[a]? = some cell) (hobj : ∀ k, cell.vm ≠ .statics k) (hk : ∃ k, s.vm.classes[cell.cls]? = some k) (hc : ∃ k, s.vm.classes[c]? = some k) (hb : s.vm.assignable cell.cls c = b) :
    wp (findHandler.go f a (x :: t)) Q E e d acts s ↔ (if b = true then Q (.found x.handlerPc) d acts (s.setVm (s.vm.noted f.method.cls x.catchType (.cls c))) else wp (findHandler.go f a t) Q E e d acts (s.setVm (s.vm.noted f.method.cls x.catchType (.cls c)))) := by
  simp only [covers] at hx
  obtain ⟨ha, ht⟩ := (resolveClass_links e.toSetting hl).op (op := VmOp.resolveClass f.method.cls x.catchType) rfl
  have hal : s.vm.Alike (s.vm.noted f.method.cls x.catchType (.cls c)) := (Vm.Alike.refl s.vm).noted _ _ _
  obtain ⟨k1, hk1⟩ := hk
  obtain ⟨k2, hk2⟩ := hc
  obtain ⟨k1', hk1', -⟩ := hal.2.2 _ _ hk1
  obtain ⟨k2', hk2', -⟩ := hal.2.2 _ _ hk2
  have hb' : (s.vm.noted f.method.cls x.catchType (.cls c)).assignable cell.cls c = b := by rw [hal.assignable]; exact hb
  cases b <;> simp [findHandler.go, hx, h0, ha, ht, hcell, hobj, hk1', hk2', hb', VmOp.dirties, VmOp.acts]
theorem bj_caught {tb : Tables} {e : Env} {s target : State} {g : JFrame} {c : Code} {below : List Frame} {a : Addr} {pc : Nat} {vm' : Vm} (h : At s g.method c below)
    (hfind : ∀ (Q : Handler → Pre) (E : CtlPost) (d : Bool) (acts : List Action), wp (findHandler g a) Q E e d acts ((s.setTop g).pushFrame (.throwing a)) ↔ Q (.found pc) d acts (((s.setTop g).pushFrame (.throwing a)).setVm vm'))
    (hrest : Steps tb e below ((s.setVm vm').setTop { g with pc := pc, stack := [.ref a] }) target) : Steps tb e below ((s.setTop g).pushFrame (.throwing a)) target := by
  obtain ⟨hgo, hw⟩ := h.throwing a
  refine Steps.head hgo hw ?_
  have hstep : ∀ r : List Frame, (stepThrowing e ((s.setTop g).pushFrame (.throwing a)) a (.java g :: r)).Is ((((s.setTop g).pushFrame (.throwing a)).setVm vm').setFrames (.java { g with pc := pc, stack := [.ref a] } :: r)) [] := by
    intro r
    simp only [stepThrowing, searchFrame, vmDo]
    generalize hr : Sem.go _ e false [] ((s.setTop g).pushFrame (.throwing a)) = res
    obtain ⟨as, rfl, ha⟩ := Sem.eq_ok_of hr (a := Handler.found pc) (s' := ((s.setTop g).pushFrame (.throwing a)).setVm vm') (acts' := []) (by simp [hfind _ _ _ _])
    exact ⟨rfl, ha⟩
  rw [stepThread_throwing (frames_entered h.top _), (hstep _).1]
  obtain ⟨g₀, hg⟩ := Option.isSome_iff_exists.mp h.top
  obtain ⟨r, hr⟩ := State.topJava?_eq_some.mp hg
  have hr' : (s.setVm vm').frames = .java g₀ :: r := hr
  rw [State.setTop_of_frames _ hr'] at hrest
  rw [State.pushFrame, State.setTop_of_frames _ hr, State.setFrames_setFrames]
  rw [hr]
  show Steps tb e below (((s.setVm vm').setFrames (.throwing a :: (s.setFrames (.java g :: r)).frames)).setFrames (.java { g with pc := pc, stack := [.ref a] } :: r)) target
  rw [State.setFrames_setFrames]
  exact hrest
/-- what a row of the table does with an exception of class E: it is passed (b = false), or it catches (b = true) -/
def bj_hit (TB : List Cond) (own E : String) (b : Bool) (x : ExceptionTableEntry) (name : String) : Prop := x.catchType ≠ 0 ∧ Cond.classLink own x.catchType name ∈ TB ∧ (if b = true then Cond.castable E name ∈ TB else Cond.not (.castable E name) ∈ TB)
section Rows2
variable {G : bj_G} {Y : bj_Y} {n : Nat} {K : bj_K} {ad : Nat → Nat} {Q : bj_R → bj_M → Prop} {cs sl pc : Nat} {L : List (Option Value)} {st : List Value} {M : bj_M}
theorem bj_catch {E : String} (pre : List (ExceptionTableEntry × String)) (x : ExceptionTableEntry) (nm : String) (suf : List ExceptionTableEntry) (hsplit : tableOf Y.2.2.2.2.2 = pre.map (·.1) ++ x :: suf) (hpre : ∀ z ∈ pre, covers z.1 pc = true ∧ bj_hit G.2.2.2.2 Y.1 E false z.1 z.2) (hx : covers x pc = true) (hh : bj_hit G.2.2.2.2 Y.1 E true x nm)
    (kk : ∀ q : Nat, bj_S G Y n K ad Q cs sl x.handlerPc L [.ref q] M) : bj_X G Y n K ad Q cs sl pc L E M := by
  intro p e s m ar be me c A H lo ls q ce st T C hW hS hl hq hv hcl hT X
  subst hT
  have hpl : e.platform.magicAccessors = ({} : Platform).magicAccessors := by rw [X.admits.platform]
  have hobj : ∀ k, ce.vm ≠ .statics k := fun k h => by rw [hv] at h; cases h
  obtain ⟨k0, hk0, -⟩ := Vm.findClass_spec hcl
  -- one row of the table
  have row : ∀ (b : Bool) (z : ExceptionTableEntry) (name : String), bj_hit G.2.2.2.2 Y.1 E b z name → ∃ cz : ClassId, s.vm.ClassLinks e.platform m.cls z.catchType cz ∧ s.vm.assignable ce.cls cz = b := by
    intro b z name hz
    obtain ⟨cz, hcz, hlk⟩ := Cond.classLink_spec C.ow (C.ts _ hz.2.1) e.platform hpl
    refine ⟨cz, hlk, ?_⟩
    cases b with
    | true =>
      obtain ⟨c3, c4, hc3, hc4, hasg⟩ := Cond.castable_spec (C.ts _ (by simpa using hz.2.2))
      cases hc3.symm.trans hcl
      cases hc4.symm.trans hcz
      exact hasg
    | false =>
      have hno : (Cond.not (.castable E name)).before ar s = true := C.ts _ (by simpa using hz.2.2)
      have hv9 := Cond.holds_not_iff.mp hno
      simp only [Cond.value, hcl, hcz] at hv9
      exact Option.some.inj hv9
  have go : ∀ (l : List (ExceptionTableEntry × String)) (S : State), s.WarmedH S.vm → S.heap[q]? = some ce → (∀ z ∈ l, covers z.1 pc = true ∧ bj_hit G.2.2.2.2 Y.1 E false z.1 z.2) →
      ∃ vm', s.WarmedH vm' ∧ ∀ (Q : Handler → Pre) (E : CtlPost) (d : Bool) (acts : List Action), wp (findHandler.go (F0 m pc ls st) q (l.map (·.1) ++ x :: suf)) Q E e d acts S ↔ Q (.found x.handlerPc) d acts (S.setVm vm') := by
    intro l
    induction l with
    | nil =>
      intro S hWS hcS _
      obtain ⟨cz, hlk, hasg⟩ := row true x nm hh
      obtain ⟨dk, _, _, kt, hd, _, _, _, _, hkt, _, hopen⟩ := hlk.here
      obtain ⟨kt', hkt', -⟩ := hWS.alike.2.2 _ _ hkt
      obtain ⟨k0', hk0', -⟩ := hWS.alike.2.2 _ _ hk0
      exact ⟨_, hWS.noted hd hopen (State.rightAt_cls hlk), fun Q E d acts => by
        rw [List.map_nil, List.nil_append, bj_goStep (b := true) hx hh.1 (hWS.classLinks hlk) hcS hobj ⟨k0', hk0'⟩ ⟨kt', hkt'⟩ (by rw [hWS.alike.assignable]; exact hasg)]
        simp⟩
    | cons z zs ih =>
      intro S hWS hcS hz
      obtain ⟨hcov, hz1⟩ := hz z List.mem_cons_self
      obtain ⟨cz, hlk, hasg⟩ := row false z.1 z.2 hz1
      obtain ⟨dk, _, _, kt, hd, _, _, _, _, hkt, _, hopen⟩ := hlk.here
      obtain ⟨kt', hkt', -⟩ := hWS.alike.2.2 _ _ hkt
      obtain ⟨k0', hk0', -⟩ := hWS.alike.2.2 _ _ hk0
      obtain ⟨vm', hW', hq9⟩ := ih (S.setVm (S.vm.noted m.cls z.1.catchType (.cls cz))) (hWS.noted hd hopen (State.rightAt_cls hlk)) hcS (fun y hy => hz y (List.mem_cons_of_mem _ hy))
      exact ⟨vm', hW', fun Q E d acts => by
        rw [List.map_cons, List.cons_append, bj_goStep (b := false) hcov hz1.1 (hWS.classLinks hlk) hcS hobj ⟨k0', hk0'⟩ ⟨kt', hkt'⟩ (by rw [hWS.alike.assignable]; exact hasg)]
        simpa [State.setVm_twice] using hq9 Q E d acts⟩
  obtain ⟨vm', hW', hfind⟩ := go pre ((T.setTop (F0 m pc ls st)).pushFrame (.throwing q)) X.warmed hq hpre
  obtain ⟨t, a1, b1⟩ := kk q p e s m ar be me c A T.heap lo ls C hW hS hl (T.setVm vm') rfl (X.noted hW')
  refine ⟨t, bj_caught (g := F0 m pc ls st) (vm' := vm') X.here (fun Q E d acts => ?_) a1, b1⟩
  have hm9 : ((T.setTop (F0 m pc ls st)).pushFrame (.throwing q)).vm.method? m = some me := X.method'
  rw [W.findHandler_eq (f := F0 m pc ls st) hm9 X.code, C.tb, hsplit]
  exact hfind Q E d acts
end Rows2
end BT
end
section
/-! the judgement's rows: new cells; here a cell's number is its address (ad is the identity) -/
section BA
variable {G : bj_G} {Y : bj_Y} {n : Nat} {K : bj_K} {Q : bj_R → bj_M → Prop} {cs sl pc : Nat} {L : List (Option Value)} {st : List Value} {M : bj_M}
theorem bj_fresh {G : bj_G} {M : bj_M} {A : Nat → Prop} {H : Heap} (h : bj_W G (fun k => k) M A H) {q : Nat} (hq : H.size ≤ q) : M q = none := by
  cases hM : M q with
  | none => rfl
  | some x =>
    have h1 := (h.1 q x hM).lt
    have h2 : q < H.size := h1
    omega
theorem bj_W.push {G : bj_G} {M : bj_M} {A : Nat → Prop} {H H' : Heap} {x : va_E} (h : bj_W G (fun k => k) M A H) (he : va_at G.2.1 G.2.2.1 (H.size, x) H') (oq : ∀ q : Nat, q < H.size → H'[q]? = H[q]?) (hA : A H.size) : bj_W G (fun k => k) (va_up M H.size (some x)) A H' := by
  refine ⟨fun k y hk => ?_, fun i j _ _ e => e, fun k hk => ?_⟩
  · by_cases e : k = H.size
    · subst e
      rw [va_up_self] at hk
      cases hk
      exact he
    · rw [va_up_ne _ _ e] at hk
      exact (h.1 k y hk).kept (oq k (h.1 k y hk).lt)
  · by_cases e : k = H.size
    · subst e
      exact hA
    · rw [va_up_ne _ _ e] at hk
      exact h.2.2 k hk
theorem bj_S_push {A : Nat → Prop} {H0 H H' : Heap} {lo : List Loc} (h : va_S A H0 H lo) (z : H.size ≤ H'.size) (oq : ∀ q : Nat, q < H.size → H'[q]? = H[q]?) : va_S A H0 H' lo :=
  ⟨Nat.le_trans h.1 z, fun q h1 h2 => (oq q (Nat.lt_of_lt_of_le h1 h.1)).trans (h.2.1 q h1 h2), h.2.2⟩
theorem bj_new {C : String} {T : u_T} {N ci index : Nat} {fs : List Value} {ty0 : Nat → FieldType} (d : decode Y.2.2.1 pc = .ok (.new index, 3)) (hin : ∀ w ∈ u_ws C T N, w ∈ G.2.2.2.2) (hty : ∀ k, k < N → parseFieldDescriptor (T k).2.2.1 = some (ty0 k)) (hc : G.2.2.1[ci]? = some (C, T, N)) (w1 : Cond.classLink Y.1 index C ∈ G.2.2.2.2) (w2 : Cond.instantiable C N ∈ G.2.2.2.2) (w3 : Cond.initialized C ∈ G.2.2.2.2)
    (hfs : ∀ j, j < N → defaultValue (ty0 j) = vp_V fs j) (h1 : cs + 1 ≤ K.1 + K.2.2.1) (h2 : sl + N ≤ K.2.1 + K.2.2.2)
    (kk : ∀ q : Nat, M q = none → bj_S G Y n K (fun k => k) Q (cs + 1) (sl + N) (pc + 3) L (.ref q :: st) (va_up M q (some (.inr (ci, fs))))) : bj_S G Y n K (fun k => k) Q cs sl pc L st M := by
  intro p e s m ar be me c A H lo ls Cx hW hS hl
  have hKn := Cx.k.1 ci _ hc
  refine W.newcK Cx.ex Cx.by Cx.ow (Cx.ts _ w1) (Cx.ts _ w2) (Cx.ts _ w3) rfl d h1 h2 hKn.2.1 rfl fun H1 kC hkC e1 z1 o1 => ?_
  exact kk H.size (bj_fresh hW (Nat.le_refl _)) p e s m ar be me c A H1 lo ls Cx (hW.push ⟨_, hc, (u_born ty0 Cx.ts hin hKn hkC e1 hty).to hfs⟩ o1 (Cx.up _ hS.1)) (bj_S_push hS (by omega) o1) hl
/-- an array class is found by its name -/
theorem bj_acls {U : State} {tys : List (ClassId × FieldType)} {D : va_G} {cl : List vw_C} (h : va_K D cl tys U) {t : Nat} {cA c' : ClassId} {ty : FieldType} (ht : tys[t]? = some (cA, ty)) (hf : U.vm.findClass ("[" ++ ty.toString) = some c') : c' = cA := by
  have h2 := (h.2 t _ ht).2
  cases ty with
  | object C =>
    obtain ⟨kA, comp, -, -, -, h4⟩ := h2
    exact Option.some.inj (hf.symm.trans h4)
  | _ => exact Option.some.inj (hf.symm.trans h2)
theorem bj_newa {atype : ArrayType} {x : Int32} {N : Nat} {cA : ClassId} {a0 : vp_A} (d : decode Y.2.2.1 pc = .ok (.newarray atype, 2)) (t : Nat) (ht : G.2.2.2.1[t]? = some (cA, newarray.typeOf atype)) (w : Cond.arrayClass (newarray.typeOf atype) ∈ G.2.2.2.2) (ha : ∀ cA : ClassId, vp_cell cA a0 = arrV cA N (fun _ => defaultValue (newarray.typeOf atype))) (hx : x = nI N) (hN : N < 2 ^ 31) (hb : N * componentBytes (newarray.typeOf atype) ≤ 536870912) (h1 : cs + 1 ≤ K.1 + K.2.2.1) (h2 : sl + N ≤ K.2.1 + K.2.2.2)
    (kk : ∀ q : Nat, M q = none → bj_S G Y n K (fun k => k) Q (cs + 1) (sl + N) (pc + 2) L (.ref q :: st) (va_up M q (some (.inl (cA, a0))))) : bj_S G Y n K (fun k => k) Q cs sl pc L (.int x :: st) M := by
  subst hx
  intro p e s m ar be me c A H lo ls Cx hW hS hl
  refine va_newaK Cx.ex Cx.by (Cx.ts _ w) rfl d rfl (nI_pos hN) (nI_clamp hN) hb h1 h2 rfl fun H1 c' e1 z1 o1 hAr hNm => ?_
  have ec : c' = cA := bj_acls Cx.k ht hNm
  subst ec
  refine kk H.size (bj_fresh hW (Nat.le_refl _)) p e s m ar be me c A H1 lo ls Cx (hW.push ?_ o1 (Cx.up _ hS.1)) (bj_S_push hS (by omega) o1) hl
  show H1[H.size]? = some (vp_cell _ _)
  rw [ha]
  exact e1
theorem bj_newq {C : String} {index : Nat} {x : Int32} {N : Nat} {cA : ClassId} (d : decode Y.2.2.1 pc = .ok (.anewarray index, 3)) (t : Nat) (ht : G.2.2.2.1[t]? = some (cA, .object C)) (w1 : Cond.classLink Y.1 index C ∈ G.2.2.2.2) (w2 : Cond.arrayOver (.object C) ∈ G.2.2.2.2) (hx : x = nI N) (hN : N < 2 ^ 31) (hb : N * 4 ≤ 536870912) (h1 : cs + 1 ≤ K.1 + K.2.2.1) (h2 : sl + N ≤ K.2.1 + K.2.2.2)
    (kk : ∀ q : Nat, M q = none → bj_S G Y n K (fun k => k) Q (cs + 1) (sl + N) (pc + 3) L (.ref q :: st) (va_up M q (some (.inl (cA, N, .inr (.inr (.inr (.inr (fun _ => none))))))))) : bj_S G Y n K (fun k => k) Q cs sl pc L (.int x :: st) M := by
  subst hx
  intro p e s m ar be me c A H lo ls Cx hW hS hl
  have e9 : (nI N).toNatClampNeg = N := nI_clamp hN
  refine W.anew Cx.ex Cx.by Cx.ow (Cx.ts _ w1) (Cx.ts _ w2) rfl d rfl (nI_pos hN) (by rw [e9]; exact hb) h1 (by rw [e9]; exact h2) fun c' kA comp f1 f2 f3 f4 => ?_
  have ec : c' = cA := bj_acls Cx.k ht f1
  subst ec
  rw [e9]
  generalize hH1 : H.push ({ cls := c', slots := Array.replicate N .null, vm := .none } : Cell) = H1
  have z1 : H1.size = H.size + 1 := by rw [← hH1, Array.size_push]
  have e1 : H1[H.size]? = some (arrV c' N (fun _ => .null)) := by rw [← hH1, Array.getElem?_push_size, ← arrV_new]
  have o1 : ∀ q : Nat, q < H.size → H1[q]? = H[q]? := fun q hq => by rw [← hH1, Array.getElem?_push, if_neg (Nat.ne_of_lt hq)]
  refine kk H.size (bj_fresh hW (Nat.le_refl _)) p e s m ar be me c A H1 lo ls Cx (hW.push ?_ o1 (Cx.up _ hS.1)) (bj_S_push hS (by omega) o1) hl
  show H1[H.size]? = some (vp_cell _ _)
  rw [vp_cell_q]
  exact e1
end BA
end
section
/-! cells by what they show: an array's first places as a function; after a write a new picture that differs there alone -/
section BV
def bv_I (cI : ClassId) (M : bj_M) (k N : Nat) (g : Nat → Int32) : Prop := ∃ f : Nat → Int32, M k = some (.inl (cI, N, .inl f)) ∧ ∀ j, j < N → f j = g j
theorem bv_I.to {cI : ClassId} {M : bj_M} {k N : Nat} {g g' : Nat → Int32} (h : bv_I cI M k N g) (e : ∀ j, j < N → g j = g' j) : bv_I cI M k N g' := by
  obtain ⟨f, h1, h2⟩ := h
  exact ⟨f, h1, fun j hj => (h2 j hj).trans (e j hj)⟩
theorem bv_I.in {cI : ClassId} {M M' : bj_M} {k N : Nat} {g : Nat → Int32} (h : bv_I cI M k N g) (e : M' k = M k) : bv_I cI M' k N g := by
  obtain ⟨f, h1, h2⟩ := h
  exact ⟨f, e.trans h1, h2⟩
theorem bv_I.ne {cI : ClassId} {M : bj_M} {k N : Nat} {g : Nat → Int32} (h : bv_I cI M k N g) : M k ≠ none := by
  obtain ⟨f, h1, -⟩ := h
  exact bj_ne h1
variable {G : bj_G} {Y : bj_Y} {n : Nat} {K : bj_K} {ad : Nat → Nat} {Q : bj_R → bj_M → Prop} {cs sl pc : Nat} {L : List (Option Value)} {st : List Value} {M : bj_M}
theorem bv_iald {k j N : Nat} {cA : ClassId} {g : Nat → Int32} {v : Int32} (d : decode Y.2.2.1 pc = .ok (.iaload, 1)) (t : Nat) (ht : G.2.2.2.1[t]? = some (cA, .int)) (h : bv_I cA M k N g) (hj : j < N) (hN : N < 2 ^ 31) (hv : g j = v)
    (kk : bj_S G Y n K ad Q cs sl (pc + 1) L (.int v :: st) M) : bj_S G Y n K ad Q cs sl pc L (.int (nI j) :: .ref (ad k) :: st) M := by
  obtain ⟨f, h1, h2⟩ := h
  refine bj_iald d t ht h1 rfl hj hN ?_
  rw [h2 j hj, hv]
  exact kk
theorem bv_zald {k j N : Nat} {cA : ClassId} {g : Nat → Int32} {v : Int32} (d : decode Y.2.2.1 pc = .ok (.baload, 1)) (t : Nat) (ht : G.2.2.2.1[t]? = some (cA, .boolean)) (h : bv_I cA M k N g) (hj : j < N) (hN : N < 2 ^ 31) (hv : g j = v)
    (kk : bj_S G Y n K ad Q cs sl (pc + 1) L (.int v :: st) M) : bj_S G Y n K ad Q cs sl pc L (.int (nI j) :: .ref (ad k) :: st) M := by
  obtain ⟨f, h1, h2⟩ := h
  refine bj_zald d t ht h1 rfl hj hN ?_
  rw [h2 j hj, hv]
  exact kk
theorem bv_up_eq {N j : Nat} {f g : Nat → Int32} (y : Int32) (h : ∀ i, i < N → f i = g i) : ∀ i, i < N → va_up f j y i = va_up g j y i := by
  intro i hi
  unfold va_up
  split
  · rfl
  · exact h i hi
theorem bv_iast {k j N : Nat} {cA : ClassId} {g : Nat → Int32} {y : Int32} (d : decode Y.2.2.1 pc = .ok (.iastore, 1)) (t : Nat) (ht : G.2.2.2.1[t]? = some (cA, .int)) (h : bv_I cA M k N g) (hj : j < N) (hN : N < 2 ^ 31)
    (kk : ∀ M' : bj_M, bv_I cA M' k N (va_up g j y) → (∀ q, q ≠ k → M' q = M q) → bj_S G Y n K ad Q cs sl (pc + 1) L st M') : bj_S G Y n K ad Q cs sl pc L (.int y :: .int (nI j) :: .ref (ad k) :: st) M := by
  obtain ⟨f, h1, h2⟩ := h
  exact bj_iast d t ht h1 rfl hj hN (kk _ ⟨_, va_up_self _ _ _, bv_up_eq y h2⟩ (fun q hq => va_up_ne _ _ hq))
theorem bv_zast {k j N : Nat} {cA : ClassId} {g : Nat → Int32} {y : Int32} (d : decode Y.2.2.1 pc = .ok (.bastore, 1)) (t : Nat) (ht : G.2.2.2.1[t]? = some (cA, .boolean)) (h : bv_I cA M k N g) (hj : j < N) (hN : N < 2 ^ 31) (hy : narrow .boolean (.int y) = .int y)
    (kk : ∀ M' : bj_M, bv_I cA M' k N (va_up g j y) → (∀ q, q ≠ k → M' q = M q) → bj_S G Y n K ad Q cs sl (pc + 1) L st M') : bj_S G Y n K ad Q cs sl pc L (.int y :: .int (nI j) :: .ref (ad k) :: st) M := by
  obtain ⟨f, h1, h2⟩ := h
  exact bj_zast d t ht h1 rfl hj hN hy (kk _ ⟨_, va_up_self _ _ _, bv_up_eq y h2⟩ (fun q hq => va_up_ne _ _ hq))
end BV
end
section
/-! strongest ways: what both programs compute, by one mathematical value -/
section MG
def mg_st (dr : Nat → Nat → Nat) (n s : Nat) (x y : Nat) : Prop := x < n ∧ y < n ∧ s ≤ dr x y
theorem mg_st_le {dr : Nat → Nat → Nat} {n s s' a b : Nat} (h : Relation.TransGen (mg_st dr n s) a b) (hs : s' ≤ s) : Relation.TransGen (mg_st dr n s') a b := by
  induction h with
  | single h => exact .single ⟨h.1, h.2.1, Nat.le_trans hs h.2.2⟩
  | tail _ h ih => exact .tail ih ⟨h.1, h.2.1, Nat.le_trans hs h.2.2⟩
theorem mg_st_in {dr : Nat → Nat → Nat} {n s a b : Nat} (h : Relation.TransGen (mg_st dr n s) a b) : a < n ∧ b < n := by
  induction h with
  | single h => exact ⟨h.1, h.2.1⟩
  | tail _ h ih => exact ⟨ih.1, h.2.1⟩
/-- reached: each value that isn't zero is that of some way -/
def mg_ac (dr F : Nat → Nat → Nat) (n : Nat) : Prop := ∀ a b, a < n → b < n → 0 < F a b → Relation.TransGen (mg_st dr n (F a b)) a b
/-- closed over the first k: no detour by one of them is stronger -/
def mg_cl (dr F : Nat → Nat → Nat) (n k : Nat) : Prop := (∀ a b, a < n → b < n → dr a b ≤ F a b) ∧ ∀ a m b, a < n → m < k → b < n → min (F a m) (F m b) ≤ F a b
theorem mg_cl_le {dr F : Nat → Nat → Nat} {n s a b : Nat} (h : mg_cl dr F n n) (hp : Relation.TransGen (mg_st dr n s) a b) : s ≤ F a b := by
  induction hp with
  | single g => exact Nat.le_trans g.2.2 (h.1 _ _ g.1 g.2.1)
  | tail p g ih =>
    have h1 := h.2 _ _ _ (mg_st_in p).1 g.1 g.2.1
    have h2 := h.1 _ _ g.1 g.2.1
    have h3 := g.2.2
    omega
/-- one stage of the class: by the detour over k -/
def mg_fw (F : Nat → Nat → Nat) (k : Nat) : Nat → Nat → Nat := fun a b => max (F a b) (min (F a k) (F k b))
theorem mg_fw_cl {dr F : Nat → Nat → Nat} {n k : Nat} (hk : k < n) (h : mg_cl dr F n k) : mg_cl dr (mg_fw F k) n (k + 1) := by
  refine ⟨fun a b ha hb => Nat.le_trans (h.1 a b ha hb) (Nat.le_max_left _ _), fun a m b ha hm hb => ?_⟩
  unfold mg_fw
  rcases Nat.lt_or_ge m k with hmk | hmk
  · have h1 := h.2 a m b ha hmk hb
    have h2 := h.2 k m b hk hmk hb
    have h3 := h.2 a m k ha hmk hk
    omega
  · have e : m = k := by omega
    subst e
    omega
theorem mg_fw_ac {dr F : Nat → Nat → Nat} {n k : Nat} (hk : k < n) (h : mg_ac dr F n) : mg_ac dr (mg_fw F k) n := by
  intro a b ha hb hp
  unfold mg_fw at hp ⊢
  rcases Nat.lt_or_ge (F a b) (min (F a k) (F k b)) with h1 | h1
  · rw [Nat.max_eq_right (Nat.le_of_lt h1)]
    exact Relation.TransGen.trans (mg_st_le (h a k ha hk (by omega)) (Nat.min_le_left _ _)) (mg_st_le (h k b hk hb (by omega)) (Nat.min_le_right _ _))
  · rw [Nat.max_eq_left h1] at hp ⊢
    exact h a b ha hb hp
theorem mg_fw_0 {dr : Nat → Nat → Nat} {n : Nat} : mg_cl dr dr n 0 ∧ mg_ac dr dr n :=
  ⟨⟨fun _ _ _ _ => Nat.le_refl _, fun _ _ _ _ h _ => absurd h (Nat.not_lt_zero _)⟩, fun a b ha hb _ => .single ⟨ha, hb, Nat.le_refl _⟩⟩
/-- all stages -/
def mg_fws (dr : Nat → Nat → Nat) : Nat → Nat → Nat → Nat
  | 0 => dr
  | k + 1 => mg_fw (mg_fws dr k) k
theorem mg_fws_ok (dr : Nat → Nat → Nat) {n : Nat} : ∀ k, k ≤ n → mg_cl dr (mg_fws dr k) n k ∧ mg_ac dr (mg_fws dr k) n
  | 0, _ => mg_fw_0
  | k + 1, h => ⟨mg_fw_cl (by omega) (mg_fws_ok dr k (by omega)).1, mg_fw_ac (by omega) (mg_fws_ok dr k (by omega)).2⟩
/-- the reference's end: closed off the diagonal by one step more -/
def mg_fx (dr F : Nat → Nat → Nat) (n : Nat) : Prop := (∀ a b, a < n → b < n → dr a b ≤ F a b) ∧ ∀ a b c, a < n → b < n → c < n → a ≠ c → min (F a b) (dr b c) ≤ F a c
theorem mg_fx_le {dr F : Nat → Nat → Nat} {n s a b : Nat} (h : mg_fx dr F n) (hp : Relation.TransGen (mg_st dr n s) a b) : a ≠ b → s ≤ F a b := by
  induction hp with
  | single g => exact fun _ => Nat.le_trans g.2.2 (h.1 _ _ g.1 g.2.1)
  | @tail b c p g ih =>
    intro hc
    by_cases e : a = b
    · subst e
      exact Nat.le_trans g.2.2 (h.1 _ _ g.1 g.2.1)
    · have h1 := h.2 a b c (mg_st_in p).1 g.1 g.2.1 hc
      have h2 := ih e
      have h3 := g.2.2
      omega
/-- off the diagonal both are the same -/
theorem mg_same {dr F E : Nat → Nat → Nat} {n a b : Nat} (hF : mg_cl dr F n n) (hFa : mg_ac dr F n) (hE : mg_fx dr E n) (hEa : ∀ a b, a < n → b < n → a ≠ b → 0 < E a b → Relation.TransGen (mg_st dr n (E a b)) a b) (ha : a < n) (hb : b < n) (hab : a ≠ b) : F a b = E a b := by
  apply Nat.le_antisymm
  · rcases Nat.eq_zero_or_pos (F a b) with h | h
    · omega
    · exact mg_fx_le hE (hFa a b ha hb h) hab
  · rcases Nat.eq_zero_or_pos (E a b) with h | h
    · omega
    · exact mg_cl_le hF (hEa a b ha hb hab h)
/-- the strongest way's strength -/
def mg_F (dr : Nat → Nat → Nat) (n : Nat) : Nat → Nat → Nat := mg_fws dr n
theorem mg_F_cl (dr : Nat → Nat → Nat) (n : Nat) : mg_cl dr (mg_F dr n) n n := (mg_fws_ok dr n (Nat.le_refl n)).1
theorem mg_F_ac (dr : Nat → Nat → Nat) (n : Nat) : mg_ac dr (mg_F dr n) n := (mg_fws_ok dr n (Nat.le_refl n)).2
theorem mg_F_gt {dr : Nat → Nat → Nat} {n s a b : Nat} (ha : a < n) (hb : b < n) : s < mg_F dr n a b ↔ Relation.TransGen (mg_st dr n (s + 1)) a b :=
  ⟨fun h => mg_st_le (mg_F_ac dr n a b ha hb (by omega)) h, fun h => mg_cl_le (mg_F_cl dr n) h⟩
theorem mg_F_le {dr : Nat → Nat → Nat} {n B : Nat} (h : ∀ a b, a < n → b < n → dr a b ≤ B) : ∀ a b, a < n → b < n → mg_F dr n a b ≤ B := by
  intro a b ha hb
  rcases Nat.eq_zero_or_pos (mg_F dr n a b) with h0 | h0
  · omega
  · have hp := mg_F_ac dr n a b ha hb h0
    cases hp with
    | single g => exact Nat.le_trans g.2.2 (h _ _ g.1 g.2.1)
    | tail _ g => exact Nat.le_trans g.2.2 (h _ _ g.1 g.2.1)
end MG
end
section
/-! how far a candidate is from b by steps of a graph r (r c y: a step from c to y); what stands after as many rounds as there are candidates -/
section MN
def mn_cnt (p : Nat → Bool) : Nat → Nat
  | 0 => 0
  | n + 1 => mn_cnt p n + (if p n = true then 1 else 0)
theorem mn_cnt_le (p : Nat → Bool) : ∀ n, mn_cnt p n ≤ n
  | 0 => Nat.le_refl 0
  | n + 1 => by
    have h := mn_cnt_le p n
    unfold mn_cnt
    split <;> omega
theorem mn_cnt_mono {p q : Nat → Bool} : ∀ n, (∀ i, i < n → p i = true → q i = true) → mn_cnt p n ≤ mn_cnt q n
  | 0, _ => Nat.le_refl 0
  | n + 1, h => by
    have h1 := mn_cnt_mono n (fun i hi => h i (by omega))
    have h2 := h n (by omega)
    unfold mn_cnt
    by_cases hp : p n = true
    · rw [if_pos hp, if_pos (h2 hp)]
      omega
    · rw [if_neg hp]
      split <;> omega
theorem mn_cnt_lt {p q : Nat → Bool} {i : Nat} : ∀ n, (∀ i, i < n → p i = true → q i = true) → i < n → p i = false → q i = true → mn_cnt p n < mn_cnt q n
  | 0, _, hi, _, _ => absurd hi (Nat.not_lt_zero _)
  | n + 1, h, hi, hp, hq => by
    have h2 := h n (by omega)
    unfold mn_cnt
    by_cases e : i = n
    · subst e
      have h1 := mn_cnt_mono i (fun j hj => h j (by omega))
      rw [hp, hq]
      simp
      omega
    · have h1 := mn_cnt_lt n (fun j hj => h j (by omega)) (by omega) hp hq
      by_cases hpn : p n = true
      · rw [if_pos hpn, if_pos (h2 hpn)]
        omega
      · rw [if_neg hpn]
        split <;> omega
theorem mn_cnt_pos {p : Nat → Bool} {i n : Nat} (hi : i < n) (hp : p i = true) : 1 ≤ mn_cnt p n := by
  have h := mn_cnt_lt (p := fun _ => false) (q := p) n (fun _ _ h => by cases h) hi rfl hp
  omega
/-- within k steps of b -/
def mn_nr (r : Nat → Nat → Bool) (n b : Nat) : Nat → Nat → Bool
  | 0, c => c == b
  | k + 1, c => mn_nr r n b k c || (List.range n).any (fun y => r c y && mn_nr r n b k y)
variable {r : Nat → Nat → Bool} {n b : Nat}
theorem mn_nr_s {k c : Nat} : mn_nr r n b (k + 1) c = true ↔ mn_nr r n b k c = true ∨ ∃ y, y < n ∧ r c y = true ∧ mn_nr r n b k y = true := by
  show (mn_nr r n b k c || (List.range n).any (fun y => r c y && mn_nr r n b k y)) = true ↔ _
  rw [Bool.or_eq_true, List.any_eq_true]
  constructor
  · rintro (h | ⟨y, hy, h⟩)
    · exact Or.inl h
    · rw [Bool.and_eq_true] at h
      exact Or.inr ⟨y, List.mem_range.mp hy, h.1, h.2⟩
  · rintro (h | ⟨y, hy, h1, h2⟩)
    · exact Or.inl h
    · exact Or.inr ⟨y, List.mem_range.mpr hy, by rw [h1, h2]; rfl⟩
theorem mn_nr_0 {c : Nat} : mn_nr r n b 0 c = true ↔ c = b := by
  show (c == b) = true ↔ _
  exact beq_iff_eq
theorem mn_nr_le {j k c : Nat} (h : j ≤ k) (hc : mn_nr r n b j c = true) : mn_nr r n b k c = true := by
  induction k with
  | zero => have e : j = 0 := by omega
            subst e; exact hc
  | succ k ih =>
    rcases Nat.lt_or_ge j (k + 1) with h1 | h1
    · exact mn_nr_s.mpr (Or.inl (ih (by omega)))
    · have e : j = k + 1 := by omega
      subst e; exact hc
/-- where a round adds none, none comes later -/
theorem mn_nr_fix {k : Nat} (h : ∀ c, c < n → mn_nr r n b (k + 1) c = true → mn_nr r n b k c = true) : ∀ j c, c < n → mn_nr r n b (k + j) c = true → mn_nr r n b k c = true := by
  intro j
  induction j with
  | zero => exact fun c _ hc => hc
  | succ j ih =>
    intro c hc h1
    rcases mn_nr_s.mp (show mn_nr r n b (k + j + 1) c = true from h1) with h2 | ⟨y, hy, h2, h3⟩
    · exact ih c hc h2
    · exact h c hc (mn_nr_s.mpr (Or.inr ⟨y, hy, h2, ih y hy h3⟩))
theorem mn_grow (m : Nat) (h : ∀ k, k < m → ∃ c, c < n ∧ mn_nr r n b (k + 1) c = true ∧ mn_nr r n b k c = false) : mn_cnt (mn_nr r n b 0) n + m ≤ mn_cnt (mn_nr r n b m) n := by
  induction m with
  | zero => exact Nat.le_refl _
  | succ m ih =>
    have h1 := ih (fun k hk => h k (by omega))
    obtain ⟨c, hc, h2, h3⟩ := h m (by omega)
    have h4 := mn_cnt_lt (p := mn_nr r n b m) (q := mn_nr r n b (m + 1)) n (fun i _ hi => mn_nr_le (by omega) hi) hc h3 h2
    omega
/-- n - 1 rounds reach all -/
theorem mn_all (hb : b < n) {j c : Nat} (hc : c < n) (h : mn_nr r n b j c = true) : mn_nr r n b (n - 1) c = true := by
  by_cases hx : ∃ k, k < n ∧ ∀ c, c < n → mn_nr r n b (k + 1) c = true → mn_nr r n b k c = true
  · obtain ⟨k, hk, hf⟩ := hx
    exact mn_nr_le (show k ≤ n - 1 by omega) (by
      rcases Nat.lt_or_ge j k with h1 | h1
      · exact mn_nr_le (by omega) h
      · obtain ⟨d, rfl⟩ := Nat.exists_eq_add_of_le h1
        exact mn_nr_fix hf d c hc h)
  · exfalso
    have h1 := mn_grow (r := r) (n := n) (b := b) n (fun k hk => by
      refine Classical.byContradiction fun hn => hx ⟨k, hk, fun c hc h2 => ?_⟩
      cases h3 : mn_nr r n b k c with
      | true => rfl
      | false => exact absurd ⟨c, hc, h2, h3⟩ hn)
    have h2 := mn_cnt_le (mn_nr r n b n) n
    have h3 := mn_cnt_pos (p := mn_nr r n b 0) hb (mn_nr_0.mpr rfl)
    omega
/-- a number of steps for each: the least, or top if there is none -/
def mn_ds (r : Nat → Nat → Bool) (n b top : Nat) (S : Nat → Nat) : Prop := ∀ c, c < n → (S c = top ∧ ∀ k, mn_nr r n b k c = false) ∨ (S c < n ∧ mn_nr r n b (S c) c = true ∧ ∀ k, k < S c → mn_nr r n b k c = false)
theorem mn_ds_eq {S : Nat → Nat} {top k c : Nat} (h : mn_ds r n b top S) (hc : c < n) (hk : mn_nr r n b k c = true) (hl : ∀ j, j < k → mn_nr r n b j c = false) : S c = k := by
  rcases h c hc with ⟨-, h2⟩ | ⟨-, h2, h3⟩
  · rw [h2 k] at hk
    cases hk
  · rcases Nat.lt_trichotomy (S c) k with h4 | h4 | h4
    · rw [hl _ h4] at h2
      cases h2
    · exact h4
    · rw [h3 _ h4] at hk
      cases hk
theorem mn_ds_same {S S' : Nat → Nat} {top top' c : Nat} (h : mn_ds r n b top S) (h' : mn_ds r n b top' S') (hc : c < n) : S c = S' c ∨ (S c = top ∧ S' c = top') := by
  rcases h c hc with ⟨h1, h2⟩ | ⟨-, h2, h3⟩
  · rcases h' c hc with ⟨h4, -⟩ | ⟨-, h4, -⟩
    · exact Or.inr ⟨h1, h4⟩
    · rw [h2] at h4
      cases h4
  · exact Or.inl (mn_ds_eq h' hc h2 h3).symm
/-- from one that isn't b a step leads nearer -/
theorem mn_step {S : Nat → Nat} {top c : Nat} (h : mn_ds r n b top S) (ht : n ≤ top) (hc : c < n) (hf : S c < n) (hne : c ≠ b) : ∃ y, y < n ∧ r c y = true ∧ S y + 1 = S c := by
  rcases h c hc with ⟨h1, -⟩ | ⟨h1, h2, h3⟩
  · omega
  · cases hS : S c with
    | zero =>
      rw [hS] at h2
      exact absurd (mn_nr_0.mp h2) hne
    | succ k =>
      rw [hS] at h2
      have h4 := h3 k (by omega)
      rcases mn_nr_s.mp h2 with h5 | ⟨y, hy, h5, h6⟩
      · rw [h4] at h5
        cases h5
      · refine ⟨y, hy, h5, ?_⟩
        rw [mn_ds_eq h hy h6 (fun j hj => ?_)]
        cases h7 : mn_nr r n b j y with
        | false => rfl
        | true =>
          have h8 : mn_nr r n b (j + 1) c = true := mn_nr_s.mpr (Or.inr ⟨y, hy, h5, h7⟩)
          rw [h3 (j + 1) (by omega)] at h8
          cases h8
end MN
end
section
/-! pairs in their order; which are locked; who leads to whom; the line that comes of it -/
section ML
/-- the keys of a pair: its strength, who is against it, the drawn places of its upper and its lower -/
def ml_bf (d q pu pl : Nat → Nat) (x y : Nat) : Prop := d y < d x ∨ (d x = d y ∧ (q x < q y ∨ (q x = q y ∧ (pu x < pu y ∨ (pu x = pu y ∧ pl x < pl y)))))
theorem ml_bf_tr {d q pu pl : Nat → Nat} {x y z : Nat} (h1 : ml_bf d q pu pl x y) (h2 : ml_bf d q pu pl y z) : ml_bf d q pu pl x z := by
  unfold ml_bf at h1 h2 ⊢
  omega
theorem ml_bf_ir {d q pu pl : Nat → Nat} {x : Nat} : ¬ ml_bf d q pu pl x x := by
  unfold ml_bf
  omega
theorem ml_bf_to {d q pu pl : Nat → Nat} {x y : Nat} : ml_bf d q pu pl x y ∨ (d x = d y ∧ q x = q y ∧ pu x = pu y ∧ pl x = pl y) ∨ ml_bf d q pu pl y x := by
  unfold ml_bf
  omega
/-- one pair (a, b) comes: who leads to whom then -/
def ml_ld (ld : Nat → Nat → Bool) (a b : Nat) : Nat → Nat → Bool := fun x y => ld x y || ((x == a || ld x a) && (y == b || ld b y))
def ml_lk (lk : Nat → Nat → Bool) (a b : Nat) : Nat → Nat → Bool := fun x y => lk x y || (x == a && y == b)
/-- what stands after the first i of the pairs (u j, v j): locked, leads -/
def ml_run (u v : Nat → Nat) : Nat → (Nat → Nat → Bool) × (Nat → Nat → Bool)
  | 0 => (fun _ _ => false, fun _ _ => false)
  | i + 1 => if (ml_run u v i).2 (v i) (u i) = true then ml_run u v i else (ml_lk (ml_run u v i).1 (u i) (v i), ml_ld (ml_run u v i).2 (u i) (v i))
/-- no ring: leading is a strict order -/
def ml_ord (ld : Nat → Nat → Bool) : Prop := (∀ x, ld x x = false) ∧ ∀ x y z, ld x y = true → ld y z = true → ld x z = true
theorem ml_ld_ord {ld : Nat → Nat → Bool} {a b : Nat} (h : ml_ord ld) (hab : a ≠ b) (hn : ld b a = false) : ml_ord (ml_ld ld a b) := by
  obtain ⟨ir, tr⟩ := h
  have key : ∀ x y, ml_ld ld a b x y = true ↔ ld x y = true ∨ ((x = a ∨ ld x a = true) ∧ (y = b ∨ ld b y = true)) := by
    intro x y
    simp [ml_ld]
  refine ⟨fun x => ?_, fun x y z h1 h2 => ?_⟩
  · cases hx : ml_ld ld a b x x with
    | false => rfl
    | true =>
      exfalso
      rcases (key x x).mp hx with h | ⟨h1 | h1, h2 | h2⟩
      · rw [ir] at h; cases h
      · exact hab (h1.symm.trans h2)
      · rw [h1, hn] at h2; cases h2
      · rw [h2, hn] at h1; cases h1
      · have := tr _ _ _ h2 h1
        rw [hn] at this; cases this
  · rw [key] at h1 h2 ⊢
    rcases h1 with h1 | ⟨h1, h1'⟩
    · rcases h2 with h2 | ⟨h2, h2'⟩
      · exact Or.inl (tr _ _ _ h1 h2)
      · refine Or.inr ⟨Or.inr ?_, h2'⟩
        rcases h2 with h2 | h2
        · rw [← h2]; exact h1
        · exact tr _ _ _ h1 h2
    · rcases h2 with h2 | ⟨h2, h2'⟩
      · refine Or.inr ⟨h1, Or.inr ?_⟩
        rcases h1' with h3 | h3
        · rw [← h3]; exact h2
        · exact tr _ _ _ h3 h2
      · exact Or.inr ⟨h1, h2'⟩
theorem ml_run_ok {u v : Nat → Nat} : ∀ i, (∀ j, j < i → u j ≠ v j) → ml_ord (ml_run u v i).2 ∧ ∀ x y, (ml_run u v i).1 x y = true → (ml_run u v i).2 x y = true
  | 0, _ => ⟨⟨fun _ => rfl, fun _ _ _ h _ => by cases h⟩, fun _ _ h => by cases h⟩
  | i + 1, h => by
    obtain ⟨h1, h2⟩ := ml_run_ok i (fun j hj => h j (by omega))
    unfold ml_run
    by_cases hl : (ml_run u v i).2 (v i) (u i) = true
    · rw [if_pos hl]
      exact ⟨h1, h2⟩
    · rw [if_neg hl]
      refine ⟨ml_ld_ord h1 (h i (by omega)) (by simpa using hl), fun x y hxy => ?_⟩
      show ml_ld (ml_run u v i).2 (u i) (v i) x y = true
      have hxy' : ml_lk (ml_run u v i).1 (u i) (v i) x y = true := hxy
      unfold ml_lk at hxy'
      unfold ml_ld
      rw [Bool.or_eq_true, Bool.and_eq_true] at hxy'
      rcases hxy' with h3 | ⟨h3, h4⟩
      · rw [h2 x y h3]
        rfl
      · rw [h3, h4]
        simp
/-- in a set that isn't empty one is led to by none of it -/
theorem ml_first {ld : Nat → Nat → Bool} (h : ml_ord ld) {n : Nat} {S : Nat → Prop} (hn : ∀ x, S x → x < n) (hs : ∃ x, S x) : ∃ x, S x ∧ ∀ y, S y → ld y x = false := by
  obtain ⟨ir, tr⟩ := h
  obtain ⟨x0, hx0⟩ := hs
  obtain ⟨k, ⟨x, hx, hk⟩, hmin⟩ := pk_least (fun k => ∃ x, S x ∧ mn_cnt (fun y => ld y x) n = k) ⟨_, x0, hx0, rfl⟩
  refine ⟨x, hx, fun y hy => ?_⟩
  cases hl : ld y x with
  | false => rfl
  | true =>
    exfalso
    have h1 := mn_cnt_lt (p := fun z => ld z y) (q := fun z => ld z x) n (fun z _ hz => tr z y x hz hl) (hn y hy) (ir y) hl
    exact hmin _ (by rw [← hk]; exact h1) ⟨y, hy, rfl⟩
end ML
end
section
/-! the least set whose members beat all outside it -/
section MT
/-- whom a member does not beat (r) is a member -/
def mt_cl (r : Nat → Nat → Bool) (n : Nat) (T : Nat → Bool) : Prop := ∀ a b, a < n → b < n → T a = true → r a b = true → T b = true
theorem mt_eq {r : Nat → Nat → Bool} {n : Nat} {T S : Nat → Bool} (hr : ∀ a b, a < n → b < n → r a b = false → r b a = true) (hT : mt_cl r n T) (hS : mt_cl r n S) (hc : mn_cnt T n = mn_cnt S n) : ∀ x, x < n → T x = S x := by
  have key : ∀ (T S : Nat → Bool), mt_cl r n T → mt_cl r n S → mn_cnt T n = mn_cnt S n → ∀ x, x < n → T x = true → S x = true := by
    intro T S hT hS hc x hx h1
    cases h2 : S x with
    | true => rfl
    | false =>
      exfalso
      have h3 : ∀ b, b < n → S b = true → T b = true := by
        intro b hb h4
        cases h5 : r x b with
        | true => exact hT x b hx hb h1 h5
        | false =>
          have h6 := hS b x hb hx h4 (hr x b hx hb h5)
          rw [h2] at h6
          cases h6
      have h7 := mn_cnt_lt (p := S) (q := T) n h3 hx h2 h1
      omega
  intro x hx
  cases h1 : T x with
  | true => exact (key T S hT hS hc x hx h1).symm
  | false =>
    cases h2 : S x with
    | false => rfl
    | true =>
      have h3 := key S T hS hT hc.symm x hx h2
      rw [h1] at h3
      cases h3
/-- all that must be members if c is -/
def mt_of (r : Nat → Nat → Bool) (n c : Nat) : Nat → Bool := mn_nr (fun x y => r y x) n c (n - 1)
theorem mt_of_cl {r : Nat → Nat → Bool} {n c : Nat} (hc : c < n) : mt_cl r n (mt_of r n c) := by
  intro a b ha hb h1 h2
  exact mn_all hc hb (mn_nr_s.mpr (Or.inr ⟨a, ha, h2, h1⟩))
theorem mt_of_self {r : Nat → Nat → Bool} {n c : Nat} : mt_of r n c c = true := mn_nr_le (Nat.zero_le _) (mn_nr_0.mpr rfl)
theorem mt_of_in {r : Nat → Nat → Bool} {n c : Nat} {S : Nat → Bool} (hS : mt_cl r n S) (h : S c = true) : ∀ k x, x < n → mn_nr (fun x y => r y x) n c k x = true → S x = true := by
  intro k
  induction k with
  | zero =>
    intro x _ hx
    rw [mn_nr_0.mp hx]
    exact h
  | succ k ih =>
    intro x hx h1
    rcases mn_nr_s.mp h1 with h2 | ⟨y, hy, h2, h3⟩
    · exact ih x hx h2
    · exact hS y x hy hx (ih y hy h3) h2
theorem mt_top {r : Nat → Nat → Bool} {n c0 : Nat} {T : Nat → Bool} (hr : ∀ a b, a < n → b < n → r a b = false → r b a = true) (hc0 : c0 < n) (hmin : ∀ c, c < n → mn_cnt (mt_of r n c0) n ≤ mn_cnt (mt_of r n c) n)
    (hT : mt_cl r n T) (hne : ∃ c, c < n ∧ T c = true) (hle : ∀ S : Nat → Bool, mt_cl r n S → (∃ c, c < n ∧ S c = true) → mn_cnt T n ≤ mn_cnt S n) : ∀ x, x < n → T x = mt_of r n c0 x := by
  obtain ⟨c, hc, h1⟩ := hne
  have h2 : mn_cnt (mt_of r n c) n ≤ mn_cnt T n := mn_cnt_mono n (fun x hx h => mt_of_in hT h1 _ x hx h)
  have h3 := hmin c hc
  have h4 := hle _ (mt_of_cl hc0) ⟨c0, hc0, mt_of_self⟩
  exact mt_eq hr hT (mt_of_cl hc0) (by omega)
end MT
end
section
section MB
/-! bits of an int: the family 'Int32 by its bits' of kit/laws/BITS.to-paste stands here as given, with what this claim asks beside it -/
def bt (x : Int32) (i : Nat) : Bool := x.toBitVec.getLsbD i
theorem b_ext {x y : Int32} (h : ∀ i, i < 32 → bt x i = bt y i) : x = y := Int32.toBitVec_inj.mp (BitVec.eq_of_getLsbD_eq (fun i hi => h i hi))
theorem b_or (x y : Int32) (i : Nat) : bt (x ||| y) i = (bt x i || bt y i) := by unfold bt; rw [Int32.toBitVec_or, BitVec.getLsbD_or]
theorem b_and (x y : Int32) (i : Nat) : bt (x &&& y) i = (bt x i && bt y i) := by unfold bt; rw [Int32.toBitVec_and, BitVec.getLsbD_and]
theorem b_xor (x y : Int32) (i : Nat) : bt (x ^^^ y) i = (bt x i ^^ bt y i) := by unfold bt; rw [Int32.toBitVec_xor, BitVec.getLsbD_xor]
theorem b_big {x : Int32} {i : Nat} (h : 32 ≤ i) : bt x i = false := BitVec.getLsbD_of_ge _ _ h
theorem b_255 (i : Nat) : bt 255 i = decide (i < 8) := by
  rcases Nat.lt_or_ge i 32 with h | h
  · exact (by decide +kernel : ∀ i, i < 32 → bt 255 i = decide (i < 8)) i h
  · rw [b_big h, decide_eq_false (by omega)]
theorem b_m1 : ∀ i, i < 32 → bt (-1) i = true := by decide +kernel
theorem b_0 (i : Nat) : bt 0 i = false := BitVec.getLsbD_zero
theorem s_l : ∀ n, n < 32 → ((nI n &&& 31).toBitVec.smod 32).toNat = n := by decide +kernel
theorem s_u : ∀ n, n < 32 → (((nI n).toUInt32 &&& Int32.toUInt32 31).toBitVec % 32).toNat = n := by decide +kernel
theorem b_shl (n : Nat) (hn : n < 32) (x : Int32) {i : Nat} (hi : i < 32) : bt (x <<< (nI n &&& 31)) i = (decide (n ≤ i) && bt x (i - n)) := by
  unfold bt
  rw [Int32.toBitVec_shiftLeft]
  show (x.toBitVec <<< ((nI n &&& 31).toBitVec.smod 32).toNat).getLsbD i = _
  rw [s_l n hn, BitVec.getLsbD_shiftLeft]
  rcases Nat.lt_or_ge i n with h | h
  · simp [h, Nat.not_le.mpr h]
  · simp [hi, h, Nat.not_lt.mpr h]
theorem b_ushr (n : Nat) (hn : n < 32) (x : Int32) (i : Nat) : bt ((x.toUInt32 >>> ((nI n).toUInt32 &&& Int32.toUInt32 31)).toInt32) i = bt x (n + i) := by
  show (x.toUInt32 >>> ((nI n).toUInt32 &&& Int32.toUInt32 31)).toBitVec.getLsbD i = x.toUInt32.toBitVec.getLsbD (n + i)
  rw [UInt32.toBitVec_shiftRight]
  show (x.toUInt32.toBitVec >>> (((nI n).toUInt32 &&& Int32.toUInt32 31).toBitVec % 32).toNat).getLsbD i = _
  rw [s_u n hn, BitVec.getLsbD_ushiftRight]
theorem b_sshr (n : Nat) (hn : n < 32) (x : Int32) {i : Nat} (hi : i < 32) : bt (x >>> (nI n &&& 31)) i = if n + i < 32 then bt x (n + i) else bt x 31 := by
  unfold bt
  rw [Int32.toBitVec_shiftRight]
  show (x.toBitVec.sshiftRight ((nI n &&& 31).toBitVec.smod 32).toNat).getLsbD i = _
  rw [s_l n hn, BitVec.getLsbD_sshiftRight, BitVec.msb_eq_getLsbD_last]
  simp [hi]
theorem bt_1 (i : Nat) : bt 1 i = decide (i = 0) := by
  rcases Nat.lt_or_ge i 32 with h | h
  · exact (by decide +kernel : ∀ i, i < 32 → bt 1 i = decide (i = 0)) i h
  · rw [b_big h, decide_eq_false (by omega)]
/-- one bit as a number -/
def bt_n (b : Bool) : Int32 := if b = true then 1 else 0
theorem bt_n_bit (b : Bool) (i : Nat) : bt (bt_n b) i = (b && decide (i = 0)) := by
  cases b
  · show bt 0 i = _
    rw [b_0]; rfl
  · show bt 1 i = _
    rw [bt_1]; rfl
theorem bt_has (x : Int32) {c : Nat} (hc : c < 32) : (x.toUInt32 >>> ((nI c).toUInt32 &&& Int32.toUInt32 31)).toInt32 &&& 1 = bt_n (bt x c) := by
  apply b_ext
  intro i hi
  rw [b_and, b_ushr c hc, bt_1, bt_n_bit]
  by_cases e : i = 0
  · subst e; simp
  · simp [e]
theorem bt_shas (x : Int32) {c : Nat} (hc : c < 32) : (x >>> (nI c &&& 31)) &&& 1 = bt_n (bt x c) := by
  apply b_ext
  intro i hi
  rw [b_and, b_sshr c hc x hi, bt_1, bt_n_bit]
  by_cases e : i = 0
  · subst e; simp [hc]
  · simp [e]
theorem bt_one {c i : Nat} (hc : c < 32) (hi : i < 32) : bt ((1 : Int32) <<< (nI c &&& 31)) i = decide (i = c) := by
  rw [b_shl c hc 1 hi, bt_1]
  by_cases e : i = c
  · subst e; simp
  · by_cases h : c ≤ i
    · simp [h, e]; omega
    · simp [h, e]
theorem bt_n0 {b : Bool} : bt_n b = 0 ↔ b = false := by cases b <;> decide
theorem bt_n1 {b : Bool} : bt_n b = 1 ↔ b = true := by cases b <;> decide
/-- a place of a ranking, a step of a way: four bits -/
def nb (w : Int32) (i : Nat) : Nat := w.toBitVec.toNat / 2 ^ (4 * i) % 16
theorem nb_lt (w : Int32) (i : Nat) : nb w i < 16 := Nat.mod_lt _ (by decide)
theorem nb_get (w : Int32) {i : Nat} (hi : i < 8) : (w.toUInt32 >>> ((nI (4 * i)).toUInt32 &&& Int32.toUInt32 31)).toInt32 &&& 15 = nI (nb w i) := by
  rw [pk_and _ 4 (by decide), pk_ushr w (nI (4 * i)) (4 * i) (s_u (4 * i) (by omega))]
  rfl
end MB
end
