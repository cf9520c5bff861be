/-! the law's judgement: as the judgement of part 05, with one thing more that is known of the start (I); its rows are those of parts 06, 07, 10, written anew by gen/m_z.py -/
section BZ
abbrev zj_I : Type := State → (Nat → Prop) → Prop
def bj_Z (I : zj_I) (G : bj_G) (Y : bj_Y) (n : Nat) (K : bj_K) (ad : Nat → Nat) (Q : bj_R → bj_M → Prop) (cs sl pc : Nat) (L : List (Option Value)) (st : List Value) (M : bj_M) : Prop :=
  ∀ (p : Program) (e : Env) (s : State) (m : MethodId) (args : Array Value) (below : List Frame) (meth : Method) (c : Code) (A : Nat → Prop) (H : Heap) (locs : List Loc) (ls : Array Slot),
    I s A → bj_C G Y A p s m args meth c → bj_W G ad M A H → va_S A s.heap H locs → bj_L ls Y.2.2.2.1 L →
    W p G.1 e (bj_room n K) s m args below meth c H locs cs sl (bj_Q G ad Q K A below s) (F0 m pc ls st)
def bj_ZT (I : zj_I) (G : bj_G) (Y : bj_Y) (n : Nat) (K : bj_K) (ad : Nat → Nat) (Q : bj_R → bj_M → Prop) (av : List Value) (M : bj_M) : Prop := bj_Z I G Y n K ad Q 0 0 0 (bj_ent Y av) [] M
theorem zj_of {I : zj_I} {G : bj_G} {Y : bj_Y} {n : Nat} {K : bj_K} {ad : Nat → Nat} {Q : bj_R → bj_M → Prop} {av : List Value} {M : bj_M} (h : bj_T G Y n K ad Q av M) : bj_ZT I G Y n K ad Q av M := fun p e s m ar be me c A H lo ls _ C hW hS hl => h p e s m ar be me c A H lo ls C hW hS hl
/-- it stays as long as nothing outside A is written -/
def zj_st (I : zj_I) : Prop := ∀ (s U : State) (A : Nat → Prop), I s A → s.vm.Alike U.vm → s.heap.size ≤ U.heap.size → (∀ q : Nat, q < s.heap.size → ¬ A q → U.heap[q]? = s.heap[q]?) → I U A
/-- the script -/
def sc_I (b N : Nat) (xs : Nat → Int32) : zj_I := fun s A => va_X b N xs s s.heap ∧ b < s.heap.size ∧ ¬ A b
theorem sc_st (b N : Nat) (xs : Nat → Int32) : zj_st (sc_I b N xs) := fun s U A h hv hz hk => ⟨(h.1.kept (hk b h.2.1 h.2.2)).moved hv, Nat.lt_of_lt_of_le h.2.1 hz, h.2.2⟩
section R
variable {I : zj_I} {G : bj_G} {Y : bj_Y} {n : Nat} {K : bj_K} {ad : Nat → Nat} {Q : bj_R → bj_M → Prop} {cs sl pc : Nat} {L : List (Option Value)} {st : List Value} {M : bj_M}
theorem zj_iconst {v : Int32} {z : Int} (d : decode Y.2.2.1 pc = .ok (.iconst z, 1)) (hv : Int32.ofInt z = v) (kk : bj_Z I G Y n K ad Q cs sl (pc + 1) L (.int v :: st) M) : bj_Z I G Y n K ad Q cs sl pc L st M :=
  fun p e s m ar be me c A H lo ls hI C hW hS hl => lv_iconst C.ex C.by d hv (kk p e s m ar be me c A H lo ls hI C hW hS hl)
theorem zj_bipush {v : Int32} {z : Int} (d : decode Y.2.2.1 pc = .ok (.bipush z, 2)) (hv : (Int8.ofInt z).toInt32 = v) (kk : bj_Z I G Y n K ad Q cs sl (pc + 2) L (.int v :: st) M) : bj_Z I G Y n K ad Q cs sl pc L st M :=
  fun p e s m ar be me c A H lo ls hI C hW hS hl => lv_bipush C.ex C.by d hv (kk p e s m ar be me c A H lo ls hI C hW hS hl)
theorem zj_sipush {v : Int32} {z : Int} (d : decode Y.2.2.1 pc = .ok (.sipush z, 3)) (hv : (Int16.ofInt z).toInt32 = v) (kk : bj_Z I G Y n K ad Q cs sl (pc + 3) L (.int v :: st) M) : bj_Z I G Y n K ad Q cs sl pc L st M :=
  fun p e s m ar be me c A H lo ls hI C hW hS hl => lv_sipush C.ex C.by d hv (kk p e s m ar be me c A H lo ls hI C hW hS hl)
theorem zj_lconst {v : Int64} {z : Fin 2} (d : decode Y.2.2.1 pc = .ok (.lconst z, 1)) (hv : Int64.ofNat (z : Nat) = v) (kk : bj_Z I G Y n K ad Q cs sl (pc + 1) L (.long v :: st) M) : bj_Z I G Y n K ad Q cs sl pc L st M :=
  fun p e s m ar be me c A H lo ls hI C hW hS hl => lv_lconst C.ex C.by d hv (kk p e s m ar be me c A H lo ls hI C hW hS hl)
theorem zj_iload_n {i : Nat} {x : Int32} {z : Fin 4} (d : decode Y.2.2.1 pc = .ok (.iload_n z, 1)) (hi : (z : Nat) = i) (hx : L[i]? = some (some (.int x))) (kk : bj_Z I G Y n K ad Q cs sl (pc + 1) L (.int x :: st) M) : bj_Z I G Y n K ad Q cs sl pc L st M :=
  fun p e s m ar be me c A H lo ls hI C hW hS hl => lv_iload_n C.ex C.by d hi (hl.val hx) (kk p e s m ar be me c A H lo ls hI C hW hS hl)
theorem zj_iload {i : Nat} {x : Int32} (d : decode Y.2.2.1 pc = .ok (.iload i, 2)) (hx : L[i]? = some (some (.int x))) (kk : bj_Z I G Y n K ad Q cs sl (pc + 2) L (.int x :: st) M) : bj_Z I G Y n K ad Q cs sl pc L st M :=
  fun p e s m ar be me c A H lo ls hI C hW hS hl => lv_iload C.ex C.by d (hl.val hx) (kk p e s m ar be me c A H lo ls hI C hW hS hl)
theorem zj_istore_n {i : Nat} {x : Int32} {z : Fin 4} {L' : List (Option Value)} (d : decode Y.2.2.1 pc = .ok (.istore_n z, 1)) (hi : (z : Nat) = i) (hn : i < Y.2.2.2.1) (hL : L.set i (some (.int x)) = L') (kk : bj_Z I G Y n K ad Q cs sl (pc + 1) L' st M) : bj_Z I G Y n K ad Q cs sl pc L (.int x :: st) M :=
  fun p e s m ar be me c A H lo ls hI C hW hS hl => lv_istore_n C.ex C.by d hi hl.has hn rfl (fun ls' h' => kk p e s m ar be me c A H lo ls' hI C hW hS (hl.store rfl hn hL h'))
theorem zj_istore {i : Nat} {x : Int32} {L' : List (Option Value)} (d : decode Y.2.2.1 pc = .ok (.istore i, 2)) (hn : i < Y.2.2.2.1) (hL : L.set i (some (.int x)) = L') (kk : bj_Z I G Y n K ad Q cs sl (pc + 2) L' st M) : bj_Z I G Y n K ad Q cs sl pc L (.int x :: st) M :=
  fun p e s m ar be me c A H lo ls hI C hW hS hl => lv_istore C.ex C.by d hl.has hn rfl (fun ls' h' => kk p e s m ar be me c A H lo ls' hI C hW hS (hl.store rfl hn hL h'))
theorem zj_aload_n {i : Nat} {x : Nat} {z : Fin 4} (d : decode Y.2.2.1 pc = .ok (.aload_n z, 1)) (hi : (z : Nat) = i) (hx : L[i]? = some (some (.ref x))) (kk : bj_Z I G Y n K ad Q cs sl (pc + 1) L (.ref x :: st) M) : bj_Z I G Y n K ad Q cs sl pc L st M :=
  fun p e s m ar be me c A H lo ls hI C hW hS hl => lv_aload_n C.ex C.by d hi (hl.val hx) (kk p e s m ar be me c A H lo ls hI C hW hS hl)
theorem zj_aload {i : Nat} {x : Nat} (d : decode Y.2.2.1 pc = .ok (.aload i, 2)) (hx : L[i]? = some (some (.ref x))) (kk : bj_Z I G Y n K ad Q cs sl (pc + 2) L (.ref x :: st) M) : bj_Z I G Y n K ad Q cs sl pc L st M :=
  fun p e s m ar be me c A H lo ls hI C hW hS hl => lv_aload C.ex C.by d (hl.val hx) (kk p e s m ar be me c A H lo ls hI C hW hS hl)
theorem zj_astore_n {i : Nat} {x : Nat} {z : Fin 4} {L' : List (Option Value)} (d : decode Y.2.2.1 pc = .ok (.astore_n z, 1)) (hi : (z : Nat) = i) (hn : i < Y.2.2.2.1) (hL : L.set i (some (.ref x)) = L') (kk : bj_Z I G Y n K ad Q cs sl (pc + 1) L' st M) : bj_Z I G Y n K ad Q cs sl pc L (.ref x :: st) M :=
  fun p e s m ar be me c A H lo ls hI C hW hS hl => lv_astore_n C.ex C.by d hi hl.has hn rfl (fun ls' h' => kk p e s m ar be me c A H lo ls' hI C hW hS (hl.store rfl hn hL h'))
theorem zj_astore {i : Nat} {x : Nat} {L' : List (Option Value)} (d : decode Y.2.2.1 pc = .ok (.astore i, 2)) (hn : i < Y.2.2.2.1) (hL : L.set i (some (.ref x)) = L') (kk : bj_Z I G Y n K ad Q cs sl (pc + 2) L' st M) : bj_Z I G Y n K ad Q cs sl pc L (.ref x :: st) M :=
  fun p e s m ar be me c A H lo ls hI C hW hS hl => lv_astore C.ex C.by d hl.has hn rfl (fun ls' h' => kk p e s m ar be me c A H lo ls' hI C hW hS (hl.store rfl hn hL h'))
theorem zj_iinc {i : Nat} {x v : Int32} {z : Int} {L' : List (Option Value)} (d : decode Y.2.2.1 pc = .ok (.iinc i z, 3)) (hx : L[i]? = some (some (.int x))) (hv : x + Int32.ofInt z = v) (hn : i < Y.2.2.2.1) (hL : L.set i (some (.int v)) = L') (kk : bj_Z I G Y n K ad Q cs sl (pc + 3) L' st M) : bj_Z I G Y n K ad Q cs sl pc L st M :=
  fun p e s m ar be me c A H lo ls hI C hW hS hl => by
    obtain ⟨j, hj⟩ := List.getElem?_of_mem (bj_mem.mpr hx)
    exact lv_iinc C.ex C.by d hl.has hj hv hn rfl (fun ls' h' => kk p e s m ar be me c A H lo ls' hI C hW hS (hl.store rfl hn hL h'))
theorem zj_iadd {x y v : Int32} (d : decode Y.2.2.1 pc = .ok (.iadd, 1)) (hv : x + y = v) (kk : bj_Z I G Y n K ad Q cs sl (pc + 1) L (.int v :: st) M) : bj_Z I G Y n K ad Q cs sl pc L (.int y :: .int x :: st) M :=
  fun p e s m ar be me c A H lo ls hI C hW hS hl => by subst hv; exact lv_iadd C.ex C.by d (kk p e s m ar be me c A H lo ls hI C hW hS hl)
theorem zj_isub {x y v : Int32} (d : decode Y.2.2.1 pc = .ok (.isub, 1)) (hv : x - y = v) (kk : bj_Z I G Y n K ad Q cs sl (pc + 1) L (.int v :: st) M) : bj_Z I G Y n K ad Q cs sl pc L (.int y :: .int x :: st) M :=
  fun p e s m ar be me c A H lo ls hI C hW hS hl => by subst hv; exact lv_isub C.ex C.by d (kk p e s m ar be me c A H lo ls hI C hW hS hl)
theorem zj_imul {x y v : Int32} (d : decode Y.2.2.1 pc = .ok (.imul, 1)) (hv : x * y = v) (kk : bj_Z I G Y n K ad Q cs sl (pc + 1) L (.int v :: st) M) : bj_Z I G Y n K ad Q cs sl pc L (.int y :: .int x :: st) M :=
  fun p e s m ar be me c A H lo ls hI C hW hS hl => by subst hv; exact lv_imul C.ex C.by d (kk p e s m ar be me c A H lo ls hI C hW hS hl)
theorem zj_iand {x y v : Int32} (d : decode Y.2.2.1 pc = .ok (.iand, 1)) (hv : x &&& y = v) (kk : bj_Z I G Y n K ad Q cs sl (pc + 1) L (.int v :: st) M) : bj_Z I G Y n K ad Q cs sl pc L (.int y :: .int x :: st) M :=
  fun p e s m ar be me c A H lo ls hI C hW hS hl => by subst hv; exact lv_iand C.ex C.by d (kk p e s m ar be me c A H lo ls hI C hW hS hl)
theorem zj_ior {x y v : Int32} (d : decode Y.2.2.1 pc = .ok (.ior, 1)) (hv : x ||| y = v) (kk : bj_Z I G Y n K ad Q cs sl (pc + 1) L (.int v :: st) M) : bj_Z I G Y n K ad Q cs sl pc L (.int y :: .int x :: st) M :=
  fun p e s m ar be me c A H lo ls hI C hW hS hl => by subst hv; exact lv_ior C.ex C.by d (kk p e s m ar be me c A H lo ls hI C hW hS hl)
theorem zj_ixor {x y v : Int32} (d : decode Y.2.2.1 pc = .ok (.ixor, 1)) (hv : x ^^^ y = v) (kk : bj_Z I G Y n K ad Q cs sl (pc + 1) L (.int v :: st) M) : bj_Z I G Y n K ad Q cs sl pc L (.int y :: .int x :: st) M :=
  fun p e s m ar be me c A H lo ls hI C hW hS hl => by subst hv; exact lv_ixor C.ex C.by d (kk p e s m ar be me c A H lo ls hI C hW hS hl)
theorem zj_ishl {x y v : Int32} (d : decode Y.2.2.1 pc = .ok (.ishl, 1)) (hv : x <<< (y &&& 31) = v) (kk : bj_Z I G Y n K ad Q cs sl (pc + 1) L (.int v :: st) M) : bj_Z I G Y n K ad Q cs sl pc L (.int y :: .int x :: st) M :=
  fun p e s m ar be me c A H lo ls hI C hW hS hl => by subst hv; exact lv_ishl C.ex C.by d (kk p e s m ar be me c A H lo ls hI C hW hS hl)
theorem zj_ishr {x y v : Int32} (d : decode Y.2.2.1 pc = .ok (.ishr, 1)) (hv : x >>> (y &&& 31) = v) (kk : bj_Z I G Y n K ad Q cs sl (pc + 1) L (.int v :: st) M) : bj_Z I G Y n K ad Q cs sl pc L (.int y :: .int x :: st) M :=
  fun p e s m ar be me c A H lo ls hI C hW hS hl => by subst hv; exact lv_ishr C.ex C.by d (kk p e s m ar be me c A H lo ls hI C hW hS hl)
theorem zj_iushr {x y v : Int32} (d : decode Y.2.2.1 pc = .ok (.iushr, 1)) (hv : (x.toUInt32 >>> (y.toUInt32 &&& Int32.toUInt32 31)).toInt32 = v) (kk : bj_Z I G Y n K ad Q cs sl (pc + 1) L (.int v :: st) M) : bj_Z I G Y n K ad Q cs sl pc L (.int y :: .int x :: st) M :=
  fun p e s m ar be me c A H lo ls hI C hW hS hl => lv_iushr C.ex C.by d hv (kk p e s m ar be me c A H lo ls hI C hW hS hl)
theorem zj_idiv {x y v : Int32} (d : decode Y.2.2.1 pc = .ok (.idiv, 1)) (hne : ¬ y = 0) (hv : x / y = v) (kk : bj_Z I G Y n K ad Q cs sl (pc + 1) L (.int v :: st) M) : bj_Z I G Y n K ad Q cs sl pc L (.int y :: .int x :: st) M :=
  fun p e s m ar be me c A H lo ls hI C hW hS hl => by subst hv; exact lv_idiv C.ex C.by d hne (kk p e s m ar be me c A H lo ls hI C hW hS hl)
theorem zj_irem {x y v : Int32} (d : decode Y.2.2.1 pc = .ok (.irem, 1)) (hne : ¬ y = 0) (hv : x - x / y * y = v) (kk : bj_Z I G Y n K ad Q cs sl (pc + 1) L (.int v :: st) M) : bj_Z I G Y n K ad Q cs sl pc L (.int y :: .int x :: st) M :=
  fun p e s m ar be me c A H lo ls hI C hW hS hl => by subst hv; exact lv_irem C.ex C.by d hne (kk p e s m ar be me c A H lo ls hI C hW hS hl)
theorem zj_ineg {x v : Int32} (d : decode Y.2.2.1 pc = .ok (.ineg, 1)) (hv : -x = v) (kk : bj_Z I G Y n K ad Q cs sl (pc + 1) L (.int v :: st) M) : bj_Z I G Y n K ad Q cs sl pc L (.int x :: st) M :=
  fun p e s m ar be me c A H lo ls hI C hW hS hl => by subst hv; exact lv_ineg C.ex C.by d (kk p e s m ar be me c A H lo ls hI C hW hS hl)
theorem zj_i2l {x : Int32} {v : Int64} (d : decode Y.2.2.1 pc = .ok (.i2l, 1)) (hv : x.toInt64 = v) (kk : bj_Z I G Y n K ad Q cs sl (pc + 1) L (.long v :: st) M) : bj_Z I G Y n K ad Q cs sl pc L (.int x :: st) M :=
  fun p e s m ar be me c A H lo ls hI C hW hS hl => lv_i2l C.ex C.by d hv (kk p e s m ar be me c A H lo ls hI C hW hS hl)
theorem zj_lcmp {x y : Int64} (d : decode Y.2.2.1 pc = .ok (.lcmp, 1)) (kk : bj_Z I G Y n K ad Q cs sl (pc + 1) L (.int (lg_cmp x y) :: st) M) : bj_Z I G Y n K ad Q cs sl pc L (.long y :: .long x :: st) M :=
  fun p e s m ar be me c A H lo ls hI C hW hS hl => W.lcmp C.ex C.by d (kk p e s m ar be me c A H lo ls hI C hW hS hl)
theorem zj_dup {x : Value} (d : decode Y.2.2.1 pc = .ok (.dup, 1)) (hx : x.category = 1) (kk : bj_Z I G Y n K ad Q cs sl (pc + 1) L (x :: x :: st) M) : bj_Z I G Y n K ad Q cs sl pc L (x :: st) M :=
  fun p e s m ar be me c A H lo ls hI C hW hS hl => lv_dup C.ex C.by d hx (kk p e s m ar be me c A H lo ls hI C hW hS hl)
theorem zj_pop {x : Value} (d : decode Y.2.2.1 pc = .ok (.pop, 1)) (hx : x.category = 1) (kk : bj_Z I G Y n K ad Q cs sl (pc + 1) L st M) : bj_Z I G Y n K ad Q cs sl pc L (x :: st) M :=
  fun p e s m ar be me c A H lo ls hI C hW hS hl => lv_pop C.ex C.by d hx (kk p e s m ar be me c A H lo ls hI C hW hS hl)
theorem zj_dup_x1 {x y : Value} (d : decode Y.2.2.1 pc = .ok (.dup_x1, 1)) (hx : x.category = 1) (hy : y.category = 1) (kk : bj_Z I G Y n K ad Q cs sl (pc + 1) L (x :: y :: x :: st) M) : bj_Z I G Y n K ad Q cs sl pc L (x :: y :: st) M :=
  fun p e s m ar be me c A H lo ls hI C hW hS hl => lv_dup_x1 C.ex C.by d hx hy (kk p e s m ar be me c A H lo ls hI C hW hS hl)
theorem zj_dup_x2 {x y z : Value} (d : decode Y.2.2.1 pc = .ok (.dup_x2, 1)) (hx : x.category = 1) (hy : y.category = 1) (hz : z.category = 1) (kk : bj_Z I G Y n K ad Q cs sl (pc + 1) L (x :: y :: z :: x :: st) M) : bj_Z I G Y n K ad Q cs sl pc L (x :: y :: z :: st) M :=
  fun p e s m ar be me c A H lo ls hI C hW hS hl => lv_dup_x2 C.ex C.by d hx hy hz (kk p e s m ar be me c A H lo ls hI C hW hS hl)
theorem zj_dup2 {x y : Value} (d : decode Y.2.2.1 pc = .ok (.dup2, 1)) (hx : x.category = 1) (hy : y.category = 1) (kk : bj_Z I G Y n K ad Q cs sl (pc + 1) L (x :: y :: x :: y :: st) M) : bj_Z I G Y n K ad Q cs sl pc L (x :: y :: st) M :=
  fun p e s m ar be me c A H lo ls hI C hW hS hl => lv_dup2_11 C.ex C.by d hx hy (kk p e s m ar be me c A H lo ls hI C hW hS hl)
theorem zj_goto {off : Int} {tgt : Nat} (d : decode Y.2.2.1 pc = .ok (.goto off, 3)) (ht : (pc : Int) + off = (tgt : Int)) (kk : bj_Z I G Y n K ad Q cs sl tgt L st M) : bj_Z I G Y n K ad Q cs sl pc L st M :=
  fun p e s m ar be me c A H lo ls hI C hW hS hl => lv_goto C.ex C.by d ht (kk p e s m ar be me c A H lo ls hI C hW hS hl)
theorem zj_if_eq {x : Int32} {off : Int} {tgt : Nat} (d : decode Y.2.2.1 pc = .ok (.ifCond .eq off, 3)) (ht : (pc : Int) + off = (tgt : Int)) (kt : x = 0 → bj_Z I G Y n K ad Q cs sl tgt L st M) (kf : ¬ (x = 0) → bj_Z I G Y n K ad Q cs sl (pc + 3) L st M) : bj_Z I G Y n K ad Q cs sl pc L (.int x :: st) M :=
  fun p e s m ar be me c A H lo ls hI C hW hS hl => lv_if_eq C.ex C.by d ht (fun h => kt h p e s m ar be me c A H lo ls hI C hW hS hl) (fun h => kf h p e s m ar be me c A H lo ls hI C hW hS hl)
theorem zj_icmp_eq {x y : Int32} {off : Int} {tgt : Nat} (d : decode Y.2.2.1 pc = .ok (.if_icmp .eq off, 3)) (ht : (pc : Int) + off = (tgt : Int)) (kt : x = y → bj_Z I G Y n K ad Q cs sl tgt L st M) (kf : ¬ (x = y) → bj_Z I G Y n K ad Q cs sl (pc + 3) L st M) : bj_Z I G Y n K ad Q cs sl pc L (.int y :: .int x :: st) M :=
  fun p e s m ar be me c A H lo ls hI C hW hS hl => lv_icmp_eq C.ex C.by d ht (fun h => kt h p e s m ar be me c A H lo ls hI C hW hS hl) (fun h => kf h p e s m ar be me c A H lo ls hI C hW hS hl)
theorem zj_if_ne {x : Int32} {off : Int} {tgt : Nat} (d : decode Y.2.2.1 pc = .ok (.ifCond .ne off, 3)) (ht : (pc : Int) + off = (tgt : Int)) (kt : ¬ x = 0 → bj_Z I G Y n K ad Q cs sl tgt L st M) (kf : x = 0 → bj_Z I G Y n K ad Q cs sl (pc + 3) L st M) : bj_Z I G Y n K ad Q cs sl pc L (.int x :: st) M :=
  fun p e s m ar be me c A H lo ls hI C hW hS hl => lv_if_ne C.ex C.by d ht (fun h => kt h p e s m ar be me c A H lo ls hI C hW hS hl) (fun h => kf h p e s m ar be me c A H lo ls hI C hW hS hl)
theorem zj_icmp_ne {x y : Int32} {off : Int} {tgt : Nat} (d : decode Y.2.2.1 pc = .ok (.if_icmp .ne off, 3)) (ht : (pc : Int) + off = (tgt : Int)) (kt : ¬ x = y → bj_Z I G Y n K ad Q cs sl tgt L st M) (kf : x = y → bj_Z I G Y n K ad Q cs sl (pc + 3) L st M) : bj_Z I G Y n K ad Q cs sl pc L (.int y :: .int x :: st) M :=
  fun p e s m ar be me c A H lo ls hI C hW hS hl => lv_icmp_ne C.ex C.by d ht (fun h => kt h p e s m ar be me c A H lo ls hI C hW hS hl) (fun h => kf h p e s m ar be me c A H lo ls hI C hW hS hl)
theorem zj_if_lt {x : Int32} {off : Int} {tgt : Nat} (d : decode Y.2.2.1 pc = .ok (.ifCond .lt off, 3)) (ht : (pc : Int) + off = (tgt : Int)) (kt : x < 0 → bj_Z I G Y n K ad Q cs sl tgt L st M) (kf : ¬ (x < 0) → bj_Z I G Y n K ad Q cs sl (pc + 3) L st M) : bj_Z I G Y n K ad Q cs sl pc L (.int x :: st) M :=
  fun p e s m ar be me c A H lo ls hI C hW hS hl => lv_if_lt C.ex C.by d ht (fun h => kt h p e s m ar be me c A H lo ls hI C hW hS hl) (fun h => kf h p e s m ar be me c A H lo ls hI C hW hS hl)
theorem zj_icmp_lt {x y : Int32} {off : Int} {tgt : Nat} (d : decode Y.2.2.1 pc = .ok (.if_icmp .lt off, 3)) (ht : (pc : Int) + off = (tgt : Int)) (kt : x < y → bj_Z I G Y n K ad Q cs sl tgt L st M) (kf : ¬ (x < y) → bj_Z I G Y n K ad Q cs sl (pc + 3) L st M) : bj_Z I G Y n K ad Q cs sl pc L (.int y :: .int x :: st) M :=
  fun p e s m ar be me c A H lo ls hI C hW hS hl => lv_icmp_lt C.ex C.by d ht (fun h => kt h p e s m ar be me c A H lo ls hI C hW hS hl) (fun h => kf h p e s m ar be me c A H lo ls hI C hW hS hl)
theorem zj_if_ge {x : Int32} {off : Int} {tgt : Nat} (d : decode Y.2.2.1 pc = .ok (.ifCond .ge off, 3)) (ht : (pc : Int) + off = (tgt : Int)) (kt : 0 ≤ x → bj_Z I G Y n K ad Q cs sl tgt L st M) (kf : ¬ (0 ≤ x) → bj_Z I G Y n K ad Q cs sl (pc + 3) L st M) : bj_Z I G Y n K ad Q cs sl pc L (.int x :: st) M :=
  fun p e s m ar be me c A H lo ls hI C hW hS hl => lv_if_ge C.ex C.by d ht (fun h => kt h p e s m ar be me c A H lo ls hI C hW hS hl) (fun h => kf h p e s m ar be me c A H lo ls hI C hW hS hl)
theorem zj_icmp_ge {x y : Int32} {off : Int} {tgt : Nat} (d : decode Y.2.2.1 pc = .ok (.if_icmp .ge off, 3)) (ht : (pc : Int) + off = (tgt : Int)) (kt : y ≤ x → bj_Z I G Y n K ad Q cs sl tgt L st M) (kf : ¬ (y ≤ x) → bj_Z I G Y n K ad Q cs sl (pc + 3) L st M) : bj_Z I G Y n K ad Q cs sl pc L (.int y :: .int x :: st) M :=
  fun p e s m ar be me c A H lo ls hI C hW hS hl => lv_icmp_ge C.ex C.by d ht (fun h => kt h p e s m ar be me c A H lo ls hI C hW hS hl) (fun h => kf h p e s m ar be me c A H lo ls hI C hW hS hl)
theorem zj_if_gt {x : Int32} {off : Int} {tgt : Nat} (d : decode Y.2.2.1 pc = .ok (.ifCond .gt off, 3)) (ht : (pc : Int) + off = (tgt : Int)) (kt : 0 < x → bj_Z I G Y n K ad Q cs sl tgt L st M) (kf : ¬ (0 < x) → bj_Z I G Y n K ad Q cs sl (pc + 3) L st M) : bj_Z I G Y n K ad Q cs sl pc L (.int x :: st) M :=
  fun p e s m ar be me c A H lo ls hI C hW hS hl => lv_if_gt C.ex C.by d ht (fun h => kt h p e s m ar be me c A H lo ls hI C hW hS hl) (fun h => kf h p e s m ar be me c A H lo ls hI C hW hS hl)
theorem zj_icmp_gt {x y : Int32} {off : Int} {tgt : Nat} (d : decode Y.2.2.1 pc = .ok (.if_icmp .gt off, 3)) (ht : (pc : Int) + off = (tgt : Int)) (kt : y < x → bj_Z I G Y n K ad Q cs sl tgt L st M) (kf : ¬ (y < x) → bj_Z I G Y n K ad Q cs sl (pc + 3) L st M) : bj_Z I G Y n K ad Q cs sl pc L (.int y :: .int x :: st) M :=
  fun p e s m ar be me c A H lo ls hI C hW hS hl => lv_icmp_gt C.ex C.by d ht (fun h => kt h p e s m ar be me c A H lo ls hI C hW hS hl) (fun h => kf h p e s m ar be me c A H lo ls hI C hW hS hl)
theorem zj_if_le {x : Int32} {off : Int} {tgt : Nat} (d : decode Y.2.2.1 pc = .ok (.ifCond .le off, 3)) (ht : (pc : Int) + off = (tgt : Int)) (kt : x ≤ 0 → bj_Z I G Y n K ad Q cs sl tgt L st M) (kf : ¬ (x ≤ 0) → bj_Z I G Y n K ad Q cs sl (pc + 3) L st M) : bj_Z I G Y n K ad Q cs sl pc L (.int x :: st) M :=
  fun p e s m ar be me c A H lo ls hI C hW hS hl => lv_if_le C.ex C.by d ht (fun h => kt h p e s m ar be me c A H lo ls hI C hW hS hl) (fun h => kf h p e s m ar be me c A H lo ls hI C hW hS hl)
theorem zj_icmp_le {x y : Int32} {off : Int} {tgt : Nat} (d : decode Y.2.2.1 pc = .ok (.if_icmp .le off, 3)) (ht : (pc : Int) + off = (tgt : Int)) (kt : x ≤ y → bj_Z I G Y n K ad Q cs sl tgt L st M) (kf : ¬ (x ≤ y) → bj_Z I G Y n K ad Q cs sl (pc + 3) L st M) : bj_Z I G Y n K ad Q cs sl pc L (.int y :: .int x :: st) M :=
  fun p e s m ar be me c A H lo ls hI C hW hS hl => lv_icmp_le C.ex C.by d ht (fun h => kt h p e s m ar be me c A H lo ls hI C hW hS hl) (fun h => kf h p e s m ar be me c A H lo ls hI C hW hS hl)
theorem zj_swOut {dflt lo hi : Int} {offs : Array Int} {len : Nat} {x : Int32} {tgt : Nat} (d : decode Y.2.2.1 pc = .ok (.tableswitch dflt lo hi offs, len)) (h : x.toInt < lo ∨ hi < x.toInt) (ht : (pc : Int) + dflt = (tgt : Int)) (kk : bj_Z I G Y n K ad Q cs sl tgt L st M) : bj_Z I G Y n K ad Q cs sl pc L (.int x :: st) M :=
  fun p e s m ar be me c A H lo ls hI C hW hS hl => lv_tableOut C.ex C.by d h ht (kk p e s m ar be me c A H lo ls hI C hW hS hl)
theorem zj_swIn {dflt lo hi : Int} {offs : Array Int} {len : Nat} {x : Int32} {off : Int} {tgt : Nat} (d : decode Y.2.2.1 pc = .ok (.tableswitch dflt lo hi offs, len)) (h1 : ¬ x.toInt < lo) (h2 : ¬ hi < x.toInt) (ho : offs[(x.toInt - lo).toNat]? = some off) (ht : (pc : Int) + off = (tgt : Int)) (kk : bj_Z I G Y n K ad Q cs sl tgt L st M) : bj_Z I G Y n K ad Q cs sl pc L (.int x :: st) M :=
  fun p e s m ar be me c A H lo ls hI C hW hS hl => lv_tableIn C.ex C.by d h1 h2 ho ht (kk p e s m ar be me c A H lo ls hI C hW hS hl)
theorem zj_icmp_eqN {a b : Nat} {off : Int} {tgt : Nat} (d : decode Y.2.2.1 pc = .ok (.if_icmp .eq off, 3)) (ht : (pc : Int) + off = (tgt : Int)) (ha : a < 2 ^ 31) (hb : b < 2 ^ 31) (kt : a = b → bj_Z I G Y n K ad Q cs sl tgt L st M) (kf : a ≠ b → bj_Z I G Y n K ad Q cs sl (pc + 3) L st M) : bj_Z I G Y n K ad Q cs sl pc L (.int (nI b) :: .int (nI a) :: st) M :=
  zj_icmp_eq d ht (fun h => kt ((nI_eq ha hb).mp h)) (fun h => kf (fun q => h ((nI_eq ha hb).mpr q)))
theorem zj_icmp_neN {a b : Nat} {off : Int} {tgt : Nat} (d : decode Y.2.2.1 pc = .ok (.if_icmp .ne off, 3)) (ht : (pc : Int) + off = (tgt : Int)) (ha : a < 2 ^ 31) (hb : b < 2 ^ 31) (kt : a ≠ b → bj_Z I G Y n K ad Q cs sl tgt L st M) (kf : a = b → bj_Z I G Y n K ad Q cs sl (pc + 3) L st M) : bj_Z I G Y n K ad Q cs sl pc L (.int (nI b) :: .int (nI a) :: st) M :=
  zj_icmp_ne d ht (fun h => kt (fun q => h ((nI_eq ha hb).mpr q))) (fun h => kf ((nI_eq ha hb).mp h))
theorem zj_icmp_ltN {a b : Nat} {off : Int} {tgt : Nat} (d : decode Y.2.2.1 pc = .ok (.if_icmp .lt off, 3)) (ht : (pc : Int) + off = (tgt : Int)) (ha : a < 2 ^ 31) (hb : b < 2 ^ 31) (kt : a < b → bj_Z I G Y n K ad Q cs sl tgt L st M) (kf : b ≤ a → bj_Z I G Y n K ad Q cs sl (pc + 3) L st M) : bj_Z I G Y n K ad Q cs sl pc L (.int (nI b) :: .int (nI a) :: st) M :=
  zj_icmp_lt d ht (fun h => kt ((nI_ltI ha hb).mp h)) (fun h => kf (Nat.le_of_not_lt (fun q => h ((nI_ltI ha hb).mpr q))))
theorem zj_icmp_geN {a b : Nat} {off : Int} {tgt : Nat} (d : decode Y.2.2.1 pc = .ok (.if_icmp .ge off, 3)) (ht : (pc : Int) + off = (tgt : Int)) (ha : a < 2 ^ 31) (hb : b < 2 ^ 31) (kt : b ≤ a → bj_Z I G Y n K ad Q cs sl tgt L st M) (kf : a < b → bj_Z I G Y n K ad Q cs sl (pc + 3) L st M) : bj_Z I G Y n K ad Q cs sl pc L (.int (nI b) :: .int (nI a) :: st) M :=
  zj_icmp_ge d ht (fun h => kt ((nI_leI hb ha).mp h)) (fun h => kf (Nat.lt_of_not_le (fun q => h ((nI_leI hb ha).mpr q))))
theorem zj_icmp_gtN {a b : Nat} {off : Int} {tgt : Nat} (d : decode Y.2.2.1 pc = .ok (.if_icmp .gt off, 3)) (ht : (pc : Int) + off = (tgt : Int)) (ha : a < 2 ^ 31) (hb : b < 2 ^ 31) (kt : b < a → bj_Z I G Y n K ad Q cs sl tgt L st M) (kf : a ≤ b → bj_Z I G Y n K ad Q cs sl (pc + 3) L st M) : bj_Z I G Y n K ad Q cs sl pc L (.int (nI b) :: .int (nI a) :: st) M :=
  zj_icmp_gt d ht (fun h => kt ((nI_ltI hb ha).mp h)) (fun h => kf (Nat.le_of_not_lt (fun q => h ((nI_ltI hb ha).mpr q))))
theorem zj_icmp_leN {a b : Nat} {off : Int} {tgt : Nat} (d : decode Y.2.2.1 pc = .ok (.if_icmp .le off, 3)) (ht : (pc : Int) + off = (tgt : Int)) (ha : a < 2 ^ 31) (hb : b < 2 ^ 31) (kt : a ≤ b → bj_Z I G Y n K ad Q cs sl tgt L st M) (kf : b < a → bj_Z I G Y n K ad Q cs sl (pc + 3) L st M) : bj_Z I G Y n K ad Q cs sl pc L (.int (nI b) :: .int (nI a) :: st) M :=
  zj_icmp_le d ht (fun h => kt ((nI_leI ha hb).mp h)) (fun h => kf (Nat.lt_of_not_le (fun q => h ((nI_leI ha hb).mpr q))))
theorem zj_if_eqN {a : Nat} {off : Int} {tgt : Nat} (d : decode Y.2.2.1 pc = .ok (.ifCond .eq off, 3)) (ht : (pc : Int) + off = (tgt : Int)) (ha : a < 2 ^ 31) (kt : a = 0 → bj_Z I G Y n K ad Q cs sl tgt L st M) (kf : a ≠ 0 → bj_Z I G Y n K ad Q cs sl (pc + 3) L st M) : bj_Z I G Y n K ad Q cs sl pc L (.int (nI a) :: st) M :=
  zj_if_eq d ht (fun h => kt (Classical.byContradiction (fun q => nI_ne0 (Nat.pos_of_ne_zero q) ha h))) (fun h => kf (fun q => h (by rw [q]; exact nI_0)))
theorem zj_if_neN {a : Nat} {off : Int} {tgt : Nat} (d : decode Y.2.2.1 pc = .ok (.ifCond .ne off, 3)) (ht : (pc : Int) + off = (tgt : Int)) (ha : a < 2 ^ 31) (kt : a ≠ 0 → bj_Z I G Y n K ad Q cs sl tgt L st M) (kf : a = 0 → bj_Z I G Y n K ad Q cs sl (pc + 3) L st M) : bj_Z I G Y n K ad Q cs sl pc L (.int (nI a) :: st) M :=
  zj_if_ne d ht (fun h => kt (fun q => h (by rw [q]; exact nI_0))) (fun h => kf (Classical.byContradiction (fun q => nI_ne0 (Nat.pos_of_ne_zero q) ha h)))
theorem zj_if_gtN {a : Nat} {off : Int} {tgt : Nat} (d : decode Y.2.2.1 pc = .ok (.ifCond .gt off, 3)) (ht : (pc : Int) + off = (tgt : Int)) (ha : a < 2 ^ 31) (kt : 0 < a → bj_Z I G Y n K ad Q cs sl tgt L st M) (kf : a = 0 → bj_Z I G Y n K ad Q cs sl (pc + 3) L st M) : bj_Z I G Y n K ad Q cs sl pc L (.int (nI a) :: st) M :=
  zj_if_gt d ht (fun h => kt (Nat.pos_of_ne_zero (fun q => by rw [q, nI_0] at h; exact absurd h (by decide)))) (fun h => kf (Classical.byContradiction (fun q => h (by rw [← nI_0]; exact nI_lt (Nat.pos_of_ne_zero q) ha))))
theorem zj_if_leN {a : Nat} {off : Int} {tgt : Nat} (d : decode Y.2.2.1 pc = .ok (.ifCond .le off, 3)) (ht : (pc : Int) + off = (tgt : Int)) (ha : a < 2 ^ 31) (kt : a = 0 → bj_Z I G Y n K ad Q cs sl tgt L st M) (kf : 0 < a → bj_Z I G Y n K ad Q cs sl (pc + 3) L st M) : bj_Z I G Y n K ad Q cs sl pc L (.int (nI a) :: st) M :=
  zj_if_le d ht (fun h => kt (Classical.byContradiction (fun q => nI_nle (Nat.pos_of_ne_zero q) ha h))) (fun h => kf (Nat.pos_of_ne_zero (fun q => h (by rw [q, nI_0]; decide))))
theorem zj_if_ltN {a : Nat} {off : Int} (d : decode Y.2.2.1 pc = .ok (.ifCond .lt off, 3)) {tgt : Nat} (ht : (pc : Int) + off = (tgt : Int)) (ha : a < 2 ^ 31) (kf : bj_Z I G Y n K ad Q cs sl (pc + 3) L st M) : bj_Z I G Y n K ad Q cs sl pc L (.int (nI a) :: st) M :=
  zj_if_lt d ht (fun h => absurd h (nI_pos ha)) (fun _ => kf)
theorem zj_if_geN {a : Nat} {off : Int} (d : decode Y.2.2.1 pc = .ok (.ifCond .ge off, 3)) {tgt : Nat} (ht : (pc : Int) + off = (tgt : Int)) (ha : a < 2 ^ 31) (kt : bj_Z I G Y n K ad Q cs sl tgt L st M) : bj_Z I G Y n K ad Q cs sl pc L (.int (nI a) :: st) M :=
  zj_if_ge d ht (fun _ => kt) (fun h => absurd (nI_pos' ha) h)
theorem zj_wide {cs' sl' : Nat} (h1 : cs ≤ cs') (h2 : sl ≤ sl') (kk : bj_Z I G Y n K ad Q cs' sl' pc L st M) : bj_Z I G Y n K ad Q cs sl pc L st M :=
  fun p e s m ar be me c A H lo ls hI C hW hS hl => W.widen h1 h2 (kk p e s m ar be me c A H lo ls hI C hW hS hl)
theorem zj_iret {x : Int32} {ty : FieldType} (d : decode Y.2.2.1 pc = .ok (.ireturn, 1)) (hr : Y.2.2.2.2.1 = some ty) (hn : narrow ty (.int x) = .int x) (hc : cs ≤ K.1) (hs : sl ≤ K.2.1) (hq : Q (.inl (some (.int x))) M) : bj_Z I G Y n K ad Q cs sl pc L [.int x] M := by
  intro p e s m ar be me c A H lo ls hI C hW hS hl
  refine W.widen hc hs (bj_mono (W.zret (Qc := fun _ _ o t => o = .returned (some (.int x)) ∧ t.heap = H) (free := A) C.ex C.by (C.rt.trans hr) hn (fun t ht _ => ⟨rfl, ht⟩) hS.2.2 d C.lk) ?_)
  rintro t ⟨o, h1, h2, ⟨ho, hH⟩, Lc, ⟨-, hw, hsm⟩, hL⟩
  exact ⟨o, h1, h2, Or.inl ⟨_, M, Lc, ho, hq, by rw [hH]; exact hW, hS.F hH, hw, hsm, hL⟩⟩
theorem zj_lald {x : Int32} {k j N : Nat} {cA : ClassId} {f : Nat → Int64} (d : decode Y.2.2.1 pc = .ok (.laload, 1)) (t : Nat) (ht : G.2.2.2.1[t]? = some (cA, .long)) (hM : M k = some (.inl (cA, N, .inr (.inl f)))) (hx : x = nI j) (hj : j < N) (hN : N < 2 ^ 31)
    (kk : bj_Z I G Y n K ad Q cs sl (pc + 1) L (.long (f j) :: st) M) : bj_Z I G Y n K ad Q cs sl pc L (.int x :: .ref (ad k) :: st) M := by
  subst hx
  intro p e s m ar be me c A H lo ls hI C hW hS hl
  have e9 : (nI j).toNatClampNeg = j := nI_clamp (Nat.lt_trans hj hN)
  refine va_lald (ws := [(ad k, .inl (cA, N, .inr (.inl f)))]) C.ex C.by C.k (bj_one (hW.1 k _ hM)) 0 t rfl ht (vp_in_nI hj hN) d ?_
  rw [e9]
  exact kk p e s m ar be me c A H lo ls hI C hW hS hl
theorem zj_new {C : String} {T : u_T} {N ci index : Nat} {fs : List Value} {ty0 : Nat → FieldType} (d : decode Y.2.2.1 pc = .ok (.new index, 3)) (hin : ∀ w ∈ u_ws C T N, w ∈ G.2.2.2.2) (hty : ∀ k, k < N → parseFieldDescriptor (T k).2.2.1 = some (ty0 k)) (hc : G.2.2.1[ci]? = some (C, T, N)) (w1 : Cond.classLink Y.1 index C ∈ G.2.2.2.2) (w2 : Cond.instantiable C N ∈ G.2.2.2.2) (w3 : Cond.initialized C ∈ G.2.2.2.2)
    (hfs : ∀ j, j < N → defaultValue (ty0 j) = vp_V fs j) (h1 : cs + 1 ≤ K.1 + K.2.2.1) (h2 : sl + N ≤ K.2.1 + K.2.2.2)
    (kk : ∀ q : Nat, M q = none → bj_Z I G Y n K (fun k => k) Q (cs + 1) (sl + N) (pc + 3) L (.ref q :: st) (va_up M q (some (.inr (ci, fs))))) : bj_Z I G Y n K (fun k => k) Q cs sl pc L st M := by
  intro p e s m ar be me c A H lo ls hI Cx hW hS hl
  have hKn := Cx.k.1 ci _ hc
  refine W.newcK Cx.ex Cx.by Cx.ow (Cx.ts _ w1) (Cx.ts _ w2) (Cx.ts _ w3) rfl d h1 h2 hKn.2.1 rfl fun H1 kC hkC e1 z1 o1 => ?_
  exact kk H.size (bj_fresh hW (Nat.le_refl _)) p e s m ar be me c A H1 lo ls hI Cx (hW.push ⟨_, hc, (u_born ty0 Cx.ts hin hKn hkC e1 hty).to hfs⟩ o1 (Cx.up _ hS.1)) (bj_S_push hS (by omega) o1) hl
theorem zj_newa {atype : ArrayType} {x : Int32} {N : Nat} {cA : ClassId} {a0 : vp_A} (d : decode Y.2.2.1 pc = .ok (.newarray atype, 2)) (t : Nat) (ht : G.2.2.2.1[t]? = some (cA, newarray.typeOf atype)) (w : Cond.arrayClass (newarray.typeOf atype) ∈ G.2.2.2.2) (ha : ∀ cA : ClassId, vp_cell cA a0 = arrV cA N (fun _ => defaultValue (newarray.typeOf atype))) (hx : x = nI N) (hN : N < 2 ^ 31) (hb : N * componentBytes (newarray.typeOf atype) ≤ 536870912) (h1 : cs + 1 ≤ K.1 + K.2.2.1) (h2 : sl + N ≤ K.2.1 + K.2.2.2)
    (kk : ∀ q : Nat, M q = none → bj_Z I G Y n K (fun k => k) Q (cs + 1) (sl + N) (pc + 2) L (.ref q :: st) (va_up M q (some (.inl (cA, a0))))) : bj_Z I G Y n K (fun k => k) Q cs sl pc L (.int x :: st) M := by
  subst hx
  intro p e s m ar be me c A H lo ls hI Cx hW hS hl
  refine va_newaK Cx.ex Cx.by (Cx.ts _ w) rfl d rfl (nI_pos hN) (nI_clamp hN) hb h1 h2 rfl fun H1 c' e1 z1 o1 hAr hNm => ?_
  have ec : c' = cA := bj_acls Cx.k ht hNm
  subst ec
  refine kk H.size (bj_fresh hW (Nat.le_refl _)) p e s m ar be me c A H1 lo ls hI Cx (hW.push ?_ o1 (Cx.up _ hS.1)) (bj_S_push hS (by omega) o1) hl
  show H1[H.size]? = some (vp_cell _ _)
  rw [ha]
  exact e1
end R
theorem zj_run {I : zj_I} {G : bj_G} {Y Yk : bj_Y} {n nk : Nat} {K Kk : bj_K} {ad : Nat → Nat} {Qk : bj_R → bj_M → Prop} {cs sl : Nat} {M : bj_M} {A : Nat → Prop} {p : Program} {e : Env} {s U : State} {m mk : MethodId} {ar : Array Value} {be : List Frame} {me : Method} {c : Code} {lo : List Loc} {av : List Value} {g : JFrame} {ig : Instr}
    (X : Stand p G.1 e (bj_room n K) s m ar be me c U lo cs sl) (C : bj_C G Y A p s m ar me c) (hW : bj_W G ad M A U.heap) (hS : va_S A s.heap U.heap lo) (hT : bj_ZT I G Yk nk Kk ad Qk av M) (hst0 : zj_st I) (hI : I s A)
    (hH : bj_H Yk s mk) (hown : Yk.1 = Yk.2.1.cls) (hpl : plainFor Yk.2.1 = true) (hav : ∀ v ∈ av, v.category = 1) (hlen : av.length ≤ Yk.2.2.2.1) (hn : nk + 1 ≤ n) (hml : Yk.2.2.2.1 ≤ 17)
    (hc : cs + (Kk.1 + Kk.2.2.1) ≤ K.1 + K.2.2.1) (hs : sl + (Kk.2.1 + Kk.2.2.2) ≤ K.2.1 + K.2.2.2)
    (hg : g.method = m) (hsize : g.locals.size = c.maxLocals) (hdg : decode c.code g.pc = .ok (ig, 3)) (hroom : 2 * g.monitorRoom + (g.stack.map fun v => v.category).sum ≤ 8) :
    ∃ t : State, (∀ acts, Steps p.tables e be (doInvoke e (U.setTop g) acts mk av.toArray).1 t) ∧
      ((∃ (v : Option Value) (M' : bj_M) (T' : State) (L' : List Loc), Qk (.inl v) M' ∧ bj_W G ad M' A T'.heap ∧ va_S A s.heap T'.heap (lo ++ L') ∧ Stand p G.1 e (bj_room n K) s m ar be me c T' (lo ++ L') (cs + Kk.1) (sl + Kk.2.1) ∧ t = T'.setTop { g with pc := g.pc + 3, stack := v.toList ++ g.stack }) ∨
       (∃ (x : Addr) (E : String) (ce : Cell) (M' : bj_M) (T' : State) (L' : List Loc), Qk (.inr E) M' ∧ bj_W G ad M' A T'.heap ∧ va_S A s.heap T'.heap (lo ++ L') ∧ T'.heap[x]? = some ce ∧ ce.vm = .none ∧ s.vm.findClass E = some ce.cls ∧ Stand p G.1 e (bj_room n K) s m ar be me c T' (lo ++ L') (cs + Kk.2.2.1) (sl + Kk.2.2.2) ∧ t = (T'.setTop g).pushFrame (.throwing x))) := by
  obtain ⟨hnm, methk, ck, h1, h2, h3, h4, h5, h6, h7, h8⟩ := hH
  have hal : s.vm.Alike U.vm := X.warmed.alike
  have hmU : U.vm.method? mk = some methk := by rw [hal.method?]; exact h1
  have hpk : U.plainMethod mk := State.plainMethod.of_named hpl (X.named hnm) hmU
  obtain ⟨Yst, hst⟩ := X.into (g := g) hg hsize hdg (mk := mk) (methk := methk) (ck := ck) av.toArray (R' := bj_room nk Kk) hmU h2 h6 hpk (by show nk + 1 ≤ n; omega)
    (by show 2 * g.monitorRoom + (g.stack.map fun v => v.category).sum + (ck.maxLocals + 11) + 36 * nk ≤ 36 * n; rw [h4]; omega) hc hs
  have hheap : (U.calling g mk av.toArray).heap = U.heap := rfl
  have Ck : bj_C G Yk A p (U.calling g mk av.toArray) mk av.toArray methk ck := by
    refine ⟨C.ex, h3, h4, ?_, h5, h6, (name_of_methodNamed hnm h1).1, h7, ?_, fun q hq => C.up q (Nat.le_trans hS.1 hq)⟩
    · show U.vm.findClass Yk.1 = some mk.cls
      rw [hal.findClass, hown]
      exact findClass_of_methodNamed hnm
    · exact C.fc.go X.warmed hS.1 hS.2.1
  have w := hT p e (U.calling g mk av.toArray) mk av.toArray (.java g :: be) methk ck A U.heap [] _ (hst0 s (U.calling g mk av.toArray) A hI hal hS.1 hS.2.1) Ck hW va_S.rf (bj_start av hav hlen)
  obtain ⟨t, hs1, o, hrun, hend, hq⟩ := w ((U.setTop g).pushFrame (.java (entryFrame mk av.toArray ck.maxLocals))) rfl Yst
  refine ⟨t, fun acts => ?_, ?_⟩
  · rw [hst acts, h4, entry_eq mk av hav]
    rw [h4, entry_eq mk av hav] at hs1
    exact bj_wk hs1
  · rcases hq with ⟨v, M', L', rfl, hq1, hq2, hF, hw, hsm, hL⟩ | ⟨x, E, ce, M', L', rfl, hq1, hq2, hF, hce, hcv, hcl, hw, hsm, hL⟩
    · obtain ⟨T', X', -, -, ht⟩ := X.outOf hg hdg hend hw hsm
      have hh : t.heap = T'.heap := by rw [ht]; rfl
      refine Or.inl ⟨v, M', T', L', hq1, by rw [← hh]; exact hq2, ?_, X', ht⟩
      rw [← hh]
      exact ⟨Nat.le_trans hS.1 hF.1, fun q h9 hA => (hF.2 q (Nat.lt_of_lt_of_le h9 hS.1) hA).trans (hS.2.1 q h9 hA), fun q hq => by
        rcases List.mem_append.mp hq with h | h
        · exact hS.2.2 q h
        · exact hL q h⟩
    · obtain ⟨T', X', -, -, ht⟩ := X.outOfThrown hg hend hw hsm
      have hh : t.heap = T'.heap := by rw [ht]; rfl
      refine Or.inr ⟨x, E, ce, M', T', L', hq1, by rw [← hh]; exact hq2, ?_, by rw [← hh]; exact hce, hcv, ?_, X', ht⟩
      · rw [← hh]
        exact ⟨Nat.le_trans hS.1 hF.1, fun q h9 hA => (hF.2 q (Nat.lt_of_lt_of_le h9 hS.1) hA).trans (hS.2.1 q h9 hA), fun q hq => by
          rcases List.mem_append.mp hq with h | h
          · exact hS.2.2 q h
          · exact hL q h⟩
      · have h9 : U.vm.findClass E = some ce.cls := hcl
        rw [hal.findClass] at h9
        exact h9
section Rows
variable {I : zj_I} {G : bj_G} {Y Yk : bj_Y} {n nk : Nat} {K Kk : bj_K} {ad : Nat → Nat} {Q Qk : bj_R → bj_M → Prop} {cs sl pc index na : Nat} {L : List (Option Value)} {st st0 av as : List Value} {M : bj_M}
theorem zj_back {p : Program} {e : Env} {s T U : State} {m mk : MethodId} {ar : Array Value} {be : List Frame} {me : Method} {c : Code} {A : Nat → Prop} {lo : List Loc} {ls : Array Slot} {ig : Instr} {g0 : JFrame}
    (X : Stand p G.1 e (bj_room n K) s m ar be me c U lo cs sl) (C : bj_C G Y A p s m ar me c) (hW : bj_W G ad M A U.heap) (hS : va_S A s.heap U.heap lo) (hl : bj_L ls Y.2.2.2.1 L) (hT : bj_ZT I G Yk nk Kk ad Qk av M) (hst0 : zj_st I) (hI : I s A) (hH : bj_H Yk s mk) (ok : bj_ok Yk av nk n K Kk cs sl st)
    (hdg : decode c.code pc = .ok (ig, 3)) (step : ∀ target, (∀ acts, Steps p.tables e be (doInvoke e (U.setTop (F0 m pc ls st)) acts mk av.toArray).1 target) → Steps p.tables e be (T.setTop g0) target)
    (kr : ∀ v M', Qk (.inl v) M' → bj_Z I G Y n K ad Q (cs + Kk.1) (sl + Kk.2.1) (pc + 3) L (v.toList ++ st) M') (kx : ∀ E M', ¬ Qk (.inr E) M') : ∃ t, Steps p.tables e be (T.setTop g0) t ∧ bj_Q G ad Q K A be s t := by
  obtain ⟨o1, o2, o3, o4, o5, o6, o7, o8, o9, -⟩ := ok
  obtain ⟨t, ht, h⟩ := zj_run (g := F0 m pc ls st) X C hW hS hT hst0 hI hH o1 o2 o3 o4 o5 o6 o7 o8 rfl (hl.1.1.trans C.ml.symm) hdg (by show 2 * 0 + (st.map fun v => v.category).sum ≤ 8; omega)
  have h0 := step t ht
  rcases h with ⟨v, M', T', L', q1, q2, q3, q4, rfl⟩ | ⟨x, E, ce, M', T', L', q1, q2, q3, q5, q6, q7, q4, rfl⟩
  · obtain ⟨t2, a1, b1⟩ := kr v M' q1 p e s m ar be me c A T'.heap _ ls hI C q2 q3 hl T' rfl q4
    exact ⟨t2, h0.trans a1, b1⟩
  · exact absurd q1 (kx E M')
theorem zj_callS (d : decode Y.2.2.1 pc = .ok (.invokestatic index, 3)) (hst0 : zj_st I) (hT : bj_ZT I G Yk nk Kk ad Qk av M) (w1 : Cond.methodLink Y.1 index Yk.2.1 ∈ G.2.2.2.2) (w2 : Cond.static Yk.2.1 ∈ G.2.2.2.2) (w3 : Cond.initialized Yk.2.1.cls ∈ G.2.2.2.2) (w4 : bj_cw Yk G.2.2.2.2)
    (hlen : (parseMethodDescriptor Yk.2.1.desc).map (fun d => d.parameters.length) = some av.length) (ok : bj_ok Yk av nk n K Kk cs sl st) (hst : st0 = av.reverse ++ st)
    (kr : ∀ v M', Qk (.inl v) M' → bj_Z I G Y n K ad Q (cs + Kk.1) (sl + Kk.2.1) (pc + 3) L (v.toList ++ st) M') (kx : ∀ E M', ¬ Qk (.inr E) M') : bj_Z I G Y n K ad Q cs sl pc L st0 M := by
  subst hst
  intro p e s m ar be me c A H lo ls hI C hW hS hl T hTh X
  subst hTh
  obtain ⟨mk, hH⟩ := bj_has w4 C.ts
  obtain ⟨hnm, methk, ck, h1, h2, h3, h4, h5, h6, h7, h8⟩ := id hH
  have hstat : methk.isStatic = true := Cond.static_spec hnm h1 (C.ts _ w2)
  obtain ⟨kP, hkP, -⟩ := className_of_methodNamed hnm
  have hinit : kP.init = .initialized := Cond.initialized_spec (findClass_of_methodNamed hnm) hkP (C.ts _ w3)
  have hln : av.length = methk.sig.parameters.length := by rw [h8] at hlen; exact (Option.some.inj hlen).symm
  have hdg : decode c.code pc = .ok (.invokestatic index, 3) := by rw [C.by]; exact d
  obtain ⟨vm₁, X₁, hstep⟩ := X.invokestatic C.ex C.ow (C.ts _ w1) hnm h1 hstat hkP hinit ok.2.2.2.2.2.2.2.2.2 (g := F0 m pc ls (av.reverse ++ st)) rfl (argsL := av) (rest := st) hln rfl hdg
  exact zj_back X₁ C hW hS hl hT hst0 hI hH ok hdg hstep kr kx
theorem zj_callV {k ci : Nat} {fs as : List Value} {r : vw_C} (d : decode Y.2.2.1 pc = .ok (.invokevirtual index, 3)) (hst0 : zj_st I) (hT : bj_ZT I G Yk nk Kk ad Qk (.ref (ad k) :: as) M) (w1 : Cond.methodLink Y.1 index Yk.2.1 ∈ G.2.2.2.2) (w2 : Cond.instanceMethod Yk.2.1 ∈ G.2.2.2.2) (w3 : Cond.selects Yk.2.1.cls Yk.2.1 Yk.2.1 ∈ G.2.2.2.2) (w4 : bj_cw Yk G.2.2.2.2)
    (hlen : (parseMethodDescriptor Yk.2.1.desc).map (fun d => d.parameters.length) = some as.length) (ok : bj_ok Yk (.ref (ad k) :: as) nk n K Kk cs sl st) (hst : st0 = as.reverse ++ .ref (ad k) :: st) (hM : M k = some (.inr (ci, fs))) (hc : G.2.2.1[ci]? = some r) (hr : r.1 = Yk.2.1.cls)
    (kr : ∀ v M', Qk (.inl v) M' → bj_Z I G Y n K ad Q (cs + Kk.1) (sl + Kk.2.1) (pc + 3) L (v.toList ++ st) M') (kx : ∀ E M', ¬ Qk (.inr E) M') : bj_Z I G Y n K ad Q cs sl pc L st0 M := by
  subst hst
  intro p e s m ar be me c A H lo ls hI C hW hS hl T hTh X
  subst hTh
  obtain ⟨mk, hH⟩ := bj_has w4 C.ts
  obtain ⟨hnm, methk, ck, h1, h2, h3, h4, h5, h6, h7, h8⟩ := id hH
  obtain ⟨mk2, meth2, hnm2, h12, hst2, hab⟩ := Cond.instanceMethod_spec (C.ts _ w2)
  cases hnm.symm.trans hnm2
  cases h1.symm.trans h12
  obtain ⟨r', hr', cellB, g1, g2, g3, -⟩ := hW.1 k _ hM
  have hfc : s.vm.findClass Yk.2.1.cls = some cellB.cls := by
    rw [g2, ← hr]
    exact (C.k.1 ci r hc).2.1
  obtain ⟨c2, r2, m2, q1, q2, q3, q4, kP, hkP, hkPi⟩ := Cond.selects_spec (C.ts _ w3)
  cases hfc.symm.trans q1
  cases (State.methodFound?_of_named hnm ok.2.2.2.2.2.2.2.2.2).symm.trans q2
  cases hnm.symm.trans q3
  have hselP : selectMethod e.platform s.vm cellB.cls mk = .method mk := by rw [Launch.admits_selectMethod X.admits]; exact q4
  have hln : as.length = methk.sig.parameters.length := by rw [h8] at hlen; exact (Option.some.inj hlen).symm
  have hdg : decode c.code pc = .ok (.invokevirtual index, 3) := by rw [C.by]; exact d
  obtain ⟨vm₁, X₁, hstep⟩ := X.invokevirtual C.ex C.ow (C.ts _ w1) hnm h1 hst2 hkP hkPi ok.2.2.2.2.2.2.2.2.2 (a := ad k) (cell := cellB) g1 (fun z h => by rw [g3] at h; cases h) hselP h1 hab hkP hkPi (g := F0 m pc ls (as.reverse ++ .ref (ad k) :: st)) rfl (argsL := as) (rest := st) hln rfl hdg
  exact zj_back X₁ C hW hS hl hT hst0 hI hH ok hdg hstep kr kx
theorem zj_callI {k : Nat} {as : List Value} (d : decode Y.2.2.1 pc = .ok (.invokespecial index, 3)) (hst0 : zj_st I) (hT : bj_ZT I G Yk nk Kk ad Qk (.ref k :: as) M) (w1 : Cond.methodLink Y.1 index Yk.2.1 ∈ G.2.2.2.2) (w2 : Cond.instanceMethod Yk.2.1 ∈ G.2.2.2.2) (w4 : Cond.code Yk.2.1 Yk.2.2.1 Yk.2.2.2.1 none ∈ G.2.2.2.2) (hh : Yk.2.2.2.2.2 = []) (hrt : Yk.2.2.2.2.1 = none) (hnm0 : Yk.2.1.name = "<init>")
    (hlen : (parseMethodDescriptor Yk.2.1.desc).map (fun d => d.parameters.length) = some as.length) (ok : bj_ok Yk (.ref k :: as) nk n K Kk cs sl st) (hst : st0 = as.reverse ++ .ref k :: st)
    (kr : ∀ v M', Qk (.inl v) M' → bj_Z I G Y n K ad Q (cs + Kk.1) (sl + Kk.2.1) (pc + 3) L (v.toList ++ st) M') (kx : ∀ E M', ¬ Qk (.inr E) M') : bj_Z I G Y n K ad Q cs sl pc L st0 M := by
  subst hst
  intro p e s m ar be me c A H lo ls hI C hW hS hl T hTh X
  subst hTh
  obtain ⟨mk, hH⟩ := bj_has (Yk := Yk) (TB := G.2.2.2.2) (Or.inl ⟨hh, by rw [hrt]; exact w4⟩) C.ts
  obtain ⟨hnm, methk, ck, h1, h2, h3, h4, h5, h6, h7, h8⟩ := id hH
  have hpl : e.platform.magicAccessors = ({} : Platform).magicAccessors := by rw [X.admits.platform]
  have hdg : decode c.code pc = .ok (.invokespecial index, 3) := by rw [C.by]; exact d
  obtain ⟨mk2, methM, cM, kP, vm₁, hnamed, -, -, -, -, -, -, -, hW₁, hstep⟩ := Steps.initColdArgs (e := e) X.here C.ex X.warmed hpl C.ow hnm0 ok.2.2.2.2.2.2.2.2.2 (C.ts _ w1) (C.ts _ w2) (C.ts _ w4) (f := F0 m pc ls (as.reverse ++ .ref k :: st)) rfl (a := k) (argsL := as) (rest := st) (fun sig h => by rw [h] at hlen; exact (Option.some.inj hlen).symm) rfl hdg
  cases hnm.symm.trans hnamed
  exact zj_back (X.noted hW₁) C hW hS hl hT hst0 hI hH ok hdg hstep kr kx
theorem zj_cv {k ci : Nat} {fs : List Value} {r : vw_C} (h : bj_sv G.2.2.2.2 Y.1 index Yk na) (d : decode Y.2.2.1 pc = .ok (.invokevirtual index, 3)) (hst0 : zj_st I) (hT : bj_ZT I G Yk nk Kk ad Qk (.ref (ad k) :: as) M) (ha : as.length = na) (hc1 : bj_c1 as) (hn : nk + 1 ≤ n) (hKc : cs + (Kk.1 + Kk.2.2.1) ≤ K.1 + K.2.2.1) (hKs : sl + (Kk.2.1 + Kk.2.2.2) ≤ K.2.1 + K.2.2.2) (h8 : (st.map fun v => v.category).sum ≤ 8) (hst : st0 = as.reverse ++ .ref (ad k) :: st) (hM : M k = some (.inr (ci, fs))) (hc : G.2.2.1[ci]? = some r) (hr : r.1 = Yk.2.1.cls)
    (kr : ∀ v M', Qk (.inl v) M' → bj_Z I G Y n K ad Q (cs + Kk.1) (sl + Kk.2.1) (pc + 3) L (v.toList ++ st) M') (kx : ∀ E M', ¬ Qk (.inr E) M') : bj_Z I G Y n K ad Q cs sl pc L st0 M := by
  obtain ⟨h1, h2, h3, h4, h5, h6, h7, h8', h9, h10⟩ := h
  refine zj_callV d hst0 hT h1 h2 h3 h5 (by rw [ha]; exact h6) ⟨h7, h8', ?_, by rw [List.length_cons, ha]; exact h4, hn, h10, hKc, hKs, h8, h9⟩ hst hM hc hr kr kx
  intro v hv
  rcases List.mem_cons.mp hv with rfl | hv
  · rfl
  · exact hc1.of v hv
theorem zj_cs (h : bj_ss G.2.2.2.2 Y.1 index Yk na) (d : decode Y.2.2.1 pc = .ok (.invokestatic index, 3)) (hst0 : zj_st I) (hT : bj_ZT I G Yk nk Kk ad Qk as M) (ha : as.length = na) (hc1 : bj_c1 as) (hn : nk + 1 ≤ n) (hKc : cs + (Kk.1 + Kk.2.2.1) ≤ K.1 + K.2.2.1) (hKs : sl + (Kk.2.1 + Kk.2.2.2) ≤ K.2.1 + K.2.2.2) (h8 : (st.map fun v => v.category).sum ≤ 8) (hst : st0 = as.reverse ++ st)
    (kr : ∀ v M', Qk (.inl v) M' → bj_Z I G Y n K ad Q (cs + Kk.1) (sl + Kk.2.1) (pc + 3) L (v.toList ++ st) M') (kx : ∀ E M', ¬ Qk (.inr E) M') : bj_Z I G Y n K ad Q cs sl pc L st0 M := by
  obtain ⟨h1, h2, h3, h4, h5, h6, h7, h8', h9, h10⟩ := h
  exact zj_callS d hst0 hT h1 h2 h3 h5 (by rw [ha]; exact h6) ⟨h7, h8', hc1.of, by rw [ha]; exact h4, hn, h10, hKc, hKs, h8, h9⟩ hst kr kx
theorem zj_ci {k : Nat} (h : bj_si G.2.2.2.2 Y.1 index Yk na) (d : decode Y.2.2.1 pc = .ok (.invokespecial index, 3)) (hst0 : zj_st I) (hT : bj_ZT I G Yk nk Kk ad Qk (.ref k :: as) M) (ha : as.length = na) (hc1 : bj_c1 as) (hn : nk + 1 ≤ n) (hKc : cs + (Kk.1 + Kk.2.2.1) ≤ K.1 + K.2.2.1) (hKs : sl + (Kk.2.1 + Kk.2.2.2) ≤ K.2.1 + K.2.2.2) (h8 : (st.map fun v => v.category).sum ≤ 8) (hst : st0 = as.reverse ++ .ref k :: st)
    (kr : ∀ v M', Qk (.inl v) M' → bj_Z I G Y n K ad Q (cs + Kk.1) (sl + Kk.2.1) (pc + 3) L (v.toList ++ st) M') (kx : ∀ E M', ¬ Qk (.inr E) M') : bj_Z I G Y n K ad Q cs sl pc L st0 M := by
  obtain ⟨h1, h2, h3, e1, e2, e3, h4, h5, h6, h7, h8', h9, h10⟩ := h
  refine zj_callI d hst0 hT h1 h2 h3 e1 e2 e3 (by rw [ha]; exact h6) ⟨h7, h8', ?_, by rw [List.length_cons, ha]; exact h4, hn, h10, hKc, hKs, h8, h9⟩ hst kr kx
  intro v hv
  rcases List.mem_cons.mp hv with rfl | hv
  · rfl
  · exact hc1.of v hv
end Rows
section SC
variable {b N : Nat} {xs : Nat → Int32} {G : bj_G} {Y : bj_Y} {n : Nat} {K : bj_K} {ad : Nat → Nat} {Q : bj_R → bj_M → Prop} {cs sl pc : Nat} {L : List (Option Value)} {st : List Value} {M M' : bj_M}
theorem zj_sld {j : Nat} (d : decode Y.2.2.1 pc = .ok (.iaload, 1)) (hj : j < N) (hN : N < 2 ^ 31) (kk : bj_Z (sc_I b N xs) G Y n K ad Q cs sl (pc + 1) L (.int (xs j) :: st) M) : bj_Z (sc_I b N xs) G Y n K ad Q cs sl pc L (.int (nI j) :: .ref b :: st) M :=
  fun p e s m ar be me c A H lo ls hI C hW hS hl => va_sld C.ex C.by hI.1 hI.2.1 hI.2.2 hS (vp_in_nI hj hN) d (by
    rw [nI_clamp (Nat.lt_trans hj hN)]
    exact kk p e s m ar be me c A H lo ls hI C hW hS hl)
theorem zj_slen (d : decode Y.2.2.1 pc = .ok (.arraylength, 1)) (kk : bj_Z (sc_I b N xs) G Y n K ad Q cs sl (pc + 1) L (.int (nI N) :: st) M) : bj_Z (sc_I b N xs) G Y n K ad Q cs sl pc L (.ref b :: st) M :=
  fun p e s m ar be me c A H lo ls hI C hW hS hl => va_slen C.ex C.by hI.1 hI.2.1 hI.2.2 hS d (kk p e s m ar be me c A H lo ls hI C hW hS hl)
theorem zj_ren {I : zj_I} {φ : bj_R → Prop} (hM : ∀ (k : Nat) (x : va_E), M' k = some x → M (ad k) = some x) (hi : ∀ i j : Nat, M' i ≠ none → M' j ≠ none → ad i = ad j → i = j)
    (h : bj_Z I G Y n K ad (fun r _ => φ r) cs sl pc L st M') : bj_Z I G Y n K (fun k => k) (fun r _ => φ r) cs sl pc L st M := by
  intro p e s m ar be me c A H lo ls hI C hW hS hl T hT X
  have hne : ∀ k, M' k ≠ none → ∃ x, M' k = some x := fun k hk => by
    cases hx : M' k with
    | none => exact absurd hx hk
    | some x => exact ⟨x, rfl⟩
  have hW' : bj_W G ad M' A H := ⟨fun k x hk => hW.1 (ad k) x (hM k x hk), hi, fun k hk => by
    obtain ⟨x, hx⟩ := hne k hk
    exact hW.2.2 (ad k) (by rw [hM k x hx]; exact fun q => by cases q)⟩
  obtain ⟨t, a1, o, b1, b2, b3⟩ := h p e s m ar be me c A H lo ls hI C hW' hS hl T hT X
  refine ⟨t, a1, o, b1, b2, ?_⟩
  have hz : bj_W G (fun k => k) (fun _ => none) A t.heap := ⟨fun k x hk => (by cases hk), fun i j hi2 _ _ => absurd rfl hi2, fun k hk => absurd rfl hk⟩
  rcases b3 with ⟨v, M1, L1, q1, q2, -, q4⟩ | ⟨x, E, ce, M1, L1, q1, q2, -, q4⟩
  · exact Or.inl ⟨v, _, L1, q1, q2, hz, q4⟩
  · exact Or.inr ⟨x, E, ce, _, L1, q1, q2, hz, q4⟩
end SC
end BZ
