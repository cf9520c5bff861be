/-! the judgement's rows: instructions that touch no cell (written by gen/rows.py) -/
section BR
variable {G : bj_G} {Y : bj_Y} {n : Nat} {K : bj_K} {ad : Nat → Nat} {Q : bj_R → bj_M → Prop} {cs sl pc : Nat} {L : List (Option Value)} {st : List Value} {M : bj_M}
theorem bj_iconst {v : Int32} {z : Int} (d : decode Y.2.2.1 pc = .ok (.iconst z, 1)) (hv : Int32.ofInt z = v) (kk : bj_S G Y n K ad Q cs sl (pc + 1) L (.int v :: st) M) : bj_S G Y n K ad Q cs sl pc L st M :=
  fun p e s m ar be me c A H lo ls C hW hS hl => lv_iconst C.ex C.by d hv (kk p e s m ar be me c A H lo ls C hW hS hl)
theorem bj_bipush {v : Int32} {z : Int} (d : decode Y.2.2.1 pc = .ok (.bipush z, 2)) (hv : (Int8.ofInt z).toInt32 = v) (kk : bj_S G Y n K ad Q cs sl (pc + 2) L (.int v :: st) M) : bj_S G Y n K ad Q cs sl pc L st M :=
  fun p e s m ar be me c A H lo ls C hW hS hl => lv_bipush C.ex C.by d hv (kk p e s m ar be me c A H lo ls C hW hS hl)
theorem bj_sipush {v : Int32} {z : Int} (d : decode Y.2.2.1 pc = .ok (.sipush z, 3)) (hv : (Int16.ofInt z).toInt32 = v) (kk : bj_S G Y n K ad Q cs sl (pc + 3) L (.int v :: st) M) : bj_S G Y n K ad Q cs sl pc L st M :=
  fun p e s m ar be me c A H lo ls C hW hS hl => lv_sipush C.ex C.by d hv (kk p e s m ar be me c A H lo ls C hW hS hl)
theorem bj_lconst {v : Int64} {z : Fin 2} (d : decode Y.2.2.1 pc = .ok (.lconst z, 1)) (hv : Int64.ofNat (z : Nat) = v) (kk : bj_S G Y n K ad Q cs sl (pc + 1) L (.long v :: st) M) : bj_S G Y n K ad Q cs sl pc L st M :=
  fun p e s m ar be me c A H lo ls C hW hS hl => lv_lconst C.ex C.by d hv (kk p e s m ar be me c A H lo ls C hW hS hl)
theorem bj_iload_n {i : Nat} {x : Int32} {z : Fin 4} (d : decode Y.2.2.1 pc = .ok (.iload_n z, 1)) (hi : (z : Nat) = i) (hx : L[i]? = some (some (.int x))) (kk : bj_S G Y n K ad Q cs sl (pc + 1) L (.int x :: st) M) : bj_S G Y n K ad Q cs sl pc L st M :=
  fun p e s m ar be me c A H lo ls C hW hS hl => lv_iload_n C.ex C.by d hi (hl.val hx) (kk p e s m ar be me c A H lo ls C hW hS hl)
theorem bj_iload {i : Nat} {x : Int32} (d : decode Y.2.2.1 pc = .ok (.iload i, 2)) (hx : L[i]? = some (some (.int x))) (kk : bj_S G Y n K ad Q cs sl (pc + 2) L (.int x :: st) M) : bj_S G Y n K ad Q cs sl pc L st M :=
  fun p e s m ar be me c A H lo ls C hW hS hl => lv_iload C.ex C.by d (hl.val hx) (kk p e s m ar be me c A H lo ls C hW hS hl)
theorem bj_istore_n {i : Nat} {x : Int32} {z : Fin 4} {L' : List (Option Value)} (d : decode Y.2.2.1 pc = .ok (.istore_n z, 1)) (hi : (z : Nat) = i) (hn : i < Y.2.2.2.1) (hL : L.set i (some (.int x)) = L') (kk : bj_S G Y n K ad Q cs sl (pc + 1) L' st M) : bj_S G Y n K ad Q cs sl pc L (.int x :: st) M :=
  fun p e s m ar be me c A H lo ls C hW hS hl => lv_istore_n C.ex C.by d hi hl.has hn rfl (fun ls' h' => kk p e s m ar be me c A H lo ls' C hW hS (hl.store rfl hn hL h'))
theorem bj_istore {i : Nat} {x : Int32} {L' : List (Option Value)} (d : decode Y.2.2.1 pc = .ok (.istore i, 2)) (hn : i < Y.2.2.2.1) (hL : L.set i (some (.int x)) = L') (kk : bj_S G Y n K ad Q cs sl (pc + 2) L' st M) : bj_S G Y n K ad Q cs sl pc L (.int x :: st) M :=
  fun p e s m ar be me c A H lo ls C hW hS hl => lv_istore C.ex C.by d hl.has hn rfl (fun ls' h' => kk p e s m ar be me c A H lo ls' C hW hS (hl.store rfl hn hL h'))
theorem bj_aload_n {i : Nat} {x : Nat} {z : Fin 4} (d : decode Y.2.2.1 pc = .ok (.aload_n z, 1)) (hi : (z : Nat) = i) (hx : L[i]? = some (some (.ref x))) (kk : bj_S G Y n K ad Q cs sl (pc + 1) L (.ref x :: st) M) : bj_S G Y n K ad Q cs sl pc L st M :=
  fun p e s m ar be me c A H lo ls C hW hS hl => lv_aload_n C.ex C.by d hi (hl.val hx) (kk p e s m ar be me c A H lo ls C hW hS hl)
theorem bj_aload {i : Nat} {x : Nat} (d : decode Y.2.2.1 pc = .ok (.aload i, 2)) (hx : L[i]? = some (some (.ref x))) (kk : bj_S G Y n K ad Q cs sl (pc + 2) L (.ref x :: st) M) : bj_S G Y n K ad Q cs sl pc L st M :=
  fun p e s m ar be me c A H lo ls C hW hS hl => lv_aload C.ex C.by d (hl.val hx) (kk p e s m ar be me c A H lo ls C hW hS hl)
theorem bj_astore_n {i : Nat} {x : Nat} {z : Fin 4} {L' : List (Option Value)} (d : decode Y.2.2.1 pc = .ok (.astore_n z, 1)) (hi : (z : Nat) = i) (hn : i < Y.2.2.2.1) (hL : L.set i (some (.ref x)) = L') (kk : bj_S G Y n K ad Q cs sl (pc + 1) L' st M) : bj_S G Y n K ad Q cs sl pc L (.ref x :: st) M :=
  fun p e s m ar be me c A H lo ls C hW hS hl => lv_astore_n C.ex C.by d hi hl.has hn rfl (fun ls' h' => kk p e s m ar be me c A H lo ls' C hW hS (hl.store rfl hn hL h'))
theorem bj_astore {i : Nat} {x : Nat} {L' : List (Option Value)} (d : decode Y.2.2.1 pc = .ok (.astore i, 2)) (hn : i < Y.2.2.2.1) (hL : L.set i (some (.ref x)) = L') (kk : bj_S G Y n K ad Q cs sl (pc + 2) L' st M) : bj_S G Y n K ad Q cs sl pc L (.ref x :: st) M :=
  fun p e s m ar be me c A H lo ls C hW hS hl => lv_astore C.ex C.by d hl.has hn rfl (fun ls' h' => kk p e s m ar be me c A H lo ls' C hW hS (hl.store rfl hn hL h'))
theorem bj_iinc {i : Nat} {x v : Int32} {z : Int} {L' : List (Option Value)} (d : decode Y.2.2.1 pc = .ok (.iinc i z, 3)) (hx : L[i]? = some (some (.int x))) (hv : x + Int32.ofInt z = v) (hn : i < Y.2.2.2.1) (hL : L.set i (some (.int v)) = L') (kk : bj_S G Y n K ad Q cs sl (pc + 3) L' st M) : bj_S G Y n K ad Q cs sl pc L st M :=
  fun p e s m ar be me c A H lo ls C hW hS hl => by
    obtain ⟨j, hj⟩ := List.getElem?_of_mem (bj_mem.mpr hx)
    exact lv_iinc C.ex C.by d hl.has hj hv hn rfl (fun ls' h' => kk p e s m ar be me c A H lo ls' C hW hS (hl.store rfl hn hL h'))
theorem bj_iadd {x y v : Int32} (d : decode Y.2.2.1 pc = .ok (.iadd, 1)) (hv : x + y = v) (kk : bj_S G Y n K ad Q cs sl (pc + 1) L (.int v :: st) M) : bj_S G Y n K ad Q cs sl pc L (.int y :: .int x :: st) M :=
  fun p e s m ar be me c A H lo ls C hW hS hl => by subst hv; exact lv_iadd C.ex C.by d (kk p e s m ar be me c A H lo ls C hW hS hl)
theorem bj_isub {x y v : Int32} (d : decode Y.2.2.1 pc = .ok (.isub, 1)) (hv : x - y = v) (kk : bj_S G Y n K ad Q cs sl (pc + 1) L (.int v :: st) M) : bj_S G Y n K ad Q cs sl pc L (.int y :: .int x :: st) M :=
  fun p e s m ar be me c A H lo ls C hW hS hl => by subst hv; exact lv_isub C.ex C.by d (kk p e s m ar be me c A H lo ls C hW hS hl)
theorem bj_imul {x y v : Int32} (d : decode Y.2.2.1 pc = .ok (.imul, 1)) (hv : x * y = v) (kk : bj_S G Y n K ad Q cs sl (pc + 1) L (.int v :: st) M) : bj_S G Y n K ad Q cs sl pc L (.int y :: .int x :: st) M :=
  fun p e s m ar be me c A H lo ls C hW hS hl => by subst hv; exact lv_imul C.ex C.by d (kk p e s m ar be me c A H lo ls C hW hS hl)
theorem bj_iand {x y v : Int32} (d : decode Y.2.2.1 pc = .ok (.iand, 1)) (hv : x &&& y = v) (kk : bj_S G Y n K ad Q cs sl (pc + 1) L (.int v :: st) M) : bj_S G Y n K ad Q cs sl pc L (.int y :: .int x :: st) M :=
  fun p e s m ar be me c A H lo ls C hW hS hl => by subst hv; exact lv_iand C.ex C.by d (kk p e s m ar be me c A H lo ls C hW hS hl)
theorem bj_ior {x y v : Int32} (d : decode Y.2.2.1 pc = .ok (.ior, 1)) (hv : x ||| y = v) (kk : bj_S G Y n K ad Q cs sl (pc + 1) L (.int v :: st) M) : bj_S G Y n K ad Q cs sl pc L (.int y :: .int x :: st) M :=
  fun p e s m ar be me c A H lo ls C hW hS hl => by subst hv; exact lv_ior C.ex C.by d (kk p e s m ar be me c A H lo ls C hW hS hl)
theorem bj_ixor {x y v : Int32} (d : decode Y.2.2.1 pc = .ok (.ixor, 1)) (hv : x ^^^ y = v) (kk : bj_S G Y n K ad Q cs sl (pc + 1) L (.int v :: st) M) : bj_S G Y n K ad Q cs sl pc L (.int y :: .int x :: st) M :=
  fun p e s m ar be me c A H lo ls C hW hS hl => by subst hv; exact lv_ixor C.ex C.by d (kk p e s m ar be me c A H lo ls C hW hS hl)
theorem bj_ishl {x y v : Int32} (d : decode Y.2.2.1 pc = .ok (.ishl, 1)) (hv : x <<< (y &&& 31) = v) (kk : bj_S G Y n K ad Q cs sl (pc + 1) L (.int v :: st) M) : bj_S G Y n K ad Q cs sl pc L (.int y :: .int x :: st) M :=
  fun p e s m ar be me c A H lo ls C hW hS hl => by subst hv; exact lv_ishl C.ex C.by d (kk p e s m ar be me c A H lo ls C hW hS hl)
theorem bj_ishr {x y v : Int32} (d : decode Y.2.2.1 pc = .ok (.ishr, 1)) (hv : x >>> (y &&& 31) = v) (kk : bj_S G Y n K ad Q cs sl (pc + 1) L (.int v :: st) M) : bj_S G Y n K ad Q cs sl pc L (.int y :: .int x :: st) M :=
  fun p e s m ar be me c A H lo ls C hW hS hl => by subst hv; exact lv_ishr C.ex C.by d (kk p e s m ar be me c A H lo ls C hW hS hl)
theorem bj_iushr {x y v : Int32} (d : decode Y.2.2.1 pc = .ok (.iushr, 1)) (hv : (x.toUInt32 >>> (y.toUInt32 &&& Int32.toUInt32 31)).toInt32 = v) (kk : bj_S G Y n K ad Q cs sl (pc + 1) L (.int v :: st) M) : bj_S G Y n K ad Q cs sl pc L (.int y :: .int x :: st) M :=
  fun p e s m ar be me c A H lo ls C hW hS hl => lv_iushr C.ex C.by d hv (kk p e s m ar be me c A H lo ls C hW hS hl)
theorem bj_idiv {x y v : Int32} (d : decode Y.2.2.1 pc = .ok (.idiv, 1)) (hne : ¬ y = 0) (hv : x / y = v) (kk : bj_S G Y n K ad Q cs sl (pc + 1) L (.int v :: st) M) : bj_S G Y n K ad Q cs sl pc L (.int y :: .int x :: st) M :=
  fun p e s m ar be me c A H lo ls C hW hS hl => by subst hv; exact lv_idiv C.ex C.by d hne (kk p e s m ar be me c A H lo ls C hW hS hl)
theorem bj_irem {x y v : Int32} (d : decode Y.2.2.1 pc = .ok (.irem, 1)) (hne : ¬ y = 0) (hv : x - x / y * y = v) (kk : bj_S G Y n K ad Q cs sl (pc + 1) L (.int v :: st) M) : bj_S G Y n K ad Q cs sl pc L (.int y :: .int x :: st) M :=
  fun p e s m ar be me c A H lo ls C hW hS hl => by subst hv; exact lv_irem C.ex C.by d hne (kk p e s m ar be me c A H lo ls C hW hS hl)
theorem bj_ineg {x v : Int32} (d : decode Y.2.2.1 pc = .ok (.ineg, 1)) (hv : -x = v) (kk : bj_S G Y n K ad Q cs sl (pc + 1) L (.int v :: st) M) : bj_S G Y n K ad Q cs sl pc L (.int x :: st) M :=
  fun p e s m ar be me c A H lo ls C hW hS hl => by subst hv; exact lv_ineg C.ex C.by d (kk p e s m ar be me c A H lo ls C hW hS hl)
theorem bj_i2l {x : Int32} {v : Int64} (d : decode Y.2.2.1 pc = .ok (.i2l, 1)) (hv : x.toInt64 = v) (kk : bj_S G Y n K ad Q cs sl (pc + 1) L (.long v :: st) M) : bj_S G Y n K ad Q cs sl pc L (.int x :: st) M :=
  fun p e s m ar be me c A H lo ls C hW hS hl => lv_i2l C.ex C.by d hv (kk p e s m ar be me c A H lo ls C hW hS hl)
theorem bj_lcmp {x y : Int64} (d : decode Y.2.2.1 pc = .ok (.lcmp, 1)) (kk : bj_S G Y n K ad Q cs sl (pc + 1) L (.int (lg_cmp x y) :: st) M) : bj_S G Y n K ad Q cs sl pc L (.long y :: .long x :: st) M :=
  fun p e s m ar be me c A H lo ls C hW hS hl => W.lcmp C.ex C.by d (kk p e s m ar be me c A H lo ls C hW hS hl)
theorem bj_dup {x : Value} (d : decode Y.2.2.1 pc = .ok (.dup, 1)) (hx : x.category = 1) (kk : bj_S G Y n K ad Q cs sl (pc + 1) L (x :: x :: st) M) : bj_S G Y n K ad Q cs sl pc L (x :: st) M :=
  fun p e s m ar be me c A H lo ls C hW hS hl => lv_dup C.ex C.by d hx (kk p e s m ar be me c A H lo ls C hW hS hl)
theorem bj_pop {x : Value} (d : decode Y.2.2.1 pc = .ok (.pop, 1)) (hx : x.category = 1) (kk : bj_S G Y n K ad Q cs sl (pc + 1) L st M) : bj_S G Y n K ad Q cs sl pc L (x :: st) M :=
  fun p e s m ar be me c A H lo ls C hW hS hl => lv_pop C.ex C.by d hx (kk p e s m ar be me c A H lo ls C hW hS hl)
theorem bj_dup_x1 {x y : Value} (d : decode Y.2.2.1 pc = .ok (.dup_x1, 1)) (hx : x.category = 1) (hy : y.category = 1) (kk : bj_S G Y n K ad Q cs sl (pc + 1) L (x :: y :: x :: st) M) : bj_S G Y n K ad Q cs sl pc L (x :: y :: st) M :=
  fun p e s m ar be me c A H lo ls C hW hS hl => lv_dup_x1 C.ex C.by d hx hy (kk p e s m ar be me c A H lo ls C hW hS hl)
theorem bj_dup_x2 {x y z : Value} (d : decode Y.2.2.1 pc = .ok (.dup_x2, 1)) (hx : x.category = 1) (hy : y.category = 1) (hz : z.category = 1) (kk : bj_S G Y n K ad Q cs sl (pc + 1) L (x :: y :: z :: x :: st) M) : bj_S G Y n K ad Q cs sl pc L (x :: y :: z :: st) M :=
  fun p e s m ar be me c A H lo ls C hW hS hl => lv_dup_x2 C.ex C.by d hx hy hz (kk p e s m ar be me c A H lo ls C hW hS hl)
theorem bj_dup2 {x y : Value} (d : decode Y.2.2.1 pc = .ok (.dup2, 1)) (hx : x.category = 1) (hy : y.category = 1) (kk : bj_S G Y n K ad Q cs sl (pc + 1) L (x :: y :: x :: y :: st) M) : bj_S G Y n K ad Q cs sl pc L (x :: y :: st) M :=
  fun p e s m ar be me c A H lo ls C hW hS hl => lv_dup2_11 C.ex C.by d hx hy (kk p e s m ar be me c A H lo ls C hW hS hl)
theorem bj_goto {off : Int} {tgt : Nat} (d : decode Y.2.2.1 pc = .ok (.goto off, 3)) (ht : (pc : Int) + off = (tgt : Int)) (kk : bj_S G Y n K ad Q cs sl tgt L st M) : bj_S G Y n K ad Q cs sl pc L st M :=
  fun p e s m ar be me c A H lo ls C hW hS hl => lv_goto C.ex C.by d ht (kk p e s m ar be me c A H lo ls C hW hS hl)
theorem bj_if_eq {x : Int32} {off : Int} {tgt : Nat} (d : decode Y.2.2.1 pc = .ok (.ifCond .eq off, 3)) (ht : (pc : Int) + off = (tgt : Int)) (kt : x = 0 → bj_S G Y n K ad Q cs sl tgt L st M) (kf : ¬ (x = 0) → bj_S G Y n K ad Q cs sl (pc + 3) L st M) : bj_S G Y n K ad Q cs sl pc L (.int x :: st) M :=
  fun p e s m ar be me c A H lo ls C hW hS hl => lv_if_eq C.ex C.by d ht (fun h => kt h p e s m ar be me c A H lo ls C hW hS hl) (fun h => kf h p e s m ar be me c A H lo ls C hW hS hl)
theorem bj_icmp_eq {x y : Int32} {off : Int} {tgt : Nat} (d : decode Y.2.2.1 pc = .ok (.if_icmp .eq off, 3)) (ht : (pc : Int) + off = (tgt : Int)) (kt : x = y → bj_S G Y n K ad Q cs sl tgt L st M) (kf : ¬ (x = y) → bj_S G Y n K ad Q cs sl (pc + 3) L st M) : bj_S G Y n K ad Q cs sl pc L (.int y :: .int x :: st) M :=
  fun p e s m ar be me c A H lo ls C hW hS hl => lv_icmp_eq C.ex C.by d ht (fun h => kt h p e s m ar be me c A H lo ls C hW hS hl) (fun h => kf h p e s m ar be me c A H lo ls C hW hS hl)
theorem bj_if_ne {x : Int32} {off : Int} {tgt : Nat} (d : decode Y.2.2.1 pc = .ok (.ifCond .ne off, 3)) (ht : (pc : Int) + off = (tgt : Int)) (kt : ¬ x = 0 → bj_S G Y n K ad Q cs sl tgt L st M) (kf : x = 0 → bj_S G Y n K ad Q cs sl (pc + 3) L st M) : bj_S G Y n K ad Q cs sl pc L (.int x :: st) M :=
  fun p e s m ar be me c A H lo ls C hW hS hl => lv_if_ne C.ex C.by d ht (fun h => kt h p e s m ar be me c A H lo ls C hW hS hl) (fun h => kf h p e s m ar be me c A H lo ls C hW hS hl)
theorem bj_icmp_ne {x y : Int32} {off : Int} {tgt : Nat} (d : decode Y.2.2.1 pc = .ok (.if_icmp .ne off, 3)) (ht : (pc : Int) + off = (tgt : Int)) (kt : ¬ x = y → bj_S G Y n K ad Q cs sl tgt L st M) (kf : x = y → bj_S G Y n K ad Q cs sl (pc + 3) L st M) : bj_S G Y n K ad Q cs sl pc L (.int y :: .int x :: st) M :=
  fun p e s m ar be me c A H lo ls C hW hS hl => lv_icmp_ne C.ex C.by d ht (fun h => kt h p e s m ar be me c A H lo ls C hW hS hl) (fun h => kf h p e s m ar be me c A H lo ls C hW hS hl)
theorem bj_if_lt {x : Int32} {off : Int} {tgt : Nat} (d : decode Y.2.2.1 pc = .ok (.ifCond .lt off, 3)) (ht : (pc : Int) + off = (tgt : Int)) (kt : x < 0 → bj_S G Y n K ad Q cs sl tgt L st M) (kf : ¬ (x < 0) → bj_S G Y n K ad Q cs sl (pc + 3) L st M) : bj_S G Y n K ad Q cs sl pc L (.int x :: st) M :=
  fun p e s m ar be me c A H lo ls C hW hS hl => lv_if_lt C.ex C.by d ht (fun h => kt h p e s m ar be me c A H lo ls C hW hS hl) (fun h => kf h p e s m ar be me c A H lo ls C hW hS hl)
theorem bj_icmp_lt {x y : Int32} {off : Int} {tgt : Nat} (d : decode Y.2.2.1 pc = .ok (.if_icmp .lt off, 3)) (ht : (pc : Int) + off = (tgt : Int)) (kt : x < y → bj_S G Y n K ad Q cs sl tgt L st M) (kf : ¬ (x < y) → bj_S G Y n K ad Q cs sl (pc + 3) L st M) : bj_S G Y n K ad Q cs sl pc L (.int y :: .int x :: st) M :=
  fun p e s m ar be me c A H lo ls C hW hS hl => lv_icmp_lt C.ex C.by d ht (fun h => kt h p e s m ar be me c A H lo ls C hW hS hl) (fun h => kf h p e s m ar be me c A H lo ls C hW hS hl)
theorem bj_if_ge {x : Int32} {off : Int} {tgt : Nat} (d : decode Y.2.2.1 pc = .ok (.ifCond .ge off, 3)) (ht : (pc : Int) + off = (tgt : Int)) (kt : 0 ≤ x → bj_S G Y n K ad Q cs sl tgt L st M) (kf : ¬ (0 ≤ x) → bj_S G Y n K ad Q cs sl (pc + 3) L st M) : bj_S G Y n K ad Q cs sl pc L (.int x :: st) M :=
  fun p e s m ar be me c A H lo ls C hW hS hl => lv_if_ge C.ex C.by d ht (fun h => kt h p e s m ar be me c A H lo ls C hW hS hl) (fun h => kf h p e s m ar be me c A H lo ls C hW hS hl)
theorem bj_icmp_ge {x y : Int32} {off : Int} {tgt : Nat} (d : decode Y.2.2.1 pc = .ok (.if_icmp .ge off, 3)) (ht : (pc : Int) + off = (tgt : Int)) (kt : y ≤ x → bj_S G Y n K ad Q cs sl tgt L st M) (kf : ¬ (y ≤ x) → bj_S G Y n K ad Q cs sl (pc + 3) L st M) : bj_S G Y n K ad Q cs sl pc L (.int y :: .int x :: st) M :=
  fun p e s m ar be me c A H lo ls C hW hS hl => lv_icmp_ge C.ex C.by d ht (fun h => kt h p e s m ar be me c A H lo ls C hW hS hl) (fun h => kf h p e s m ar be me c A H lo ls C hW hS hl)
theorem bj_if_gt {x : Int32} {off : Int} {tgt : Nat} (d : decode Y.2.2.1 pc = .ok (.ifCond .gt off, 3)) (ht : (pc : Int) + off = (tgt : Int)) (kt : 0 < x → bj_S G Y n K ad Q cs sl tgt L st M) (kf : ¬ (0 < x) → bj_S G Y n K ad Q cs sl (pc + 3) L st M) : bj_S G Y n K ad Q cs sl pc L (.int x :: st) M :=
  fun p e s m ar be me c A H lo ls C hW hS hl => lv_if_gt C.ex C.by d ht (fun h => kt h p e s m ar be me c A H lo ls C hW hS hl) (fun h => kf h p e s m ar be me c A H lo ls C hW hS hl)
theorem bj_icmp_gt {x y : Int32} {off : Int} {tgt : Nat} (d : decode Y.2.2.1 pc = .ok (.if_icmp .gt off, 3)) (ht : (pc : Int) + off = (tgt : Int)) (kt : y < x → bj_S G Y n K ad Q cs sl tgt L st M) (kf : ¬ (y < x) → bj_S G Y n K ad Q cs sl (pc + 3) L st M) : bj_S G Y n K ad Q cs sl pc L (.int y :: .int x :: st) M :=
  fun p e s m ar be me c A H lo ls C hW hS hl => lv_icmp_gt C.ex C.by d ht (fun h => kt h p e s m ar be me c A H lo ls C hW hS hl) (fun h => kf h p e s m ar be me c A H lo ls C hW hS hl)
theorem bj_if_le {x : Int32} {off : Int} {tgt : Nat} (d : decode Y.2.2.1 pc = .ok (.ifCond .le off, 3)) (ht : (pc : Int) + off = (tgt : Int)) (kt : x ≤ 0 → bj_S G Y n K ad Q cs sl tgt L st M) (kf : ¬ (x ≤ 0) → bj_S G Y n K ad Q cs sl (pc + 3) L st M) : bj_S G Y n K ad Q cs sl pc L (.int x :: st) M :=
  fun p e s m ar be me c A H lo ls C hW hS hl => lv_if_le C.ex C.by d ht (fun h => kt h p e s m ar be me c A H lo ls C hW hS hl) (fun h => kf h p e s m ar be me c A H lo ls C hW hS hl)
theorem bj_icmp_le {x y : Int32} {off : Int} {tgt : Nat} (d : decode Y.2.2.1 pc = .ok (.if_icmp .le off, 3)) (ht : (pc : Int) + off = (tgt : Int)) (kt : x ≤ y → bj_S G Y n K ad Q cs sl tgt L st M) (kf : ¬ (x ≤ y) → bj_S G Y n K ad Q cs sl (pc + 3) L st M) : bj_S G Y n K ad Q cs sl pc L (.int y :: .int x :: st) M :=
  fun p e s m ar be me c A H lo ls C hW hS hl => lv_icmp_le C.ex C.by d ht (fun h => kt h p e s m ar be me c A H lo ls C hW hS hl) (fun h => kf h p e s m ar be me c A H lo ls C hW hS hl)
theorem bj_swOut {dflt lo hi : Int} {offs : Array Int} {len : Nat} {x : Int32} {tgt : Nat} (d : decode Y.2.2.1 pc = .ok (.tableswitch dflt lo hi offs, len)) (h : x.toInt < lo ∨ hi < x.toInt) (ht : (pc : Int) + dflt = (tgt : Int)) (kk : bj_S G Y n K ad Q cs sl tgt L st M) : bj_S G Y n K ad Q cs sl pc L (.int x :: st) M :=
  fun p e s m ar be me c A H lo ls C hW hS hl => lv_tableOut C.ex C.by d h ht (kk p e s m ar be me c A H lo ls C hW hS hl)
theorem bj_swIn {dflt lo hi : Int} {offs : Array Int} {len : Nat} {x : Int32} {off : Int} {tgt : Nat} (d : decode Y.2.2.1 pc = .ok (.tableswitch dflt lo hi offs, len)) (h1 : ¬ x.toInt < lo) (h2 : ¬ hi < x.toInt) (ho : offs[(x.toInt - lo).toNat]? = some off) (ht : (pc : Int) + off = (tgt : Int)) (kk : bj_S G Y n K ad Q cs sl tgt L st M) : bj_S G Y n K ad Q cs sl pc L (.int x :: st) M :=
  fun p e s m ar be me c A H lo ls C hW hS hl => lv_tableIn C.ex C.by d h1 h2 ho ht (kk p e s m ar be me c A H lo ls C hW hS hl)
theorem bj_icmp_eqN {a b : Nat} {off : Int} {tgt : Nat} (d : decode Y.2.2.1 pc = .ok (.if_icmp .eq off, 3)) (ht : (pc : Int) + off = (tgt : Int)) (ha : a < 2 ^ 31) (hb : b < 2 ^ 31) (kt : a = b → bj_S G Y n K ad Q cs sl tgt L st M) (kf : a ≠ b → bj_S G Y n K ad Q cs sl (pc + 3) L st M) : bj_S G Y n K ad Q cs sl pc L (.int (nI b) :: .int (nI a) :: st) M :=
  bj_icmp_eq d ht (fun h => kt ((nI_eq ha hb).mp h)) (fun h => kf (fun q => h ((nI_eq ha hb).mpr q)))
theorem bj_icmp_neN {a b : Nat} {off : Int} {tgt : Nat} (d : decode Y.2.2.1 pc = .ok (.if_icmp .ne off, 3)) (ht : (pc : Int) + off = (tgt : Int)) (ha : a < 2 ^ 31) (hb : b < 2 ^ 31) (kt : a ≠ b → bj_S G Y n K ad Q cs sl tgt L st M) (kf : a = b → bj_S G Y n K ad Q cs sl (pc + 3) L st M) : bj_S G Y n K ad Q cs sl pc L (.int (nI b) :: .int (nI a) :: st) M :=
  bj_icmp_ne d ht (fun h => kt (fun q => h ((nI_eq ha hb).mpr q))) (fun h => kf ((nI_eq ha hb).mp h))
theorem bj_icmp_ltN {a b : Nat} {off : Int} {tgt : Nat} (d : decode Y.2.2.1 pc = .ok (.if_icmp .lt off, 3)) (ht : (pc : Int) + off = (tgt : Int)) (ha : a < 2 ^ 31) (hb : b < 2 ^ 31) (kt : a < b → bj_S G Y n K ad Q cs sl tgt L st M) (kf : b ≤ a → bj_S G Y n K ad Q cs sl (pc + 3) L st M) : bj_S G Y n K ad Q cs sl pc L (.int (nI b) :: .int (nI a) :: st) M :=
  bj_icmp_lt d ht (fun h => kt ((nI_ltI ha hb).mp h)) (fun h => kf (Nat.le_of_not_lt (fun q => h ((nI_ltI ha hb).mpr q))))
theorem bj_icmp_geN {a b : Nat} {off : Int} {tgt : Nat} (d : decode Y.2.2.1 pc = .ok (.if_icmp .ge off, 3)) (ht : (pc : Int) + off = (tgt : Int)) (ha : a < 2 ^ 31) (hb : b < 2 ^ 31) (kt : b ≤ a → bj_S G Y n K ad Q cs sl tgt L st M) (kf : a < b → bj_S G Y n K ad Q cs sl (pc + 3) L st M) : bj_S G Y n K ad Q cs sl pc L (.int (nI b) :: .int (nI a) :: st) M :=
  bj_icmp_ge d ht (fun h => kt ((nI_leI hb ha).mp h)) (fun h => kf (Nat.lt_of_not_le (fun q => h ((nI_leI hb ha).mpr q))))
theorem bj_icmp_gtN {a b : Nat} {off : Int} {tgt : Nat} (d : decode Y.2.2.1 pc = .ok (.if_icmp .gt off, 3)) (ht : (pc : Int) + off = (tgt : Int)) (ha : a < 2 ^ 31) (hb : b < 2 ^ 31) (kt : b < a → bj_S G Y n K ad Q cs sl tgt L st M) (kf : a ≤ b → bj_S G Y n K ad Q cs sl (pc + 3) L st M) : bj_S G Y n K ad Q cs sl pc L (.int (nI b) :: .int (nI a) :: st) M :=
  bj_icmp_gt d ht (fun h => kt ((nI_ltI hb ha).mp h)) (fun h => kf (Nat.le_of_not_lt (fun q => h ((nI_ltI hb ha).mpr q))))
theorem bj_icmp_leN {a b : Nat} {off : Int} {tgt : Nat} (d : decode Y.2.2.1 pc = .ok (.if_icmp .le off, 3)) (ht : (pc : Int) + off = (tgt : Int)) (ha : a < 2 ^ 31) (hb : b < 2 ^ 31) (kt : a ≤ b → bj_S G Y n K ad Q cs sl tgt L st M) (kf : b < a → bj_S G Y n K ad Q cs sl (pc + 3) L st M) : bj_S G Y n K ad Q cs sl pc L (.int (nI b) :: .int (nI a) :: st) M :=
  bj_icmp_le d ht (fun h => kt ((nI_leI ha hb).mp h)) (fun h => kf (Nat.lt_of_not_le (fun q => h ((nI_leI ha hb).mpr q))))
theorem bj_if_eqN {a : Nat} {off : Int} {tgt : Nat} (d : decode Y.2.2.1 pc = .ok (.ifCond .eq off, 3)) (ht : (pc : Int) + off = (tgt : Int)) (ha : a < 2 ^ 31) (kt : a = 0 → bj_S G Y n K ad Q cs sl tgt L st M) (kf : a ≠ 0 → bj_S G Y n K ad Q cs sl (pc + 3) L st M) : bj_S G Y n K ad Q cs sl pc L (.int (nI a) :: st) M :=
  bj_if_eq d ht (fun h => kt (Classical.byContradiction (fun q => nI_ne0 (Nat.pos_of_ne_zero q) ha h))) (fun h => kf (fun q => h (by rw [q]; exact nI_0)))
theorem bj_if_neN {a : Nat} {off : Int} {tgt : Nat} (d : decode Y.2.2.1 pc = .ok (.ifCond .ne off, 3)) (ht : (pc : Int) + off = (tgt : Int)) (ha : a < 2 ^ 31) (kt : a ≠ 0 → bj_S G Y n K ad Q cs sl tgt L st M) (kf : a = 0 → bj_S G Y n K ad Q cs sl (pc + 3) L st M) : bj_S G Y n K ad Q cs sl pc L (.int (nI a) :: st) M :=
  bj_if_ne d ht (fun h => kt (fun q => h (by rw [q]; exact nI_0))) (fun h => kf (Classical.byContradiction (fun q => nI_ne0 (Nat.pos_of_ne_zero q) ha h)))
theorem bj_if_gtN {a : Nat} {off : Int} {tgt : Nat} (d : decode Y.2.2.1 pc = .ok (.ifCond .gt off, 3)) (ht : (pc : Int) + off = (tgt : Int)) (ha : a < 2 ^ 31) (kt : 0 < a → bj_S G Y n K ad Q cs sl tgt L st M) (kf : a = 0 → bj_S G Y n K ad Q cs sl (pc + 3) L st M) : bj_S G Y n K ad Q cs sl pc L (.int (nI a) :: st) M :=
  bj_if_gt d ht (fun h => kt (Nat.pos_of_ne_zero (fun q => by rw [q, nI_0] at h; exact absurd h (by decide)))) (fun h => kf (Classical.byContradiction (fun q => h (by rw [← nI_0]; exact nI_lt (Nat.pos_of_ne_zero q) ha))))
theorem bj_if_leN {a : Nat} {off : Int} {tgt : Nat} (d : decode Y.2.2.1 pc = .ok (.ifCond .le off, 3)) (ht : (pc : Int) + off = (tgt : Int)) (ha : a < 2 ^ 31) (kt : a = 0 → bj_S G Y n K ad Q cs sl tgt L st M) (kf : 0 < a → bj_S G Y n K ad Q cs sl (pc + 3) L st M) : bj_S G Y n K ad Q cs sl pc L (.int (nI a) :: st) M :=
  bj_if_le d ht (fun h => kt (Classical.byContradiction (fun q => nI_nle (Nat.pos_of_ne_zero q) ha h))) (fun h => kf (Nat.pos_of_ne_zero (fun q => h (by rw [q, nI_0]; decide))))
theorem bj_if_ltN {a : Nat} {off : Int} (d : decode Y.2.2.1 pc = .ok (.ifCond .lt off, 3)) {tgt : Nat} (ht : (pc : Int) + off = (tgt : Int)) (ha : a < 2 ^ 31) (kf : bj_S G Y n K ad Q cs sl (pc + 3) L st M) : bj_S G Y n K ad Q cs sl pc L (.int (nI a) :: st) M :=
  bj_if_lt d ht (fun h => absurd h (nI_pos ha)) (fun _ => kf)
theorem bj_if_geN {a : Nat} {off : Int} (d : decode Y.2.2.1 pc = .ok (.ifCond .ge off, 3)) {tgt : Nat} (ht : (pc : Int) + off = (tgt : Int)) (ha : a < 2 ^ 31) (kt : bj_S G Y n K ad Q cs sl tgt L st M) : bj_S G Y n K ad Q cs sl pc L (.int (nI a) :: st) M :=
  bj_if_ge d ht (fun _ => kt) (fun h => absurd (nI_pos' ha) h)
end BR
