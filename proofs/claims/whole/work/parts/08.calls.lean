/-! the judgement's rows: calls; a callee's body is entered, its contract used, and the caller goes on behind it, or is left by the exception -/
section BK
theorem bj_wk {tb : Tables} {e : Env} {f : Frame} {below : List Frame} {a b : State} (h : Steps tb e (f :: below) a b) : Steps tb e below a b := by
  obtain ⟨n, h1, h2⟩ := h
  exact ⟨n, h1, fun k hk => Within.weaken (mid := [f]) (h2 k hk)⟩
/-- the locals at a method's start -/
theorem bj_start (av : List Value) {n : Nat} (hc : ∀ v ∈ av, v.category = 1) (hn : av.length ≤ n) : bj_L ((av.map Slot.val ++ List.replicate (n - av.length) Slot.unset).toArray) n (av.map some ++ List.replicate (n - av.length) none) := by
  have key : ∀ (i : Nat) (z : Slot), ((av.map Slot.val ++ List.replicate (n - av.length) Slot.unset).toArray)[i]? = some z → (∃ v, v ∈ av ∧ z = .val v) ∨ z = .unset := by
    intro i z h
    rw [List.getElem?_toArray] at h
    rcases List.mem_append.mp (List.mem_of_getElem? h) with h1 | h1
    · obtain ⟨v, hv, rfl⟩ := List.mem_map.mp h1
      exact Or.inl ⟨v, hv, rfl⟩
    · exact Or.inr (List.eq_of_mem_replicate h1)
  refine ⟨⟨by simp; omega, ⟨fun i v h h2 => ?_, fun i h => ?_⟩, fun _ h => by cases h⟩, by simp; omega, fun i v h => ?_⟩
  · rcases key i _ h with ⟨w, hw, e⟩ | e
    · cases e
      have := hc v hw
      omega
    · cases e
  · rcases key i _ h with ⟨w, hw, e⟩ | e
    · cases e
    · cases e
  · by_cases hi : i < av.length
    · rw [List.getElem?_append_left (by simpa using hi), List.getElem?_map] at h
      rw [List.getElem?_toArray, List.getElem?_append_left (by simpa using hi), List.getElem?_map]
      cases hv : av[i]? with
      | none => rw [hv] at h; cases h
      | some w =>
        rw [hv] at h
        cases h
        exact ⟨rfl, hc _ (List.mem_of_getElem? hv)⟩
    · rw [List.getElem?_append_right (by simp; omega)] at h
      have := List.eq_of_mem_replicate (List.mem_of_getElem? h)
      cases this
/-- a method as the tables have it -/
def bj_H (Yk : bj_Y) (s : State) (mk : MethodId) : Prop := s.methodNamed? Yk.2.1 = some mk ∧ ∃ (methk : Method) (ck : Code), s.vm.method? mk = some methk ∧ methk.code = some ck ∧ ck.code = Yk.2.2.1 ∧ ck.maxLocals = Yk.2.2.2.1 ∧ methk.sig.returnType = Yk.2.2.2.2.1 ∧ methk.locks = false ∧ ck.exceptionTable.toList = tableOf Yk.2.2.2.2.2 ∧ parseMethodDescriptor Yk.2.1.desc = some methk.sig
/-- its word: with handlers, or without -/
def bj_cw (Yk : bj_Y) (TB : List Cond) : Prop := (Yk.2.2.2.2.2 = [] ∧ Cond.code Yk.2.1 Yk.2.2.1 Yk.2.2.2.1 Yk.2.2.2.2.1 ∈ TB) ∨ Cond.codeWith Yk.2.1 Yk.2.2.1 Yk.2.2.2.1 Yk.2.2.2.2.1 Yk.2.2.2.2.2 ∈ TB
theorem bj_has {Yk : bj_Y} {TB : List Cond} {args : Array Value} {s : State} (h : bj_cw Yk TB) (ht : ∀ w ∈ TB, w.before args s = true) : ∃ mk, bj_H Yk s mk := by
  rcases h with ⟨h0, h⟩ | h
  · obtain ⟨mk, hn⟩ := Cond.code_named (ht _ h)
    obtain ⟨methk, ck, h1, h2, h3, h4, h5, h6, h7, h8⟩ := Cond.code_spec hn (ht _ h)
    refine ⟨mk, hn, methk, ck, h1, h2, h3, h4, h5, h6, ?_, h8⟩
    rw [h0, Array.isEmpty_iff.mp h7]
    rfl
  · obtain ⟨mk, methk, ck, hn, h1, h2, h3, h4, h5, h6, h7, h8⟩ := Cond.codeWith_spec (ht _ h)
    refine ⟨mk, hn, methk, ck, h1, h2, h3, h4, h6, h7, ?_, h8⟩
    rw [← h5, table_eq]
/-- a callee's run, seen by its caller -/
theorem bj_run {G : bj_G} {Y Yk : bj_Y} {n nk : Nat} {K Kk : bj_K} {ad : Nat → Nat} {Qk : bj_R → bj_M → Prop} {cs sl : Nat} {M : bj_M} {A : Nat → Prop} {p : Program} {e : Env} {s U : State} {m mk : MethodId} {ar : Array Value} {be : List Frame} {me : Method} {c : Code} {lo : List Loc} {av : List Value} {g : JFrame} {ig : Instr}
    (X : Stand p G.1 e (bj_room n K) s m ar be me c U lo cs sl) (C : bj_C G Y A p s m ar me c) (hW : bj_W G ad M A U.heap) (hS : va_S A s.heap U.heap lo) (hT : bj_T G Yk nk Kk ad Qk av M)
    (hH : bj_H Yk s mk) (hown : Yk.1 = Yk.2.1.cls) (hpl : plainFor Yk.2.1 = true) (hav : ∀ v ∈ av, v.category = 1) (hlen : av.length ≤ Yk.2.2.2.1) (hn : nk + 1 ≤ n) (hml : Yk.2.2.2.1 ≤ 17)
    (hc : cs + (Kk.1 + Kk.2.2.1) ≤ K.1 + K.2.2.1) (hs : sl + (Kk.2.1 + Kk.2.2.2) ≤ K.2.1 + K.2.2.2)
    (hg : g.method = m) (hsize : g.locals.size = c.maxLocals) (hdg : decode c.code g.pc = .ok (ig, 3)) (hroom : 2 * g.monitorRoom + (g.stack.map fun v => v.category).sum ≤ 8) :
    ∃ t : State, (∀ acts, Steps p.tables e be (doInvoke e (U.setTop g) acts mk av.toArray).1 t) ∧
      ((∃ (v : Option Value) (M' : bj_M) (T' : State) (L' : List Loc), Qk (.inl v) M' ∧ bj_W G ad M' A T'.heap ∧ va_S A s.heap T'.heap (lo ++ L') ∧ Stand p G.1 e (bj_room n K) s m ar be me c T' (lo ++ L') (cs + Kk.1) (sl + Kk.2.1) ∧ t = T'.setTop { g with pc := g.pc + 3, stack := v.toList ++ g.stack }) ∨
       (∃ (x : Addr) (E : String) (ce : Cell) (M' : bj_M) (T' : State) (L' : List Loc), Qk (.inr E) M' ∧ bj_W G ad M' A T'.heap ∧ va_S A s.heap T'.heap (lo ++ L') ∧ T'.heap[x]? = some ce ∧ ce.vm = .none ∧ s.vm.findClass E = some ce.cls ∧ Stand p G.1 e (bj_room n K) s m ar be me c T' (lo ++ L') (cs + Kk.2.2.1) (sl + Kk.2.2.2) ∧ t = (T'.setTop g).pushFrame (.throwing x))) := by
  obtain ⟨hnm, methk, ck, h1, h2, h3, h4, h5, h6, h7, h8⟩ := hH
  have hal : s.vm.Alike U.vm := X.warmed.alike
  have hmU : U.vm.method? mk = some methk := by rw [hal.method?]; exact h1
  have hpk : U.plainMethod mk := State.plainMethod.of_named hpl (X.named hnm) hmU
  obtain ⟨Yst, hst⟩ := X.into (g := g) hg hsize hdg (mk := mk) (methk := methk) (ck := ck) av.toArray (R' := bj_room nk Kk) hmU h2 h6 hpk (by show nk + 1 ≤ n; omega)
    (by show 2 * g.monitorRoom + (g.stack.map fun v => v.category).sum + (ck.maxLocals + 11) + 36 * nk ≤ 36 * n; rw [h4]; omega) hc hs
  have hheap : (U.calling g mk av.toArray).heap = U.heap := rfl
  have Ck : bj_C G Yk A p (U.calling g mk av.toArray) mk av.toArray methk ck := by
    refine ⟨C.ex, h3, h4, ?_, h5, h6, (name_of_methodNamed hnm h1).1, h7, ?_, fun q hq => C.up q (Nat.le_trans hS.1 hq)⟩
    · show U.vm.findClass Yk.1 = some mk.cls
      rw [hal.findClass, hown]
      exact findClass_of_methodNamed hnm
    · exact C.fc.go X.warmed hS.1 hS.2.1
  have w := hT p e (U.calling g mk av.toArray) mk av.toArray (.java g :: be) methk ck A U.heap [] _ Ck hW va_S.rf (bj_start av hav hlen)
  obtain ⟨t, hs1, o, hrun, hend, hq⟩ := w ((U.setTop g).pushFrame (.java (entryFrame mk av.toArray ck.maxLocals))) rfl Yst
  refine ⟨t, fun acts => ?_, ?_⟩
  · rw [hst acts, h4, entry_eq mk av hav]
    rw [h4, entry_eq mk av hav] at hs1
    exact bj_wk hs1
  · rcases hq with ⟨v, M', L', rfl, hq1, hq2, hF, hw, hsm, hL⟩ | ⟨x, E, ce, M', L', rfl, hq1, hq2, hF, hce, hcv, hcl, hw, hsm, hL⟩
    · obtain ⟨T', X', -, -, ht⟩ := X.outOf hg hdg hend hw hsm
      have hh : t.heap = T'.heap := by rw [ht]; rfl
      refine Or.inl ⟨v, M', T', L', hq1, by rw [← hh]; exact hq2, ?_, X', ht⟩
      rw [← hh]
      exact ⟨Nat.le_trans hS.1 hF.1, fun q h9 hA => (hF.2 q (Nat.lt_of_lt_of_le h9 hS.1) hA).trans (hS.2.1 q h9 hA), fun q hq => by
        rcases List.mem_append.mp hq with h | h
        · exact hS.2.2 q h
        · exact hL q h⟩
    · obtain ⟨T', X', -, -, ht⟩ := X.outOfThrown hg hend hw hsm
      have hh : t.heap = T'.heap := by rw [ht]; rfl
      refine Or.inr ⟨x, E, ce, M', T', L', hq1, by rw [← hh]; exact hq2, ?_, by rw [← hh]; exact hce, hcv, ?_, X', ht⟩
      · rw [← hh]
        exact ⟨Nat.le_trans hS.1 hF.1, fun q h9 hA => (hF.2 q (Nat.lt_of_lt_of_le h9 hS.1) hA).trans (hS.2.1 q h9 hA), fun q hq => by
          rcases List.mem_append.mp hq with h | h
          · exact hS.2.2 q h
          · exact hL q h⟩
      · have h9 : U.vm.findClass E = some ce.cls := hcl
        rw [hal.findClass] at h9
        exact h9
/-- an exception of class E stands over the body at pc -/
def bj_X (G : bj_G) (Y : bj_Y) (n : Nat) (K : bj_K) (ad : Nat → Nat) (Q : bj_R → bj_M → Prop) (cs sl pc : Nat) (L : List (Option Value)) (E : String) (M : bj_M) : Prop :=
  ∀ (p : Program) (e : Env) (s : State) (m : MethodId) (args : Array Value) (below : List Frame) (meth : Method) (c : Code) (A : Nat → Prop) (H : Heap) (locs : List Loc) (ls : Array Slot) (x : Addr) (ce : Cell) (st : List Value) (T : State),
    bj_C G Y A p s m args meth c → bj_W G ad M A H → va_S A s.heap H locs → bj_L ls Y.2.2.2.1 L → H[x]? = some ce → ce.vm = .none → s.vm.findClass E = some ce.cls → T.heap = H → Stand p G.1 e (bj_room n K) s m args below meth c T locs cs sl →
    ∃ t, Steps p.tables e below ((T.setTop (F0 m pc ls st)).pushFrame (.throwing x)) t ∧ bj_Q G ad Q K A below s t
section Rows
variable {G : bj_G} {Y Yk : bj_Y} {n nk : Nat} {K Kk : bj_K} {ad : Nat → Nat} {Q Qk : bj_R → bj_M → Prop} {cs sl pc index : Nat} {L : List (Option Value)} {st st0 av : List Value} {M : bj_M}
/-- what every call asks -/
def bj_ok (Yk : bj_Y) (av : List Value) (nk n : Nat) (K Kk : bj_K) (cs sl : Nat) (st : List Value) : Prop :=
  Yk.1 = Yk.2.1.cls ∧ plainFor Yk.2.1 = true ∧ (∀ v ∈ av, v.category = 1) ∧ av.length ≤ Yk.2.2.2.1 ∧ nk + 1 ≤ n ∧ Yk.2.2.2.1 ≤ 17 ∧ cs + (Kk.1 + Kk.2.2.1) ≤ K.1 + K.2.2.1 ∧ sl + (Kk.2.1 + Kk.2.2.2) ≤ K.2.1 + K.2.2.2 ∧ (st.map fun v => v.category).sum ≤ 8 ∧ (Yk.2.1.cls ≠ "java/lang/invoke/MethodHandle" ∧ Yk.2.1.cls ≠ "java/lang/invoke/VarHandle")
theorem bj_back {p : Program} {e : Env} {s T U : State} {m mk : MethodId} {ar : Array Value} {be : List Frame} {me : Method} {c : Code} {A : Nat → Prop} {lo : List Loc} {ls : Array Slot} {ig : Instr} {g0 : JFrame}
    (X : Stand p G.1 e (bj_room n K) s m ar be me c U lo cs sl) (C : bj_C G Y A p s m ar me c) (hW : bj_W G ad M A U.heap) (hS : va_S A s.heap U.heap lo) (hl : bj_L ls Y.2.2.2.1 L) (hT : bj_T G Yk nk Kk ad Qk av M) (hH : bj_H Yk s mk) (ok : bj_ok Yk av nk n K Kk cs sl st)
    (hdg : decode c.code pc = .ok (ig, 3)) (step : ∀ target, (∀ acts, Steps p.tables e be (doInvoke e (U.setTop (F0 m pc ls st)) acts mk av.toArray).1 target) → Steps p.tables e be (T.setTop g0) target)
    (kr : ∀ v M', Qk (.inl v) M' → bj_S G Y n K ad Q (cs + Kk.1) (sl + Kk.2.1) (pc + 3) L (v.toList ++ st) M') (kx : ∀ E M', Qk (.inr E) M' → bj_X G Y n K ad Q (cs + Kk.2.2.1) (sl + Kk.2.2.2) pc L E M') : ∃ t, Steps p.tables e be (T.setTop g0) t ∧ bj_Q G ad Q K A be s t := by
  obtain ⟨o1, o2, o3, o4, o5, o6, o7, o8, o9, -⟩ := ok
  obtain ⟨t, ht, h⟩ := bj_run (g := F0 m pc ls st) X C hW hS hT hH o1 o2 o3 o4 o5 o6 o7 o8 rfl (hl.1.1.trans C.ml.symm) hdg (by show 2 * 0 + (st.map fun v => v.category).sum ≤ 8; omega)
  have h0 := step t ht
  rcases h with ⟨v, M', T', L', q1, q2, q3, q4, rfl⟩ | ⟨x, E, ce, M', T', L', q1, q2, q3, q5, q6, q7, q4, rfl⟩
  · obtain ⟨t2, a1, b1⟩ := kr v M' q1 p e s m ar be me c A T'.heap _ ls C q2 q3 hl T' rfl q4
    exact ⟨t2, h0.trans a1, b1⟩
  · obtain ⟨t2, a1, b1⟩ := kx E M' q1 p e s m ar be me c A T'.heap _ ls x ce st T' C q2 q3 hl q5 q6 q7 rfl q4
    exact ⟨t2, h0.trans a1, b1⟩
theorem bj_callS (d : decode Y.2.2.1 pc = .ok (.invokestatic index, 3)) (hT : bj_T G Yk nk Kk ad Qk av M) (w1 : Cond.methodLink Y.1 index Yk.2.1 ∈ G.2.2.2.2) (w2 : Cond.static Yk.2.1 ∈ G.2.2.2.2) (w3 : Cond.initialized Yk.2.1.cls ∈ G.2.2.2.2) (w4 : bj_cw Yk G.2.2.2.2)
    (hlen : (parseMethodDescriptor Yk.2.1.desc).map (fun d => d.parameters.length) = some av.length) (ok : bj_ok Yk av nk n K Kk cs sl st) (hst : st0 = av.reverse ++ st)
    (kr : ∀ v M', Qk (.inl v) M' → bj_S G Y n K ad Q (cs + Kk.1) (sl + Kk.2.1) (pc + 3) L (v.toList ++ st) M') (kx : ∀ E M', Qk (.inr E) M' → bj_X G Y n K ad Q (cs + Kk.2.2.1) (sl + Kk.2.2.2) pc L E M') : bj_S G Y n K ad Q cs sl pc L st0 M := by
  subst hst
  intro p e s m ar be me c A H lo ls C hW hS hl T hTh X
  subst hTh
  obtain ⟨mk, hH⟩ := bj_has w4 C.ts
  obtain ⟨hnm, methk, ck, h1, h2, h3, h4, h5, h6, h7, h8⟩ := id hH
  have hstat : methk.isStatic = true := Cond.static_spec hnm h1 (C.ts _ w2)
  obtain ⟨kP, hkP, -⟩ := className_of_methodNamed hnm
  have hinit : kP.init = .initialized := Cond.initialized_spec (findClass_of_methodNamed hnm) hkP (C.ts _ w3)
  have hln : av.length = methk.sig.parameters.length := by rw [h8] at hlen; exact (Option.some.inj hlen).symm
  have hdg : decode c.code pc = .ok (.invokestatic index, 3) := by rw [C.by]; exact d
  obtain ⟨vm₁, X₁, hstep⟩ := X.invokestatic C.ex C.ow (C.ts _ w1) hnm h1 hstat hkP hinit ok.2.2.2.2.2.2.2.2.2 (g := F0 m pc ls (av.reverse ++ st)) rfl (argsL := av) (rest := st) hln rfl hdg
  exact bj_back X₁ C hW hS hl hT hH ok hdg hstep kr kx
theorem bj_callSN {host : String} (d : decode Y.2.2.1 pc = .ok (.invokestatic index, 3)) (hT : bj_T G Yk nk Kk ad Qk av M) (w1 : Cond.methodLinkNest Y.1 index Yk.2.1 host ∈ G.2.2.2.2) (w2 : Cond.static Yk.2.1 ∈ G.2.2.2.2) (w3 : Cond.initialized Yk.2.1.cls ∈ G.2.2.2.2) (w4 : bj_cw Yk G.2.2.2.2)
    (hlen : (parseMethodDescriptor Yk.2.1.desc).map (fun d => d.parameters.length) = some av.length) (ok : bj_ok Yk av nk n K Kk cs sl st) (hst : st0 = av.reverse ++ st)
    (kr : ∀ v M', Qk (.inl v) M' → bj_S G Y n K ad Q (cs + Kk.1) (sl + Kk.2.1) (pc + 3) L (v.toList ++ st) M') (kx : ∀ E M', Qk (.inr E) M' → bj_X G Y n K ad Q (cs + Kk.2.2.1) (sl + Kk.2.2.2) pc L E M') : bj_S G Y n K ad Q cs sl pc L st0 M := by
  subst hst
  intro p e s m ar be me c A H lo ls C hW hS hl T hTh X
  subst hTh
  obtain ⟨mk, hH⟩ := bj_has w4 C.ts
  obtain ⟨hnm, methk, ck, h1, h2, h3, h4, h5, h6, h7, h8⟩ := id hH
  have hstat : methk.isStatic = true := Cond.static_spec hnm h1 (C.ts _ w2)
  obtain ⟨kP, hkP, -⟩ := className_of_methodNamed hnm
  have hinit : kP.init = .initialized := Cond.initialized_spec (findClass_of_methodNamed hnm) hkP (C.ts _ w3)
  have hln : av.length = methk.sig.parameters.length := by rw [h8] at hlen; exact (Option.some.inj hlen).symm
  have hdg : decode c.code pc = .ok (.invokestatic index, 3) := by rw [C.by]; exact d
  obtain ⟨vm₁, X₁, hstep⟩ := X.invokestaticNest C.ex C.ow (C.ts _ w1) hnm h1 hstat hkP hinit ok.2.2.2.2.2.2.2.2.2 (g := F0 m pc ls (av.reverse ++ st)) rfl (argsL := av) (rest := st) hln rfl hdg
  exact bj_back X₁ C hW hS hl hT hH ok hdg hstep kr kx
theorem bj_callV {k ci : Nat} {fs as : List Value} {r : vw_C} (d : decode Y.2.2.1 pc = .ok (.invokevirtual index, 3)) (hT : bj_T G Yk nk Kk ad Qk (.ref (ad k) :: as) M) (w1 : Cond.methodLink Y.1 index Yk.2.1 ∈ G.2.2.2.2) (w2 : Cond.instanceMethod Yk.2.1 ∈ G.2.2.2.2) (w3 : Cond.selects Yk.2.1.cls Yk.2.1 Yk.2.1 ∈ G.2.2.2.2) (w4 : bj_cw Yk G.2.2.2.2)
    (hlen : (parseMethodDescriptor Yk.2.1.desc).map (fun d => d.parameters.length) = some as.length) (ok : bj_ok Yk (.ref (ad k) :: as) nk n K Kk cs sl st) (hst : st0 = as.reverse ++ .ref (ad k) :: st) (hM : M k = some (.inr (ci, fs))) (hc : G.2.2.1[ci]? = some r) (hr : r.1 = Yk.2.1.cls)
    (kr : ∀ v M', Qk (.inl v) M' → bj_S G Y n K ad Q (cs + Kk.1) (sl + Kk.2.1) (pc + 3) L (v.toList ++ st) M') (kx : ∀ E M', Qk (.inr E) M' → bj_X G Y n K ad Q (cs + Kk.2.2.1) (sl + Kk.2.2.2) pc L E M') : bj_S G Y n K ad Q cs sl pc L st0 M := by
  subst hst
  intro p e s m ar be me c A H lo ls C hW hS hl T hTh X
  subst hTh
  obtain ⟨mk, hH⟩ := bj_has w4 C.ts
  obtain ⟨hnm, methk, ck, h1, h2, h3, h4, h5, h6, h7, h8⟩ := id hH
  obtain ⟨mk2, meth2, hnm2, h12, hst2, hab⟩ := Cond.instanceMethod_spec (C.ts _ w2)
  cases hnm.symm.trans hnm2
  cases h1.symm.trans h12
  obtain ⟨r', hr', cellB, g1, g2, g3, -⟩ := hW.1 k _ hM
  have hfc : s.vm.findClass Yk.2.1.cls = some cellB.cls := by
    rw [g2, ← hr]
    exact (C.k.1 ci r hc).2.1
  obtain ⟨c2, r2, m2, q1, q2, q3, q4, kP, hkP, hkPi⟩ := Cond.selects_spec (C.ts _ w3)
  cases hfc.symm.trans q1
  cases (State.methodFound?_of_named hnm ok.2.2.2.2.2.2.2.2.2).symm.trans q2
  cases hnm.symm.trans q3
  have hselP : selectMethod e.platform s.vm cellB.cls mk = .method mk := by rw [Launch.admits_selectMethod X.admits]; exact q4
  have hln : as.length = methk.sig.parameters.length := by rw [h8] at hlen; exact (Option.some.inj hlen).symm
  have hdg : decode c.code pc = .ok (.invokevirtual index, 3) := by rw [C.by]; exact d
  obtain ⟨vm₁, X₁, hstep⟩ := X.invokevirtual C.ex C.ow (C.ts _ w1) hnm h1 hst2 hkP hkPi ok.2.2.2.2.2.2.2.2.2 (a := ad k) (cell := cellB) g1 (fun z h => by rw [g3] at h; cases h) hselP h1 hab hkP hkPi (g := F0 m pc ls (as.reverse ++ .ref (ad k) :: st)) rfl (argsL := as) (rest := st) hln rfl hdg
  exact bj_back X₁ C hW hS hl hT hH ok hdg hstep kr kx
theorem bj_callI {k : Nat} {as : List Value} (d : decode Y.2.2.1 pc = .ok (.invokespecial index, 3)) (hT : bj_T G Yk nk Kk ad Qk (.ref k :: as) M) (w1 : Cond.methodLink Y.1 index Yk.2.1 ∈ G.2.2.2.2) (w2 : Cond.instanceMethod Yk.2.1 ∈ G.2.2.2.2) (w4 : Cond.code Yk.2.1 Yk.2.2.1 Yk.2.2.2.1 none ∈ G.2.2.2.2) (hh : Yk.2.2.2.2.2 = []) (hrt : Yk.2.2.2.2.1 = none) (hnm0 : Yk.2.1.name = "<init>")
    (hlen : (parseMethodDescriptor Yk.2.1.desc).map (fun d => d.parameters.length) = some as.length) (ok : bj_ok Yk (.ref k :: as) nk n K Kk cs sl st) (hst : st0 = as.reverse ++ .ref k :: st)
    (kr : ∀ v M', Qk (.inl v) M' → bj_S G Y n K ad Q (cs + Kk.1) (sl + Kk.2.1) (pc + 3) L (v.toList ++ st) M') (kx : ∀ E M', Qk (.inr E) M' → bj_X G Y n K ad Q (cs + Kk.2.2.1) (sl + Kk.2.2.2) pc L E M') : bj_S G Y n K ad Q cs sl pc L st0 M := by
  subst hst
  intro p e s m ar be me c A H lo ls C hW hS hl T hTh X
  subst hTh
  obtain ⟨mk, hH⟩ := bj_has (Yk := Yk) (TB := G.2.2.2.2) (Or.inl ⟨hh, by rw [hrt]; exact w4⟩) C.ts
  obtain ⟨hnm, methk, ck, h1, h2, h3, h4, h5, h6, h7, h8⟩ := id hH
  have hpl : e.platform.magicAccessors = ({} : Platform).magicAccessors := by rw [X.admits.platform]
  have hdg : decode c.code pc = .ok (.invokespecial index, 3) := by rw [C.by]; exact d
  obtain ⟨mk2, methM, cM, kP, vm₁, hnamed, -, -, -, -, -, -, -, hW₁, hstep⟩ := Steps.initColdArgs (e := e) X.here C.ex X.warmed hpl C.ow hnm0 ok.2.2.2.2.2.2.2.2.2 (C.ts _ w1) (C.ts _ w2) (C.ts _ w4) (f := F0 m pc ls (as.reverse ++ .ref k :: st)) rfl (a := k) (argsL := as) (rest := st) (fun sig h => by rw [h] at hlen; exact (Option.some.inj hlen).symm) rfl hdg
  cases hnm.symm.trans hnamed
  exact bj_back (X.noted hW₁) C hW hS hl hT hH ok hdg hstep kr kx
end Rows
end BK
