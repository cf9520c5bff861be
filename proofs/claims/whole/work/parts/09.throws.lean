/-! the judgement's rows: exceptions made and thrown, that leave a body, that are caught in it -/
section BT
/-- the same frame, looked at from here on -/
theorem bj_rebase {p : Program} {l : Launch} {e : Env} {R R' : Room} {s T : State} {m : MethodId} {args : Array Value} {below : List Frame} {meth : Method} {c : Code} {locs : List Loc} {cells slots : Nat} (X : Stand p l e R s m args below meth c T locs cells slots) (hf : R'.frames ≤ R.frames) (hl : R'.locals ≤ R.locals) (hc : cells + R'.cells ≤ R.cells) (hs : slots + R'.slots ≤ R.slots) :
    Stand p l e R' ((T.setVm s.vm).setFrames (.invoking m args :: below)) m args below meth c T [] 0 0 := by
  have htop : (T.setVm s.vm).topJava?.isSome := X.here.top
  have hcur : (T.setVm s.vm).cur < (T.setVm s.vm).threads.size := State.cur_lt_of_top htop
  have hF : ((T.setVm s.vm).setFrames (.invoking m args :: below)).frames = .invoking m args :: below := State.frames_setFrames _ hcur
  have hloc : ((T.setVm s.vm).setFrames (.invoking m args :: below)).localsInUse = s.localsInUse := by
    rw [State.localsInUse_invoking hF (meth := meth) (c := c) X.method X.code, State.localsInUse_invoking X.frames X.method X.code]
  obtain ⟨g₀, hfr⟩ := X.frames_eq
  obtain ⟨th, hth, -⟩ := State.frames_cons hfr
  obtain ⟨th', hth', -⟩ := State.frames_cons hF
  have hlim : e.platform.stackLimits ((T.setVm s.vm).setFrames (.invoking m args :: below)).me = e.platform.stackLimits s.me := by
    rw [State.stackLimits_setFrames]; exact X.limits
  have hby : ((T.setVm s.vm).setFrames (.invoking m args :: below)).me.stackBytes = s.me.stackBytes := by
    rw [State.stackBytes_setFrames]; exact X.bytes
  have hroom : ((T.setVm s.vm).setFrames (.invoking m args :: below)).hasRoom e.platform R' = true := by
    have h := X.room
    have q1 := X.heapSize
    have q2 := X.used
    have q3 := X.book
    simp only [State.hasRoom, Bool.and_eq_true, decide_eq_true_eq] at h ⊢
    obtain ⟨⟨⟨⟨h1, h2, h3, h4, h5, h6⟩, h7⟩, h8⟩, h9⟩ := h
    rw [X.frames] at h2 h3
    rw [hF, hloc, hlim, hby]
    refine ⟨⟨⟨⟨by omega, by omega, by omega, by omega, by omega, h6⟩, ?_⟩, ?_⟩, q3⟩
    · show T.heap.size + R'.cells ≤ e.platform.maxCells
      omega
    · show T.slotsUsed + R'.slots ≤ e.platform.maxSlots
      omega
  have hsame : ((T.setVm s.vm).setFrames (.invoking m args :: below)).sameButNew (T.setVm s.vm) [] 0 0 := by
    have h := (State.sameButNew.refl ((T.setVm s.vm).setFrames (.invoking m args :: below)) hth').setFrames (T.setVm s.vm).frames (State.cur_lt_of_frames hF)
    rw [State.setFrames_setFrames, State.setFrames_self (s := T.setVm s.vm) hth] at h
    exact h
  exact ⟨X.admits, X.cas, X.clock, hF, hroom, X.hears, X.method, X.code, X.here, X.tail, X.warmed, X.limits.trans hlim.symm, X.bytes.trans hby.symm, hsame⟩
/-- where nothing old was written, every old cell is what it was -/
theorem bj_old {s U : State} {k n : Nat} (h : s.sameButNew ({ U with vm := s.vm } : State) [] k n) : s.heap.size ≤ U.heap.size ∧ ∀ q : Nat, q < s.heap.size → U.heap[q]? = s.heap[q]? := by
  obtain ⟨-, h2, -, -, -, h6⟩ := h
  refine ⟨h2, fun q hq => ?_⟩
  obtain ⟨x, hx⟩ : ∃ x, s.heap[q]? = some x := ⟨s.heap[q], Array.getElem?_eq_getElem hq⟩
  obtain ⟨x', hx', e1, e2, e3⟩ := h6 q x hx
  have e4 : x'.slots = x.slots := Array.ext_getElem? (fun i => e3 i (fun z => by cases z))
  rw [e4] at e1
  have hU : U.heap[q]? = some x' := hx'
  rw [hU, hx, e1]
section Rows
variable {G : bj_G} {Y : bj_Y} {n : Nat} {K : bj_K} {ad : Nat → Nat} {Q : bj_R → bj_M → Prop} {cs sl pc : Nat} {L : List (Option Value)} {st : List Value} {M : bj_M}
set_option maxHeartbeats 4000000 in
/-- throw new E("text") -/
theorem bj_throw {cls text : String} {names : List String} {ik is ic : Nat} (d0 : decode Y.2.2.1 pc = .ok (.new ik, 3)) (d3 : decode Y.2.2.1 (pc + 3) = .ok (.dup, 1)) (d4 : decode Y.2.2.1 (pc + 4) = .ok (.ldc is, 2)) (d6 : decode Y.2.2.1 (pc + 6) = .ok (.invokespecial ic, 3)) (d9 : decode Y.2.2.1 (pc + 9) = .ok (.athrow, 1))
    (htr0 : G.1.stackTraces = false) (hcls : Bundle.fit cls = true) (hnames : ∀ x ∈ names, Bundle.fit x = true) (hnl : names.length ≤ 2) (hn6 : 6 ≤ n) (w1 : Cond.classLink Y.1 ik cls ∈ G.2.2.2.2) (w2 : Cond.initialized cls ∈ G.2.2.2.2) (w3 : Cond.stringRef Y.1 is text ∈ G.2.2.2.2) (w4 : ∀ w ∈ Bundle.ownAtoms Y.1 ic cls names, w ∈ G.2.2.2.2)
    (hout : ∀ x ∈ tableOf Y.2.2.2.2.2, covers x (pc + 9) = false) (hc : cs + 1 ≤ K.2.2.1) (hs : sl + 6 ≤ K.2.2.2) (hst : (st.map fun v => v.category).sum ≤ 8) (hq : Q (.inr cls) M) : bj_S G Y n K ad Q cs sl pc L st M := by
  intro p e s m ar be me c A H lo ls C hW hS hl T hT X
  subst hT
  have htr : e.platform.stackTraces = false := (show e.platform.stackTraces = G.1.stackTraces by rw [X.admits.platform]).trans htr0
  have Xb := bj_rebase X (R' := { frames := n, locals := 36 * n, cells := 1, slots := 6 }) (Nat.le_refl _) (Nat.le_refl _) (by show cs + 1 ≤ K.1 + K.2.2.1; omega) (by show sl + 6 ≤ K.2.1 + K.2.2.2; omega)
  have hw : ∀ w ∈ G.2.2.2.2, w.before ar ((T.setVm s.vm).setFrames (.invoking m ar :: be)) = true := (C.fc ((T.setVm s.vm).setFrames (.invoking m ar :: be)) ar (State.WarmedH.refl s) hS.1 hS.2.1).1
  have hown : ((T.setVm s.vm).setFrames (.invoking m ar :: be)).vm.findClass Y.1 = some m.cls := C.ow
  have hsame0 : ∀ U : State, ((T.setVm s.vm).setFrames (.invoking m ar :: be)).sameButNew ({ U with vm := s.vm } : State) [] (0 + 1) (0 + 6) → (T.setVm s.vm).sameButNew ({ U with vm := s.vm } : State) [] 1 6 := by
    intro U hU
    obtain ⟨e1, e2⟩ := hU
    rw [State.setFrames_setFrames] at e1
    exact ⟨e1, e2⟩
  have hheap : ((T.setVm s.vm).setFrames (.invoking m ar :: be)).heap = T.heap := rfl
  have hvm : ((T.setVm s.vm).setFrames (.invoking m ar :: be)).vm = s.vm := rfl
  generalize (T.setVm s.vm).setFrames (.invoking m ar :: be) = s' at Xb hw hown hsame0 hheap hvm
  have hins : (Cond.instantiable cls 6).before ar s' = true := hw _ (w4 _ (by simp [Bundle.ownAtoms]))
  obtain ⟨vm₁, cX, kX, hfX, hkX, -, -, X₁, st1⟩ := Xb.newCold C.ex (own := Y.1) (C := cls) (index := ik) (n := 6) hown (hw _ w1) hins (hw _ w2)
    (g := F0 m pc ls st) rfl (by rw [C.by]; exact d0) (Nat.le_refl _) (Nat.le_refl _)
  generalize hT1 : (T.setVm vm₁).pushCell { cls := cX, slots := kX.instanceTypes.map defaultValue, vm := .none } = T1 at X₁ st1
  have hcat : (Value.ref T.heap.size).category = 1 := rfl
  have hcellA : T1.heap[T.heap.size]? = some (freshCell cX kX) := by rw [← hT1]; exact State.heap_pushCell_size _ _
  have d3' : decode c.code (pc + 3) = .ok (.dup, 1) := by rw [C.by]; exact d3
  have d4' : decode c.code (pc + 4) = .ok (.ldc is, 2) := by rw [C.by]; exact d4
  obtain ⟨-, -, -, sa, -, -, -, -, -, hev⟩ := Cond.stringRef_spec hown (hw _ w3)
  obtain ⟨U, hsteps, hrun, hend, hWU, hsame, ce, hce, hO⟩ := X₁.ctorThrowS C.ex htr (own := Y.1) (cls := cls) (names := names) (ic := ic) hown hcls hnames (fun w h => hw _ (w4 w h)) (fun x hx => nomatch hx) hfX hkX hcellA (by rw [hheap]; exact Nat.le_refl _) (msg := .ref sa) rfl
    (g := { method := m, pc := pc + 6, locals := ls, stack := .ref sa :: .ref T.heap.size :: .ref T.heap.size :: st, locked := none }) rfl (hl.1.1.trans C.ml.symm) rfl rfl (rest := st) rfl
    (by rw [C.by]; exact d6) (by rw [C.by]; exact d9) (by rw [C.tb]; exact hout) (by show names.length + 3 < n; omega) (by
      show 2 * 0 + ((Value.ref T.heap.size :: st).map fun v => v.category).sum + (13 * (names.length + 1) + 42) ≤ 36 * n
      simp only [List.map_cons, List.sum_cons, hcat]; omega) C.lk
  rw [hvm] at hsame
  have hsm := hsame0 U hsame
  have hold := bj_old (s := T.setVm s.vm) hsm
  have hcl : s.vm.findClass cls = some ce.cls := by
    have h9 := hO.cls
    rw [hvm] at h9
    exact h9
  have hWs : s.WarmedH U.vm := State.WarmedH.trans (t := s') (by rw [hvm]; exact State.WarmedH.refl s) hWU
  have hall : s.sameButNew ({ U with vm := s.vm } : State) lo K.2.2.1 K.2.2.2 := by
    have h3 := X.same.trans hsm
    rw [List.append_nil] at h3
    exact h3.mono hc hs
  refine ⟨U, ?_, .threw T.heap.size, hrun, hend, Or.inr ⟨T.heap.size, cls, ce, M, lo, rfl, hq, hW.kept hold.2, ⟨Nat.le_trans hS.1 hold.1, fun q h1 h2 => (hold.2 q (Nat.lt_of_lt_of_le h1 hS.1)).trans (hS.2.1 q h1 h2)⟩, hce, hO.vm, hcl, hWs, hall, hS.2.2⟩⟩
  refine st1 _ ?_
  show Steps p.tables e be (T1.setTop { method := m, pc := pc + 3, locals := ls, stack := .ref T.heap.size :: st, locked := none }) _
  jvm_step X₁.here [X₁.here.top, C.ex, d3', Value.category]
  exact X₁.ldcString C.ex (own := Y.1) (text := text) (index := is) (a := sa) hown (hw _ w3) hev
    (g := { method := m, pc := pc + 4, locals := ls, stack := .ref T.heap.size :: .ref T.heap.size :: st, locked := none }) rfl d4' _ hsteps
/-- no handler here: the exception leaves the body -/
theorem bj_out {E : String} (hout : ∀ x ∈ tableOf Y.2.2.2.2.2, covers x pc = false) (hc : cs ≤ K.2.2.1) (hs : sl ≤ K.2.2.2) (hq : Q (.inr E) M) : bj_X G Y n K ad Q cs sl pc L E M := by
  intro p e s m ar be me c A H lo ls x ce st T C hW hS hl hx hv hcl hT X
  subst hT
  obtain ⟨st1, hrun, hend, hWU, hsm⟩ := X.leaveThrown x (g := F0 m pc ls st) rfl rfl rfl (by rw [C.tb]; exact hout) C.lk
  exact ⟨_, st1, .threw x, hrun, hend, Or.inr ⟨x, E, ce, M, lo, rfl, hq, hW, hS.F rfl, hx, hv, hcl, hWU, hsm.mono hc hs, hS.2.2⟩⟩
end Rows
/-! the search for a handler, its classes linked or not -/
theorem bj_goStep {Q : Handler → Pre} {E : CtlPost} {e : Env} {d : Bool} {acts : List Action} {s : State} {f : JFrame} {a : Addr} {x : ExceptionTableEntry} {t : List ExceptionTableEntry} {c : ClassId} {cell : Cell} {b : Bool} (hx : covers x f.pc = true) (h0 : x.catchType ≠ 0)
    (hl : s.vm.ClassLinks e.platform f.method.cls x.catchType c) (hcell : s.heap[a]? = some cell) (hobj : ∀ k, cell.vm ≠ .statics k) (hk : ∃ k, s.vm.classes[cell.cls]? = some k) (hc : ∃ k, s.vm.classes[c]? = some k) (hb : s.vm.assignable cell.cls c = b) :
    wp (findHandler.go f a (x :: t)) Q E e d acts s ↔ (if b = true then Q (.found x.handlerPc) d acts (s.setVm (s.vm.noted f.method.cls x.catchType (.cls c))) else wp (findHandler.go f a t) Q E e d acts (s.setVm (s.vm.noted f.method.cls x.catchType (.cls c)))) := by
  simp only [covers] at hx
  obtain ⟨ha, ht⟩ := (resolveClass_links e.toSetting hl).op (op := VmOp.resolveClass f.method.cls x.catchType) rfl
  have hal : s.vm.Alike (s.vm.noted f.method.cls x.catchType (.cls c)) := (Vm.Alike.refl s.vm).noted _ _ _
  obtain ⟨k1, hk1⟩ := hk
  obtain ⟨k2, hk2⟩ := hc
  obtain ⟨k1', hk1', -⟩ := hal.2.2 _ _ hk1
  obtain ⟨k2', hk2', -⟩ := hal.2.2 _ _ hk2
  have hb' : (s.vm.noted f.method.cls x.catchType (.cls c)).assignable cell.cls c = b := by rw [hal.assignable]; exact hb
  cases b <;> simp [findHandler.go, hx, h0, ha, ht, hcell, hobj, hk1', hk2', hb', VmOp.dirties, VmOp.acts]
theorem bj_caught {tb : Tables} {e : Env} {s target : State} {g : JFrame} {c : Code} {below : List Frame} {a : Addr} {pc : Nat} {vm' : Vm} (h : At s g.method c below)
    (hfind : ∀ (Q : Handler → Pre) (E : CtlPost) (d : Bool) (acts : List Action), wp (findHandler g a) Q E e d acts ((s.setTop g).pushFrame (.throwing a)) ↔ Q (.found pc) d acts (((s.setTop g).pushFrame (.throwing a)).setVm vm'))
    (hrest : Steps tb e below ((s.setVm vm').setTop { g with pc := pc, stack := [.ref a] }) target) : Steps tb e below ((s.setTop g).pushFrame (.throwing a)) target := by
  obtain ⟨hgo, hw⟩ := h.throwing a
  refine Steps.head hgo hw ?_
  have hstep : ∀ r : List Frame, (stepThrowing e ((s.setTop g).pushFrame (.throwing a)) a (.java g :: r)).Is ((((s.setTop g).pushFrame (.throwing a)).setVm vm').setFrames (.java { g with pc := pc, stack := [.ref a] } :: r)) [] := by
    intro r
    simp only [stepThrowing, searchFrame, vmDo]
    generalize hr : Sem.go _ e false [] ((s.setTop g).pushFrame (.throwing a)) = res
    obtain ⟨as, rfl, ha⟩ := Sem.eq_ok_of hr (a := Handler.found pc) (s' := ((s.setTop g).pushFrame (.throwing a)).setVm vm') (acts' := []) (by simp [hfind _ _ _ _])
    exact ⟨rfl, ha⟩
  rw [stepThread_throwing (frames_entered h.top _), (hstep _).1]
  obtain ⟨g₀, hg⟩ := Option.isSome_iff_exists.mp h.top
  obtain ⟨r, hr⟩ := State.topJava?_eq_some.mp hg
  have hr' : (s.setVm vm').frames = .java g₀ :: r := hr
  rw [State.setTop_of_frames _ hr'] at hrest
  rw [State.pushFrame, State.setTop_of_frames _ hr, State.setFrames_setFrames]
  rw [hr]
  show Steps tb e below (((s.setVm vm').setFrames (.throwing a :: (s.setFrames (.java g :: r)).frames)).setFrames (.java { g with pc := pc, stack := [.ref a] } :: r)) target
  rw [State.setFrames_setFrames]
  exact hrest
/-- what a row of the table does with an exception of class E: it is passed (b = false), or it catches (b = true) -/
def bj_hit (TB : List Cond) (own E : String) (b : Bool) (x : ExceptionTableEntry) (name : String) : Prop := x.catchType ≠ 0 ∧ Cond.classLink own x.catchType name ∈ TB ∧ (if b = true then Cond.castable E name ∈ TB else Cond.not (.castable E name) ∈ TB)
section Rows2
variable {G : bj_G} {Y : bj_Y} {n : Nat} {K : bj_K} {ad : Nat → Nat} {Q : bj_R → bj_M → Prop} {cs sl pc : Nat} {L : List (Option Value)} {st : List Value} {M : bj_M}
theorem bj_catch {E : String} (pre : List (ExceptionTableEntry × String)) (x : ExceptionTableEntry) (nm : String) (suf : List ExceptionTableEntry) (hsplit : tableOf Y.2.2.2.2.2 = pre.map (·.1) ++ x :: suf) (hpre : ∀ z ∈ pre, covers z.1 pc = true ∧ bj_hit G.2.2.2.2 Y.1 E false z.1 z.2) (hx : covers x pc = true) (hh : bj_hit G.2.2.2.2 Y.1 E true x nm)
    (kk : ∀ q : Nat, bj_S G Y n K ad Q cs sl x.handlerPc L [.ref q] M) : bj_X G Y n K ad Q cs sl pc L E M := by
  intro p e s m ar be me c A H lo ls q ce st T C hW hS hl hq hv hcl hT X
  subst hT
  have hpl : e.platform.magicAccessors = ({} : Platform).magicAccessors := by rw [X.admits.platform]
  have hobj : ∀ k, ce.vm ≠ .statics k := fun k h => by rw [hv] at h; cases h
  obtain ⟨k0, hk0, -⟩ := Vm.findClass_spec hcl
  -- one row of the table
  have row : ∀ (b : Bool) (z : ExceptionTableEntry) (name : String), bj_hit G.2.2.2.2 Y.1 E b z name → ∃ cz : ClassId, s.vm.ClassLinks e.platform m.cls z.catchType cz ∧ s.vm.assignable ce.cls cz = b := by
    intro b z name hz
    obtain ⟨cz, hcz, hlk⟩ := Cond.classLink_spec C.ow (C.ts _ hz.2.1) e.platform hpl
    refine ⟨cz, hlk, ?_⟩
    cases b with
    | true =>
      obtain ⟨c3, c4, hc3, hc4, hasg⟩ := Cond.castable_spec (C.ts _ (by simpa using hz.2.2))
      cases hc3.symm.trans hcl
      cases hc4.symm.trans hcz
      exact hasg
    | false =>
      have hno : (Cond.not (.castable E name)).before ar s = true := C.ts _ (by simpa using hz.2.2)
      have hv9 := Cond.holds_not_iff.mp hno
      simp only [Cond.value, hcl, hcz] at hv9
      exact Option.some.inj hv9
  have go : ∀ (l : List (ExceptionTableEntry × String)) (S : State), s.WarmedH S.vm → S.heap[q]? = some ce → (∀ z ∈ l, covers z.1 pc = true ∧ bj_hit G.2.2.2.2 Y.1 E false z.1 z.2) →
      ∃ vm', s.WarmedH vm' ∧ ∀ (Q : Handler → Pre) (E : CtlPost) (d : Bool) (acts : List Action), wp (findHandler.go (F0 m pc ls st) q (l.map (·.1) ++ x :: suf)) Q E e d acts S ↔ Q (.found x.handlerPc) d acts (S.setVm vm') := by
    intro l
    induction l with
    | nil =>
      intro S hWS hcS _
      obtain ⟨cz, hlk, hasg⟩ := row true x nm hh
      obtain ⟨dk, _, _, kt, hd, _, _, _, _, hkt, _, hopen⟩ := hlk.here
      obtain ⟨kt', hkt', -⟩ := hWS.alike.2.2 _ _ hkt
      obtain ⟨k0', hk0', -⟩ := hWS.alike.2.2 _ _ hk0
      exact ⟨_, hWS.noted hd hopen (State.rightAt_cls hlk), fun Q E d acts => by
        rw [List.map_nil, List.nil_append, bj_goStep (b := true) hx hh.1 (hWS.classLinks hlk) hcS hobj ⟨k0', hk0'⟩ ⟨kt', hkt'⟩ (by rw [hWS.alike.assignable]; exact hasg)]
        simp⟩
    | cons z zs ih =>
      intro S hWS hcS hz
      obtain ⟨hcov, hz1⟩ := hz z List.mem_cons_self
      obtain ⟨cz, hlk, hasg⟩ := row false z.1 z.2 hz1
      obtain ⟨dk, _, _, kt, hd, _, _, _, _, hkt, _, hopen⟩ := hlk.here
      obtain ⟨kt', hkt', -⟩ := hWS.alike.2.2 _ _ hkt
      obtain ⟨k0', hk0', -⟩ := hWS.alike.2.2 _ _ hk0
      obtain ⟨vm', hW', hq9⟩ := ih (S.setVm (S.vm.noted m.cls z.1.catchType (.cls cz))) (hWS.noted hd hopen (State.rightAt_cls hlk)) hcS (fun y hy => hz y (List.mem_cons_of_mem _ hy))
      exact ⟨vm', hW', fun Q E d acts => by
        rw [List.map_cons, List.cons_append, bj_goStep (b := false) hcov hz1.1 (hWS.classLinks hlk) hcS hobj ⟨k0', hk0'⟩ ⟨kt', hkt'⟩ (by rw [hWS.alike.assignable]; exact hasg)]
        simpa [State.setVm_twice] using hq9 Q E d acts⟩
  obtain ⟨vm', hW', hfind⟩ := go pre ((T.setTop (F0 m pc ls st)).pushFrame (.throwing q)) X.warmed hq hpre
  obtain ⟨t, a1, b1⟩ := kk q p e s m ar be me c A T.heap lo ls C hW hS hl (T.setVm vm') rfl (X.noted hW')
  refine ⟨t, bj_caught (g := F0 m pc ls st) (vm' := vm') X.here (fun Q E d acts => ?_) a1, b1⟩
  have hm9 : ((T.setTop (F0 m pc ls st)).pushFrame (.throwing q)).vm.method? m = some me := X.method'
  rw [W.findHandler_eq (f := F0 m pc ls st) hm9 X.code, C.tb, hsplit]
  exact hfind Q E d acts
end Rows2
end BT
