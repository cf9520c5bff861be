/-! THE CLAIM OUT OF ONE WALK OF THE LAW'S BODY. Your part is whole_start (and what it stands on); all else here is the same for every law, but numbers. -/
def R_law : String := "BeatPathOfficeLaw"
def lw_P (b : Addr) (xs : List Int32) (args : Array Value) (s : State) : Prop := args = #[.ref b] ∧ s.IntsAt b xs ∧ xs.length ≤ 3073 ∧ (Jvm.Cond.and given_1 narrow_1).before args s = true
def lw_Q (_ : Array Value) (s : State) (o : Outcome) (t : State) : Prop := o = .returned (some (.int 1)) ∧ Framed s o t [] 647849 7152524
def lw_Z (below : List Frame) (a : Array Value) (s : State) : State → Prop := fun t => ∃ o, t.status = .running ∧ Ended t below o ∧ lw_Q a s o t
/-- the law's own end, with 1 on the stack, nothing written that was there before, its room as the claim has it -/
theorem lw_ret {p : Program} {l : Launch} {e : Env} {s : State} {m : MethodId} {below : List Frame} {meth : Method} {c : Code} {b : Nat} (hx : p.tables.exec = Jvm.exec) (hb : c.code = code) (hr : meth.sig.returnType = ret) (hlocks : meth.locks = false) {pc : Nat} {H : Heap} {ls : Array Slot} (hdg : decode code pc = .ok (.ireturn, 1)) : W p l e room_1 s m #[Value.ref b] below meth c H [] 647849 7152524 (lw_Z below #[Value.ref b] s) (F0 m pc ls [.int 1]) := by
  intro T hT X
  obtain ⟨fs, hret, hrun, hended, hW, hframe⟩ := X.leave (v := some (.int 1)) (hlocks := hlocks) (fun h => by rw [hr] at h; cases h)
  have hmeth' : T.vm.method? m = some meth := X.method'
  refine ⟨T.setFrames fs, ?_, .returned (some (.int 1)), hrun, hended, rfl, ⟨_, rfl⟩, hW, hframe⟩
  jvm_step X.here [X.here.top, hx, hb, hdg, hmeth', hr, ret, narrow_b1]
  (try refine ⟨rfl, ?_⟩); (try refine ⟨rfl, ?_⟩)
  first | (intro acts; rw [hret _ acts rfl rfl rfl]) | rw [hret _ _ rfl rfl rfl]
  exact Steps.refl _
/-- what holds at the law's entry: the machine, the code, the tables' words (any of lw_tbl by 'hts w (by decide +kernel)'), the script of L ints xs at the cell b, what the Statement gives of the start (any of its parts by flat_of_before) -/
def lw_At (p : Program) (s : State) (m : MethodId) (meth : Method) (c : Code) (b L : Nat) (xs : Nat → Int32) : Prop :=
  p.tables.exec = Jvm.exec ∧ c.code = code ∧ meth.sig.returnType = ret ∧ c.maxLocals = 7 ∧ s.vm.findClass R_law = some m.cls ∧ (∀ w ∈ lw_tbl, w.before #[Value.ref b] s = true) ∧ va_X b L xs s s.heap ∧ b < s.heap.size ∧ meth.locks = false ∧ (Jvm.Cond.and given_1 narrow_1).before #[Value.ref b] s = true ∧ meth.name = "law" ∧ c.exceptionTable.isEmpty = true

section WD

def wdK : Cond → Bool
  | .arrayOver (.array .int) => true
  | .laysStatic .. => true
  | .stringRef .. => true
  | w => Jvm.Free.Fmt.ridesM w
set_option maxRecDepth 100000 in
theorem wd_all : lw_tbl.all wdK = true := by decide +kernel
theorem wd_lay {s V : State} {a a' : Array Value} {C n d : String} (hW : s.WarmedH V.vm) (hk : ∀ q : Nat, q < s.heap.size → V.heap[q]? = s.heap[q]?) (h : (Cond.laysStatic C n d).before a s = true) : (Cond.laysStatic C n d).before a' V = true := by
  obtain ⟨c, k, i, f, ad, cell, hc, hi, hst, ha, hcell, hs, hcls, hlt, hty⟩ := Cond.laysStatic_spec h
  obtain ⟨k', hi', he⟩ := State.fieldFound?_setVm hW.alike hi
  have hi2 : V.fieldFound? C n d = some (c, k', i, f) := hi'
  have hc2 : V.vm.findClass C = some c := by rw [hW.alike.findClass]; exact hc
  have ha2 : k'.statics = some ad := by rw [he]; exact ha
  have hty2 : k'.staticTypes[f.slot]? = some f.type := by rw [he]; exact hty
  have hcell2 : V.heap[ad]? = some cell := (hk ad (Array.getElem?_eq_some_iff.mp hcell).1).trans hcell
  simp [Cond.before, Cond.holds, Cond.value, hc2, hi2, hst, ha2, hcell2, hs, hcls, hlt, hty2]
theorem wd_ref {s V : State} {a a' : Array Value} {C n d : String} (hW : s.WarmedH V.vm) (hk : ∀ q : Nat, q < s.heap.size → V.heap[q]? = s.heap[q]?) (h : (Cond.laysStatic C n d).before a s = true) (h2 : (Cond.isRef (.static C n d)).before a s = true) : (Cond.isRef (.static C n d)).before a' V = true := by
  obtain ⟨c, k, i, f, ad, cell, hc, hi, hst, ha, hcell, hs, hcls, hlt, hty⟩ := Cond.laysStatic_spec h
  obtain ⟨k', hi', he⟩ := State.fieldFound?_setVm hW.alike hi
  have hi2 : V.fieldFound? C n d = some (c, k', i, f) := hi'
  have ha2 : k'.statics = some ad := by rw [he]; exact ha
  have hcell2 : V.heap[ad]? = some cell := (hk ad (Array.getElem?_eq_some_iff.mp hcell).1).trans hcell
  have hv : cell.slots[f.slot]? = some cell.slots[f.slot] := Array.getElem?_eq_getElem hlt
  have e1 : (Term.static C n d).eval a s none [] s = some cell.slots[f.slot] := by
    simp [Term.eval, State.fieldNamed?, hi, hst, ha, hcell, hs, hv]
  have e2 : (Term.static C n d).eval a' V none [] V = some cell.slots[f.slot] := by
    simp [Term.eval, State.fieldNamed?, hi2, hst, ha2, hcell2, hs, hv]
  simp only [Cond.before, Cond.holds, Cond.value, e1] at h2
  simp only [Cond.before, Cond.holds, Cond.value, e2]
  exact h2
theorem wd_go {w : Cond} {s V : State} {a a' : Array Value} (hw : wdK w = true) (hW : s.WarmedH V.vm) (hk : ∀ q : Nat, q < s.heap.size → V.heap[q]? = s.heap[q]?) (h : w.before a s = true) : w.before a' V = true := by
  unfold wdK at hw
  split at hw
  · rw [← Cond.arrayOver_setVmC hW.alike] at h
    exact h
  · exact wd_lay hW hk h
  · exact Cond.stringRef_warmed hW h
  · exact Jvm.Free.Fmt.rides_of_M _ hw hW h
theorem wd_ex0 : Cond.laysStatic "java/lang/Throwable" "UNASSIGNED_STACK" "[Ljava/lang/StackTraceElement;" ∈ lw_tbl := by decide +kernel
theorem wd_ex1 : Cond.laysStatic "java/lang/Throwable" "SUPPRESSED_SENTINEL" "Ljava/util/List;" ∈ lw_tbl := by decide +kernel
theorem wd_flat : bw_ext.all (fun w => decide (w ∈ flatC (Jvm.Cond.and given_1 narrow_1))) = true := by decide +kernel
theorem wd_ext {args : Array Value} {s : State} (h : (Jvm.Cond.and given_1 narrow_1).before args s = true) : ∀ w ∈ bw_ext, w.before args s = true := fun w hw => flat_of_before _ h w (of_decide_eq_true (List.all_eq_true.mp wd_flat w hw))
theorem wd_rest : (bw_ext.drop 2).all Jvm.Free.Fmt.ridesM = true := by decide +kernel
/-- every word stands as long as nothing old is written -/
theorem wd_TB {s V : State} {a0 a' : Array Value} (ht : ∀ w ∈ lw_tbl, w.before a0 s = true) (hx : ∀ w ∈ bw_ext, w.before a0 s = true) (hW : s.WarmedH V.vm) (hk : ∀ q : Nat, q < s.heap.size → V.heap[q]? = s.heap[q]?) : ∀ w ∈ bw_TB, w.before a' V = true := by
  intro w hw
  rcases List.mem_append.mp hw with h | h
  · exact wd_go (List.all_eq_true.mp wd_all w h) hW hk (ht w h)
  · have hc : w = Cond.isRef (.static "java/lang/Throwable" "UNASSIGNED_STACK" "[Ljava/lang/StackTraceElement;") ∨ w = Cond.isRef (.static "java/lang/Throwable" "SUPPRESSED_SENTINEL" "Ljava/util/List;") ∨ w ∈ bw_ext.drop 2 := by
      rcases List.mem_cons.mp h with e | h1
      · exact Or.inl e
      · rcases List.mem_cons.mp h1 with e | h2
        · exact Or.inr (Or.inl e)
        · exact Or.inr (Or.inr h2)
    rcases hc with rfl | rfl | h2
    · exact wd_ref hW hk (ht _ wd_ex0) (hx _ h)
    · exact wd_ref hW hk (ht _ wd_ex1) (hx _ h)
    · exact Jvm.Free.Fmt.rides_of_M _ (List.all_eq_true.mp wd_rest w h2) hW (hx w h)
/-! the classes -/
theorem ar_prim {s : State} {a : Array Value} {ty : FieldType} (hty : ∀ C, ty ≠ .object C) (h : (Cond.arrayClass ty).before a s = true) : ∃ cA, ArrOfT s cA ty ∧ va_RA s cA ty := by
  obtain ⟨c, k, comp, h1, h2, h3⟩ := Cond.arrayClass_spec h
  refine ⟨c, fun n z => ⟨fun q hq => (by cases hq), k, h2, comp, h3⟩, ?_⟩
  cases ty with
  | object C => exact absurd rfl (hty C)
  | _ => exact h1
theorem ar_obj {s : State} {a : Array Value} {C : String} (h : (Cond.arrayOver (.object C)).before a s = true) : ∃ cA, ArrOfT s cA (.object C) ∧ va_RA s cA (.object C) := by
  obtain ⟨comp, c, k, h1, h2, h3, h4, h5⟩ := Cond.arrayOver_spec h
  exact ⟨c, fun n z => ⟨fun q hq => (by cases hq), k, h3, comp, h4⟩, k, comp, h3, h4, h1, h5⟩
theorem ar_arr {s : State} {a : Array Value} {t : FieldType} (h : (Cond.arrayOver (.array t)).before a s = true) : ∃ cA, ArrOfT s cA (.array t) ∧ va_RA s cA (.array t) := by
  obtain ⟨comp, c, k, h1, h3, h4, h5⟩ := Cond.arrayOver_specA h
  exact ⟨c, fun n z => ⟨fun q hq => (by cases hq), k, h3, comp, h4⟩, h5⟩
/-- what the classes' and arrays' numbers are -/
theorem wd_K {s : State} {a : Array Value} (ht : ∀ w ∈ bw_TB, w.before a s = true) : ∃ (D : va_G) (c : Nat → ClassId), va_K D bw_cl [(c 0, .int), (c 1, .boolean), (c 2, .long), (c 3, .object "BeatPathOffice$Batch"), (c 4, .array .int)] s := by
  obtain ⟨c0, i0, k0⟩ := u_known ht in_Ba (ht _ wn_Ba)
  obtain ⟨c1, i1, k1⟩ := u_known ht in_Pa (ht _ wn_Pa)
  obtain ⟨c2, i2, k2⟩ := u_known ht in_Co (ht _ wn_Co)
  obtain ⟨c3, i3, k3⟩ := u_known ht in_Lo (ht _ wn_Lo)
  obtain ⟨c4, i4, k4⟩ := u_known ht in_Of (ht _ wn_Of)
  obtain ⟨c5, i5, k5⟩ := u_known ht in_Mo (ht _ wn_Mo)
  obtain ⟨a0, A0⟩ := ar_prim (ty := .int) (fun C h => by cases h) (ht _ wz_52)
  obtain ⟨a1, A1⟩ := ar_prim (ty := .boolean) (fun C h => by cases h) (ht _ wz_641)
  obtain ⟨a2, A2⟩ := ar_prim (ty := .long) (fun C h => by cases h) (ht _ wz_795)
  obtain ⟨a3, A3⟩ := ar_obj (ht _ wz_26)
  obtain ⟨a4, A4⟩ := ar_arr (ht _ wz_60)
  refine ⟨(fun n => [c0, c1, c2, c3, c4, c5].getD n 0, fun n => [i0, i1, i2, i3, i4, i5].getD n i0), fun n => [a0, a1, a2, a3, a4].getD n 0, fun n q hq => ?_, fun n q hq => ?_⟩
  · match n, hq with
    | 0, hq => cases hq; exact k0
    | 1, hq => cases hq; exact k1
    | 2, hq => cases hq; exact k2
    | 3, hq => cases hq; exact k3
    | 4, hq => cases hq; exact k4
    | 5, hq => cases hq; exact k5
    | _ + 6, hq => cases hq
  · match n, hq with
    | 0, hq => cases hq; exact A0
    | 1, hq => cases hq; exact A1
    | 2, hq => cases hq; exact A2
    | 3, hq => cases hq; exact A3
    | 4, hq => cases hq; exact A4
    | _ + 5, hq => cases hq
/-- a smaller room -/
theorem wd_room {p : Program} {l : Launch} {e : Env} {s : State} {m : MethodId} {args : Array Value} {below : List Frame} {meth : Method} {c : Code} {T : State} {locs : List Loc} {cs sl : Nat} (X : Stand p l e room_1 s m args below meth c T locs cs sl) : Stand p l e (bj_room 12 KL) s m args below meth c T locs cs sl := by
  refine ⟨X.admits, X.cas, X.clock, X.frames, ?_, X.hears, X.method, X.code, X.here, X.tail, X.warmed, X.limits, X.bytes, X.same⟩
  have h := X.room
  simp only [State.hasRoom, Bool.and_eq_true, decide_eq_true_eq] at h ⊢
  obtain ⟨⟨⟨⟨h1, h2, h3, h4, h5, h6⟩, h7⟩, h8⟩, h9⟩ := h
  have e1 : room_1.locals = 442 := rfl
  have e2 : room_1.frames = 12 := rfl
  have e3 : room_1.cells = 647849 := rfl
  have e4 : room_1.slots = 7152524 := rfl
  have f1 : (bj_room 12 KL).locals = 432 := rfl
  have f2 : (bj_room 12 KL).frames = 12 := rfl
  have f3 : (bj_room 12 KL).cells = 647849 := rfl
  have f4 : (bj_room 12 KL).slots = 7152524 := rfl
  rw [e1] at h1 h4 h5
  rw [e2] at h2 h3
  rw [e3] at h7
  rw [e4] at h8
  rw [f1, f2, f3, f4]
  exact ⟨⟨⟨⟨by omega, h2, h3, by omega, by omega, h6⟩, h7⟩, h8⟩, h9⟩
end WD
set_option maxHeartbeats 4000000 in
/-- from the entry, for every script of at most 3073 ints, the law comes to its end with true -/
theorem whole_start {p : Program} {e : Env} {s : State} {m : MethodId} {below : List Frame} {meth : Method} {c : Code} (l : Launch) (htr : l.stackTraces = false) {b L : Nat} {xs : Nat → Int32} (hL : L ≤ 3073) (C0 : lw_At p s m meth c b L xs) : W p l e room_1 s m #[Value.ref b] below meth c s.heap [] 0 0 (lw_Z below #[Value.ref b] s) (entryFrame m ([Value.ref b] : List Value).toArray 7) := by
  obtain ⟨hx, hcode, hret, hml, hown, hts, hX, hbl, hlk, hgv, hnm, hex⟩ := C0
  have hxt := wd_ext hgv
  have hself : ∀ w ∈ bw_TB, w.before #[Value.ref b] s = true := wd_TB hts hxt (State.WarmedH.refl s) (fun _ _ => rfl)
  obtain ⟨D, ca, hK⟩ := wd_K hself
  have hF : bj_F (bw_G l D ca) (fun q => s.heap.size ≤ q) s s.heap := fun V a hV hz hk => ⟨wd_TB hts hxt hV (fun q hq => hk q hq (Nat.not_le_of_lt hq)), va_K.moved hV.alike hK⟩
  have C : bj_C (bw_G l D ca) Y_La_law (fun q => s.heap.size ≤ q) p s m #[Value.ref b] meth c := ⟨hx, hcode, hml, hown, hret, hlk, hnm, by rw [Array.isEmpty_iff.mp hex]; rfl, hF, fun q hq => hq⟩
  have hw := lw_body l D ca htr (b := b) (N0 := L) (xs := xs) hL p e s m #[Value.ref b] below meth c (fun q => s.heap.size ≤ q) s.heap [] _ ⟨hX, hbl, Nat.not_le_of_lt hbl⟩ C ⟨fun k y hk => (by cases hk), fun i j hi _ _ => absurd rfl hi, fun k hk => absurd rfl hk⟩ va_S.rf (bj_start [.ref b] (n := 7) (fun v hv => by rw [List.mem_singleton.mp hv]; rfl) (by show 1 ≤ 7; decide))
  intro T hT X
  obtain ⟨t, a1, o, b1, b2, b3⟩ := hw T hT (wd_room X)
  rw [entry_eq m [Value.ref b] (fun v hv => by rw [List.mem_singleton.mp hv]; rfl)]
  refine ⟨t, a1, o, b1, b2, ?_⟩
  rcases b3 with ⟨v, M1, L1, q1, q2, -, -, q5, q6, q7⟩ | ⟨y, E, ce, M1, L1, q1, q2, -⟩
  · have hv : v = some (.int 1) := Sum.inl.inj q2
    subst hv
    refine ⟨q1, ⟨_, q1⟩, q5, ?_⟩
    obtain ⟨z1, z2, z3, z4, z5, z6⟩ := q6
    refine ⟨z1, z2, z3, z4, z5, fun a cl hcl => ?_⟩
    obtain ⟨c', y1, y2, y3, y4⟩ := z6 a cl hcl
    refine ⟨c', y1, y2, y3, fun i _ => y4 i (fun hin => ?_)⟩
    have h1 : s.heap.size ≤ a := q7 _ hin
    have h2 := (Array.getElem?_eq_some_iff.mp hcl).1
    omega
  · cases q2
set_option maxHeartbeats 4000000 in
theorem lw_walk (l : Launch) (htr : l.stackTraces = false) (b : Addr) (xs : List Int32) : MetFree l x (headSpec (Jvm.Cond.code x code maxLocals ret :: tables_1) room_1) (lw_P b xs) (fun _ _ _ _ _ => True) lw_Q := by
  refine MetFree.of_bodyS (code := code) (maxLocals := maxLocals) (ret := ret) (by decide) ?_ ?_
  · intro args s m h hn
    obtain ⟨meth, c, h1, h2, h3, h4, h5, h6, -, -⟩ := Cond.code_spec hn (atoms_spec (ws := Jvm.Cond.code x code maxLocals ret :: tables_1) h _ List.mem_cons_self)
    exact ⟨meth, c, h1, h2, h3, h4, h5, h6⟩
  · intro p e s m args below meth c s₁ B hml0 hP _
    obtain ⟨rfl, hx, hbd, hgv⟩ := hP
    obtain ⟨scr, harrAt, hlist, hof, hsmall⟩ := hx
    obtain ⟨hcb, hkn, -, -⟩ := State.arrayAt?_spec harrAt
    have hown : s.vm.findClass R_law = some m.cls := findClass_of_methodNamed B.named
    have hts0 : ∀ c ∈ (Jvm.Cond.code x code maxLocals ret :: tables_1), c.before #[Value.ref b] s = true := atoms_spec (ws := Jvm.Cond.code x code maxLocals ret :: tables_1) B.pre
    have hts : ∀ w ∈ lw_tbl, w.before #[Value.ref b] s = true := k2_hts_sels lw_privs (fun w hw => hts0 w (List.mem_cons_of_mem _ hw)) lw_privs_ok
    have hml : c.maxLocals = 7 := B.maxLocals_eq (hts0 _ List.mem_cons_self)
    have X₀ : Stand p l e room_1 s m #[Value.ref b] below meth c s₁ [] 0 0 := Stand.of_body B
    have hh0 : s₁.heap = s.heap := by rw [B.state]; rfl
    have hsz : scr.slots.size = xs.length := by rw [← Array.length_toList, hlist, List.length_map]
    have hval : ∀ j : Nat, j < xs.length → scr.slots[j]? = some (.int (xs.getD j 0)) := fun j hj => by
      rw [← Array.getElem?_toList, hlist]
      simp [hj]
    have hbl : b < s.heap.size := (Array.getElem?_eq_some_iff.mp hcb).1
    have hX : va_X b xs.length (fun j => xs.getD j 0) s s.heap := ⟨scr, hcb, hof, hkn, hsz, hval⟩
    have hex : c.exceptionTable.isEmpty = true := by
      obtain ⟨methk, ck, h1, h2, -, -, -, -, h7, -⟩ := Cond.code_spec B.named (hts0 _ List.mem_cons_self)
      cases B.method.symm.trans h1
      cases X₀.code.symm.trans h2
      exact h7
    have K : W p l e room_1 s m #[Value.ref b] below meth c s₁.heap [] 0 0 (lw_Z below #[Value.ref b] s) (entryFrame m ([Value.ref b] : List Value).toArray 7) := by
      rw [hh0]
      exact whole_start l htr hbd ⟨B.exec, B.bytes, B.returns, hml, hown, hts, hX, hbl, B.notSynchronized, hgv, (name_of_methodNamed B.named B.method).1, hex⟩
    obtain ⟨t, a1, o, b1, b2, b3⟩ := K s₁ rfl X₀
    exact ⟨t, o, a1, b1, b2, b3⟩
theorem lw_pre_spec {args : Array Value} {s : State} (h : (Jvm.Cond.and given_1 narrow_1).before args s = true) (hr : rest_1_c.before args s = true) : ∃ (b : Addr) (xs : List Int32), lw_P b xs args s := by
  have hs := flat_of_before _ h
  have hq := flat_of_before _ hr
  have hc : (Cond.count 1).before args s = true := hs _ (by decide +kernel)
  have harr : (Cond.arrayOf (.arg 0) .int).before args s = true := hs _ (by decide +kernel)
  have hle : (Cond.le (.length (.arg 0)) (.int 3073)).before args s = true := hs _ (by decide +kernel)
  have hlen : (Cond.isInt (.length (.arg 0))).before args s = true := hq _ (by decide +kernel)
  have hall : (Cond.all (.arg 0) (.isInt (.elem (.arg 0) (.index 0)))).before args s = true := hq _ (by decide +kernel)
  obtain ⟨b, xs, hb, hx⟩ := State.ints_of_pre rfl harr hlen hall
  have hsm : xs.length < 2 ^ 31 := hx.choose_spec.2.2.2
  have hev : (Term.length (.arg 0)).eval args s none [] s = some (.int xs.length.toInt32) := hx.length_eval hb
  have hv := Cond.le_ints hev (show (Term.int 3073).eval args s none [] s = some (.int 3073) from rfl)
  have hd : xs.length.toInt32 ≤ 3073 := by
    simpa [Cond.before, Cond.holds, hv] using hle
  have hN : xs.length ≤ 3073 := (Int32.ofNat_le_ofNat hsm (by decide)).mp (show Int32.ofNat xs.length ≤ Int32.ofNat 3073 from hd)
  exact ⟨b, xs, Cond.one_arg hc (show args[0]? = some (.ref b) from hb), hx, hN, h⟩
theorem lw_comes (l : Launch) (htr : l.stackTraces = false) : Comes l x (Jvm.Cond.code x code maxLocals ret :: tables_1) room_1 (fun tb e args s => Calls_1 tb e args s ∧ rest_1 tb e args s ∧ Pre_1 tb e args s)
    (fun _ _ args s o t => lw_Q args s o t) := by
  intro p e ha hc hk s m args below hf hfit hheap happ hpre
  obtain ⟨b, xs, hP⟩ := lw_pre_spec hpre.2.2 hpre.2.1
  obtain ⟨k, o, h1, h2, h3, hQ⟩ := lw_walk l htr b xs p e ha hc hk s m args below hf ((Spec.applies_iff_loose hf).mp happ).1 hP trivial
  exact ⟨k, o, h1, h2, h3, hQ⟩
theorem lw_frame {s t : State} {o : Outcome} {args : Array Value} (h : Framed s o t [] 647849 7152524) :
    Framed s o t (fieldLocs frame_1_writes args s ++ arrayLocs frame_1_arrays args s ++ staticLocs frame_1_statics s) 647849 7152524 := h
theorem lw_limb (L : Cond) (hL : ∀ (args : Array Value) (s t : State), L.after args s (.returned (some (.int 1))) t = true) :
    ArmFor flags0 classFile x code maxLocals ret World_1 tables_1 room_1 Calls_1 rest_1 Pre_1
      (fun tb e a s o t => postC L tb e a s o t ∧ Framed s o t (fieldLocs frame_1_writes a s ++ arrayLocs frame_1_arrays a s ++ staticLocs frame_1_statics s) 647849 7152524) := by
  intro l hfl _ _ p e ha hc hk s m args below hf hfit hheap happ hpre
  obtain ⟨k, o, h1, h2, h3, rfl, hF⟩ := lw_comes l (by unfold Launch.stackTraces; rw [hfl]; decide) p e ha hc hk s m args below hf hfit hheap happ hpre
  exact ⟨k, _, h1, h2, h3, hL args s _, lw_frame hF⟩
theorem i_vc : Claimed_1_1 ∧ Claimed_1_2 := ⟨lw_limb limb_1_1 (fun args s t => by simp [limb_1_1, Cond.after, Cond.holds, Cond.value]), lw_limb limb_1_2 (fun args s t => Cond.after_iff.mpr (by
  first | (rw [show limb_1_2 = Cond.eq .result (.int 1) from rfl, Cond.eq_ints (x := 1) (y := 1) rfl rfl]; simp; done) | (simp [limb_1_2, Cond.value, Term.eval]; done)))⟩
