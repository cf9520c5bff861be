/-! the judgement's rows: fields, arrays, answers -/
section BC
variable {G : bj_G} {Y : bj_Y} {n : Nat} {K : bj_K} {ad : Nat → Nat} {Q : bj_R → bj_M → Prop} {cs sl pc : Nat} {L : List (Option Value)} {st : List Value} {M : bj_M}
theorem bj_mono {p : Program} {l : Launch} {e : Env} {R : Room} {s : State} {m : MethodId} {args : Array Value} {below : List Frame} {meth : Method} {c : Code} {H : Heap} {locs : List Loc} {cells slots : Nat} {Q Q' : State → Prop} {g : JFrame} (h : W p l e R s m args below meth c H locs cells slots Q g) (hi : ∀ t, Q t → Q' t) : W p l e R s m args below meth c H locs cells slots Q' g := by
  intro T hT X
  obtain ⟨t, a, b⟩ := h T hT X
  exact ⟨t, a, hi t b⟩
/-- more cells and slots than were made -/
theorem bj_wide {cs' sl' : Nat} (h1 : cs ≤ cs') (h2 : sl ≤ sl') (kk : bj_S G Y n K ad Q cs' sl' pc L st M) : bj_S G Y n K ad Q cs sl pc L st M :=
  fun p e s m ar be me c A H lo ls C hW hS hl => W.widen h1 h2 (kk p e s m ar be me c A H lo ls C hW hS hl)
/-- the post may be weakened -/
theorem bj_post {Q' : bj_R → bj_M → Prop} (h : ∀ r M, Q r M → Q' r M) (kk : bj_S G Y n K ad Q cs sl pc L st M) : bj_S G Y n K ad Q' cs sl pc L st M :=
  fun p e s m ar be me c A H lo ls C hW hS hl => bj_mono (kk p e s m ar be me c A H lo ls C hW hS hl) (fun t ht => by
    obtain ⟨o, h1, h2, h3⟩ := ht
    refine ⟨o, h1, h2, ?_⟩
    rcases h3 with ⟨v, M', Lc, g1, g2, g3⟩ | ⟨x, E, ce, M', Lc, g1, g2, g3⟩
    · exact Or.inl ⟨v, M', Lc, g1, h _ _ g2, g3⟩
    · exact Or.inr ⟨x, E, ce, M', Lc, g1, h _ _ g2, g3⟩)
/-! answers -/
theorem bj_iret {x : Int32} {ty : FieldType} (d : decode Y.2.2.1 pc = .ok (.ireturn, 1)) (hr : Y.2.2.2.2.1 = some ty) (hn : narrow ty (.int x) = .int x) (hc : cs ≤ K.1) (hs : sl ≤ K.2.1) (hq : Q (.inl (some (.int x))) M) : bj_S G Y n K ad Q cs sl pc L [.int x] M := by
  intro p e s m ar be me c A H lo ls C hW hS hl
  refine W.widen hc hs (bj_mono (W.zret (Qc := fun _ _ o t => o = .returned (some (.int x)) ∧ t.heap = H) (free := A) C.ex C.by (C.rt.trans hr) hn (fun t ht _ => ⟨rfl, ht⟩) hS.2.2 d C.lk) ?_)
  rintro t ⟨o, h1, h2, ⟨ho, hH⟩, Lc, ⟨-, hw, hsm⟩, hL⟩
  exact ⟨o, h1, h2, Or.inl ⟨_, M, Lc, ho, hq, by rw [hH]; exact hW, hS.F hH, hw, hsm, hL⟩⟩
theorem bj_vret (d : decode Y.2.2.1 pc = .ok (.return_, 1)) (hr : Y.2.2.2.2.1 = none) (hc : cs ≤ K.1) (hs : sl ≤ K.2.1) (hq : Q (.inl none) M) : bj_S G Y n K ad Q cs sl pc L [] M := by
  intro p e s m ar be me c A H lo ls C hW hS hl
  refine W.widen hc hs (bj_mono (W.vret (Qc := fun _ _ o t => o = .returned none ∧ t.heap = H) (free := A) C.ex C.by (C.rt.trans hr) (fun t ht _ => ⟨rfl, ht⟩) hS.2.2 d C.lk) ?_)
  rintro t ⟨o, h1, h2, ⟨ho, hH⟩, Lc, ⟨-, hw, hsm⟩, hL⟩
  exact ⟨o, h1, h2, Or.inl ⟨_, M, Lc, ho, hq, by rw [hH]; exact hW, hS.F hH, hw, hsm, hL⟩⟩
/-! fields -/
theorem bj_one {D : va_G} {cl : List vw_C} {a : Nat} {x : va_E} {H : Heap} (h : va_at D cl (a, x) H) : va_P D cl [(a, x)] H := by
  intro j q hj
  cases j with
  | zero => cases hj; exact h
  | succ j => simp at hj
theorem bj_get {C ref : String} {T : u_T} {N ci index k f : Nat} {fs : List Value} {v : Value} (d : decode Y.2.2.1 pc = .ok (.getfield index, 3)) (hin : ∀ w ∈ u_ws C T N, w ∈ G.2.2.2.2) (hc : G.2.2.1[ci]? = some (C, T, N)) (hf : f < N) (hlink : Cond.fieldLink Y.1 index ref (T f).2.1 (T f).2.2.1 ∈ G.2.2.2.2) (href : (T f).1 = ref) (hM : M k = some (.inr (ci, fs))) (hv : fs[f]? = some v)
    (kk : bj_S G Y n K ad Q cs sl (pc + 3) L (v :: st) M) : bj_S G Y n K ad Q cs sl pc L (.ref (ad k) :: st) M :=
  fun p e s m ar be me c A H lo ls C hW hS hl => va_get (ws := [(ad k, .inr (ci, fs))]) C.ex C.by C.ts hin C.ow C.k (bj_one (hW.1 k _ hM)) 0 rfl hc f hf (C.ts _ hlink) (fun x hx => by rw [← href]; exact hx) hv d (kk p e s m ar be me c A H lo ls C hW hS hl)
theorem bj_getN {C ref host : String} {T : u_T} {N ci index k f : Nat} {fs : List Value} {v : Value} (d : decode Y.2.2.1 pc = .ok (.getfield index, 3)) (hin : ∀ w ∈ u_ws C T N, w ∈ G.2.2.2.2) (hc : G.2.2.1[ci]? = some (C, T, N)) (hf : f < N) (hlink : Cond.fieldLinkNest Y.1 index ref (T f).2.1 (T f).2.2.1 host ∈ G.2.2.2.2) (href : (T f).1 = ref) (hM : M k = some (.inr (ci, fs))) (hv : fs[f]? = some v)
    (kk : bj_S G Y n K ad Q cs sl (pc + 3) L (v :: st) M) : bj_S G Y n K ad Q cs sl pc L (.ref (ad k) :: st) M :=
  fun p e s m ar be me c A H lo ls C hW hS hl => va_getN (ws := [(ad k, .inr (ci, fs))]) C.ex C.by C.ts hin C.ow C.k (bj_one (hW.1 k _ hM)) 0 rfl hc f hf (C.ts _ hlink) (fun x hx => by rw [← href]; exact hx) hv d (kk p e s m ar be me c A H lo ls C hW hS hl)
theorem bj_put {C ref : String} {T : u_T} {N ci index k f : Nat} {fs : List Value} {v : Value} {ty : FieldType} {ty0 : Nat → FieldType} (d : decode Y.2.2.1 pc = .ok (.putfield index, 3)) (hin : ∀ w ∈ u_ws C T N, w ∈ G.2.2.2.2) (hty : ∀ k, k < N → parseFieldDescriptor (T k).2.2.1 = some (ty0 k)) (hnm : ∀ a, a < N → ∀ b, b < N → a ≠ b → (T a).2.1 ≠ (T b).2.1)
    (hc : G.2.2.1[ci]? = some (C, T, N)) (hf : f < N) (hlink : Cond.fieldLink Y.1 index ref (T f).2.1 (T f).2.2.1 ∈ G.2.2.2.2) (href : (T f).1 = ref) (hfin : (T f).2.2.2 = false) (hd : ty0 f = ty) (hn : narrow ty v = v) (hfit : fits ty v = true) (hl9 : f < fs.length) (hM : M k = some (.inr (ci, fs)))
    (kk : bj_S G Y n K ad Q cs sl (pc + 3) L st (va_up M k (some (.inr (ci, fs.set f v))))) : bj_S G Y n K ad Q cs sl pc L (v :: .ref (ad k) :: st) M := by
  intro p e s m ar be me c A H lo ls Cx hW hS hl
  have hK := Cx.k
  have hts := Cx.ts
  have hap := va_apart (own := Y.1) hts hin ty0 hty hnm hK hc
  obtain ⟨r, h1, cell, q1, q2, q3, q4⟩ := hW.1 k _ hM
  have hr : r = (C, T, N) := Option.some.inj (h1.symm.trans hc)
  subst hr
  obtain ⟨hSl, hfc, kC, hkC, hkind⟩ := hK.1 ci _ hc
  obtain ⟨cf, kf, fi, fd, hi, hsl⟩ := hSl f hf
  have hlay := hts _ (hin _ (u_in_lay hf))
  unfold u_lay at hlay
  rw [if_neg (by rw [hfin]; decide)] at hlay
  have hst := (u_facts hfc hkC (u_lays hts hin hf) hi).1
  have h6 := u_store hfc hkC hkind hlay hi ((hty f hf).trans (by rw [hd])) hn hfit
  have hi' : s.fieldFound? ref (T f).2.1 (T f).2.2.1 = some (cf, kf, fi, fd) := by rw [← href]; exact hi
  refine W.putK Cx.ex Cx.by (f := fd) ⟨Cx.ow, hts _ hlink, ⟨_, _, _, hi'⟩, hst⟩ (by rw [q2]; exact h6) q1 q3 (by rw [hsl]; exact k2_hasslot (q4 f hf)) rfl rfl d fun H' e1 e2 e3 => ?_
  rw [hsl] at e1
  exact kk p e s m ar be me c A H' _ ls Cx (hW.set hM ⟨_, hc, t_OB.to (V := updV (vp_V fs) f v) ⟨_, e1, q2, q3, t_set q4 hap hf v⟩ (fun j _ => vp_updV_set hl9 v j)⟩ e3) (hS.put e2 e3 (hW.2.2 k (bj_ne hM))) hl
theorem bj_putN {C ref host : String} {T : u_T} {N ci index k f : Nat} {fs : List Value} {v : Value} {ty : FieldType} {ty0 : Nat → FieldType} (d : decode Y.2.2.1 pc = .ok (.putfield index, 3)) (hin : ∀ w ∈ u_ws C T N, w ∈ G.2.2.2.2) (hty : ∀ k, k < N → parseFieldDescriptor (T k).2.2.1 = some (ty0 k)) (hnm : ∀ a, a < N → ∀ b, b < N → a ≠ b → (T a).2.1 ≠ (T b).2.1)
    (hc : G.2.2.1[ci]? = some (C, T, N)) (hf : f < N) (hlink : Cond.fieldLinkNest Y.1 index ref (T f).2.1 (T f).2.2.1 host ∈ G.2.2.2.2) (href : (T f).1 = ref) (hfin : (T f).2.2.2 = false) (hd : ty0 f = ty) (hn : narrow ty v = v) (hfit : fits ty v = true) (hl9 : f < fs.length) (hM : M k = some (.inr (ci, fs)))
    (kk : bj_S G Y n K ad Q cs sl (pc + 3) L st (va_up M k (some (.inr (ci, fs.set f v))))) : bj_S G Y n K ad Q cs sl pc L (v :: .ref (ad k) :: st) M := by
  intro p e s m ar be me c A H lo ls Cx hW hS hl
  have hK := Cx.k
  have hts := Cx.ts
  have hap := va_apart (own := Y.1) hts hin ty0 hty hnm hK hc
  obtain ⟨r, h1, cell, q1, q2, q3, q4⟩ := hW.1 k _ hM
  have hr : r = (C, T, N) := Option.some.inj (h1.symm.trans hc)
  subst hr
  obtain ⟨hSl, hfc, kC, hkC, hkind⟩ := hK.1 ci _ hc
  obtain ⟨cf, kf, fi, fd, hi, hsl⟩ := hSl f hf
  have hlay := hts _ (hin _ (u_in_lay hf))
  unfold u_lay at hlay
  rw [if_neg (by rw [hfin]; decide)] at hlay
  have hst := (u_facts hfc hkC (u_lays hts hin hf) hi).1
  have h6 := u_store hfc hkC hkind hlay hi ((hty f hf).trans (by rw [hd])) hn hfit
  have hi' : s.fieldFound? ref (T f).2.1 (T f).2.2.1 = some (cf, kf, fi, fd) := by rw [← href]; exact hi
  refine va_WputK Cx.ex Cx.by (f := fd) Cx.ow (hts _ hlink) hi' hst (by rw [q2]; exact h6) q1 q3 (by rw [hsl]; exact k2_hasslot (q4 f hf)) rfl rfl d fun H' e1 e2 e3 => ?_
  rw [hsl] at e1
  exact kk p e s m ar be me c A H' _ ls Cx (hW.set hM ⟨_, hc, t_OB.to (V := updV (vp_V fs) f v) ⟨_, e1, q2, q3, t_set q4 hap hf v⟩ (fun j _ => vp_updV_set hl9 v j)⟩ e3) (hS.put e2 e3 (hW.2.2 k (bj_ne hM))) hl
/-- a final field, in the constructor -/
theorem bj_putF {C ref : String} {T : u_T} {N ci index k f : Nat} {fs : List Value} {v : Value} {ty : FieldType} {ty0 : Nat → FieldType} (d : decode Y.2.2.1 pc = .ok (.putfield index, 3)) (hin : ∀ w ∈ u_ws C T N, w ∈ G.2.2.2.2) (hty : ∀ k, k < N → parseFieldDescriptor (T k).2.2.1 = some (ty0 k)) (hnm : ∀ a, a < N → ∀ b, b < N → a ≠ b → (T a).2.1 ≠ (T b).2.1)
    (hc : G.2.2.1[ci]? = some (C, T, N)) (hf : f < N) (hlink : Cond.fieldLink Y.1 index ref (T f).2.1 (T f).2.2.1 ∈ G.2.2.2.2) (href : (T f).1 = ref) (hfin : (T f).2.2.2 = true) (hini : Y.2.1.name = "<init>") (hown : (T f).1 = Y.1) (hd : ty0 f = ty) (hn : narrow ty v = v) (hfit : fits ty v = true) (hl9 : f < fs.length) (hM : M k = some (.inr (ci, fs)))
    (kk : bj_S G Y n K ad Q cs sl (pc + 3) L st (va_up M k (some (.inr (ci, fs.set f v))))) : bj_S G Y n K ad Q cs sl pc L (v :: .ref (ad k) :: st) M := by
  intro p e s m ar be me c A H lo ls Cx hW hS hl
  have hK := Cx.k
  have hts := Cx.ts
  have hap := va_apart (own := Y.1) hts hin ty0 hty hnm hK hc
  obtain ⟨r, h1, cell, q1, q2, q3, q4⟩ := hW.1 k _ hM
  have hr : r = (C, T, N) := Option.some.inj (h1.symm.trans hc)
  subst hr
  obtain ⟨hSl, hfc, kC, hkC, hkind⟩ := hK.1 ci _ hc
  obtain ⟨cf, kf, fi, fd, hi, hsl⟩ := hSl f hf
  have hlay := hts _ (hin _ (u_in_lay hf))
  unfold u_lay at hlay
  rw [if_pos hfin] at hlay
  have hst := (u_facts hfc hkC (u_lays hts hin hf) hi).1
  have hcf : m.cls = cf := by
    obtain ⟨_, _, c', _, _, _, -, -, hf', -, -, -, hown2, -⟩ := Cond.laysFinal_spec hlay
    have e1 : c' = cf := by have := hi.symm.trans hf'; simp at this; exact this.1.symm
    rw [hown] at hown2
    rw [← e1]; exact Option.some.inj (Cx.ow.symm.trans hown2)
  have h6 := u_fits hfc hkC hkind (Or.inr hlay) hi ((hty f hf).trans (by rw [hd])) hn hfit
  have hi' : s.fieldFound? ref (T f).2.1 (T f).2.2.1 = some (cf, kf, fi, fd) := by rw [← href]; exact hi
  refine W.putFinK Cx.ex Cx.by Cx.ow (hts _ hlink) hi' hst hcf (Cx.nm.trans hini) (by rw [q2]; exact h6) q1 q3 (by rw [hsl]; exact k2_hasslot (q4 f hf)) rfl rfl d fun H' e1 e2 e3 => ?_
  rw [hsl] at e1
  exact kk p e s m ar be me c A H' _ ls Cx (hW.set hM ⟨_, hc, t_OB.to (V := updV (vp_V fs) f v) ⟨_, e1, q2, q3, t_set q4 hap hf v⟩ (fun j _ => vp_updV_set hl9 v j)⟩ e3) (hS.put e2 e3 (hW.2.2 k (bj_ne hM))) hl
/-! arrays -/
theorem bj_iald {x : Int32} {k j N : Nat} {cA : ClassId} {f : Nat → Int32} (d : decode Y.2.2.1 pc = .ok (.iaload, 1)) (t : Nat) (ht : G.2.2.2.1[t]? = some (cA, .int)) (hM : M k = some (.inl (cA, N, .inl f))) (hx : x = nI j) (hj : j < N) (hN : N < 2 ^ 31)
    (kk : bj_S G Y n K ad Q cs sl (pc + 1) L (.int (f j) :: st) M) : bj_S G Y n K ad Q cs sl pc L (.int x :: .ref (ad k) :: st) M := by
  subst hx
  intro p e s m ar be me c A H lo ls C hW hS hl
  have e9 : (nI j).toNatClampNeg = j := nI_clamp (Nat.lt_trans hj hN)
  refine va_iald (ws := [(ad k, .inl (cA, N, .inl f))]) C.ex C.by C.k (bj_one (hW.1 k _ hM)) 0 t rfl ht (vp_in_nI hj hN) d ?_
  rw [e9]
  exact kk p e s m ar be me c A H lo ls C hW hS hl
theorem bj_zald {x : Int32} {k j N : Nat} {cA : ClassId} {f : Nat → Int32} (d : decode Y.2.2.1 pc = .ok (.baload, 1)) (t : Nat) (ht : G.2.2.2.1[t]? = some (cA, .boolean)) (hM : M k = some (.inl (cA, N, .inl f))) (hx : x = nI j) (hj : j < N) (hN : N < 2 ^ 31)
    (kk : bj_S G Y n K ad Q cs sl (pc + 1) L (.int (f j) :: st) M) : bj_S G Y n K ad Q cs sl pc L (.int x :: .ref (ad k) :: st) M := by
  subst hx
  intro p e s m ar be me c A H lo ls C hW hS hl
  have e9 : (nI j).toNatClampNeg = j := nI_clamp (Nat.lt_trans hj hN)
  refine va_zald (ws := [(ad k, .inl (cA, N, .inl f))]) C.ex C.by C.k (bj_one (hW.1 k _ hM)) 0 t rfl ht (vp_in_nI hj hN) d ?_
  rw [e9]
  exact kk p e s m ar be me c A H lo ls C hW hS hl
theorem bj_lald {x : Int32} {k j N : Nat} {cA : ClassId} {f : Nat → Int64} (d : decode Y.2.2.1 pc = .ok (.laload, 1)) (t : Nat) (ht : G.2.2.2.1[t]? = some (cA, .long)) (hM : M k = some (.inl (cA, N, .inr (.inl f)))) (hx : x = nI j) (hj : j < N) (hN : N < 2 ^ 31)
    (kk : bj_S G Y n K ad Q cs sl (pc + 1) L (.long (f j) :: st) M) : bj_S G Y n K ad Q cs sl pc L (.int x :: .ref (ad k) :: st) M := by
  subst hx
  intro p e s m ar be me c A H lo ls C hW hS hl
  have e9 : (nI j).toNatClampNeg = j := nI_clamp (Nat.lt_trans hj hN)
  refine va_lald (ws := [(ad k, .inl (cA, N, .inr (.inl f)))]) C.ex C.by C.k (bj_one (hW.1 k _ hM)) 0 t rfl ht (vp_in_nI hj hN) d ?_
  rw [e9]
  exact kk p e s m ar be me c A H lo ls C hW hS hl
theorem bj_aald {x : Int32} {k j N q : Nat} {cA : ClassId} {ty : FieldType} {f : Nat → Option Nat} (d : decode Y.2.2.1 pc = .ok (.aaload, 1)) (t : Nat) (ht : G.2.2.2.1[t]? = some (cA, ty)) (hty : ty.isReference = true) (hM : M k = some (.inl (cA, N, .inr (.inr (.inr (.inr f)))))) (hx : x = nI j) (hj : j < N) (hN : N < 2 ^ 31) (hq : f j = some q)
    (kk : bj_S G Y n K ad Q cs sl (pc + 1) L (.ref q :: st) M) : bj_S G Y n K ad Q cs sl pc L (.int x :: .ref (ad k) :: st) M := by
  subst hx
  intro p e s m ar be me c A H lo ls C hW hS hl
  have e9 : (nI j).toNatClampNeg = j := nI_clamp (Nat.lt_trans hj hN)
  have hcell : H[ad k]? = some (vp_cell cA (N, .inr (.inr (.inr (.inr f))))) := hW.1 k _ hM
  refine W.aald (v := .ref q) (ty := ty) C.ex C.by hcell ((C.k.2 t _ ht).1 N (fun j => va_rf (f j))) hty (fun z => by cases z) ?_ ?_ rfl rfl d (kk p e s m ar be me c A H lo ls C hW hS hl)
  · rw [vp_cell_q, arrV_size]
    exact vp_in_nI hj hN
  · rw [vp_cell_q, e9, arrV_read _ _ hj, hq]
    rfl
theorem bj_alen {k : Nat} {cA : ClassId} {x : vp_A} {ty : FieldType} {v : Int32} (d : decode Y.2.2.1 pc = .ok (.arraylength, 1)) (t : Nat) (ht : G.2.2.2.1[t]? = some (cA, ty)) (hM : M k = some (.inl (cA, x))) (hv : nI x.1 = v)
    (kk : bj_S G Y n K ad Q cs sl (pc + 1) L (.int v :: st) M) : bj_S G Y n K ad Q cs sl pc L (.ref (ad k) :: st) M :=
  fun p e s m ar be me c A H lo ls C hW hS hl => va_alen (ws := [(ad k, .inl (cA, x))]) C.ex C.by C.k (bj_one (hW.1 k _ hM)) 0 t rfl ht hv d (kk p e s m ar be me c A H lo ls C hW hS hl)
theorem bj_iast {x y : Int32} {k j N : Nat} {cA : ClassId} {f : Nat → Int32} (d : decode Y.2.2.1 pc = .ok (.iastore, 1)) (t : Nat) (ht : G.2.2.2.1[t]? = some (cA, .int)) (hM : M k = some (.inl (cA, N, .inl f))) (hx : x = nI j) (hj : j < N) (hN : N < 2 ^ 31)
    (kk : bj_S G Y n K ad Q cs sl (pc + 1) L st (va_up M k (some (.inl (cA, N, .inl (va_up f j y)))))) : bj_S G Y n K ad Q cs sl pc L (.int y :: .int x :: .ref (ad k) :: st) M := by
  subst hx
  intro p e s m ar be me c A H lo ls C hW hS hl
  have e9 : (nI j).toNatClampNeg = j := nI_clamp (Nat.lt_trans hj hN)
  have hcell : H[ad k]? = some (vp_cell cA (N, .inl f)) := hW.1 k _ hM
  refine W.iast C.ex C.by hcell ((C.k.2 t _ ht).1 N (fun j => .int (f j))) (fun z => by cases z) (by rw [vp_cell_i, arrV_size]; exact vp_in_nI hj hN) rfl rfl d fun H1 e1 z oq => ?_
  refine kk p e s m ar be me c A H1 _ ls C (hW.set hM ?_ oq) (hS.put z oq (hW.2.2 k (bj_ne hM))) hl
  show H1[ad k]? = some (vp_cell _ _)
  rw [e1, e9, vp_cell_i, vp_cell_i, arrV_store]
  congr 2
  funext q
  by_cases hq : q = j
  · subst hq
    simp [updV, va_up]
  · simp [updV, va_up, hq]
theorem bj_zast {x y : Int32} {k j N : Nat} {cA : ClassId} {f : Nat → Int32} (d : decode Y.2.2.1 pc = .ok (.bastore, 1)) (t : Nat) (ht : G.2.2.2.1[t]? = some (cA, .boolean)) (hM : M k = some (.inl (cA, N, .inl f))) (hx : x = nI j) (hj : j < N) (hN : N < 2 ^ 31) (hy : narrow .boolean (.int y) = .int y)
    (kk : bj_S G Y n K ad Q cs sl (pc + 1) L st (va_up M k (some (.inl (cA, N, .inl (va_up f j y)))))) : bj_S G Y n K ad Q cs sl pc L (.int y :: .int x :: .ref (ad k) :: st) M := by
  subst hx
  intro p e s m ar be me c A H lo ls C hW hS hl
  have e9 : (nI j).toNatClampNeg = j := nI_clamp (Nat.lt_trans hj hN)
  have hcell : H[ad k]? = some (vp_cell cA (N, .inl f)) := hW.1 k _ hM
  refine W.zast C.ex C.by hcell ((C.k.2 t _ ht).1 N (fun j => .int (f j))) (fun z => by cases z) (by rw [vp_cell_i, arrV_size]; exact vp_in_nI hj hN) rfl rfl d fun H1 e1 z oq => ?_
  refine kk p e s m ar be me c A H1 _ ls C (hW.set hM ?_ oq) (hS.put z oq (hW.2.2 k (bj_ne hM))) hl
  show H1[ad k]? = some (vp_cell _ _)
  rw [e1, e9, hy, vp_cell_i, vp_cell_i, arrV_store]
  congr 2
  funext q
  by_cases hq : q = j
  · subst hq
    simp [updV, va_up]
  · simp [updV, va_up, hq]
theorem bj_last {x : Int32} {y : Int64} {k j N : Nat} {cA : ClassId} {f : Nat → Int64} (d : decode Y.2.2.1 pc = .ok (.lastore, 1)) (t : Nat) (ht : G.2.2.2.1[t]? = some (cA, .long)) (hM : M k = some (.inl (cA, N, .inr (.inl f)))) (hx : x = nI j) (hj : j < N) (hN : N < 2 ^ 31)
    (kk : bj_S G Y n K ad Q cs sl (pc + 1) L st (va_up M k (some (.inl (cA, N, .inr (.inl (va_up f j y))))))) : bj_S G Y n K ad Q cs sl pc L (.long y :: .int x :: .ref (ad k) :: st) M := by
  subst hx
  intro p e s m ar be me c A H lo ls C hW hS hl
  have e9 : (nI j).toNatClampNeg = j := nI_clamp (Nat.lt_trans hj hN)
  have hcell : H[ad k]? = some (vp_cell cA (N, .inr (.inl f))) := hW.1 k _ hM
  refine W.last C.ex C.by hcell ((C.k.2 t _ ht).1 N (fun j => .long (f j))) (fun z => by cases z) (by rw [vp_cell_l, arrV_size]; exact vp_in_nI hj hN) rfl rfl d fun H1 e1 z oq => ?_
  refine kk p e s m ar be me c A H1 _ ls C (hW.set hM ?_ oq) (hS.put z oq (hW.2.2 k (bj_ne hM))) hl
  show H1[ad k]? = some (vp_cell _ _)
  rw [e1, e9, vp_cell_l, vp_cell_l, arrV_store]
  congr 2
  funext q
  by_cases hq : q = j
  · subst hq
    simp [updV, va_up]
  · simp [updV, va_up, hq]
end BC
