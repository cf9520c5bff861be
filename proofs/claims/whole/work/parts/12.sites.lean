/-! calls by their sites: all that a site needs of the tables in one word; callees that only answer; callees that never throw -/
section BX
/-- a post of a method that never throws -/
def bj_ret (R : Option Value → bj_M → Prop) : bj_R → bj_M → Prop := fun r M => match r with
  | .inl v => R v M
  | .inr _ => False
/-- a post of a method that answers an int and leaves the cells as they are -/
def bj_fn (x : Int32) (M : bj_M) : bj_R → bj_M → Prop := bj_ret (fun v M' => v = some (.int x) ∧ M' = M)
/-- what a call's site needs: the words, the callee's shape -/
def bj_sh (TB : List Cond) (Yk : bj_Y) (na : Nat) : Prop := bj_cw Yk TB ∧ (parseMethodDescriptor Yk.2.1.desc).map (fun d => d.parameters.length) = some na ∧ Yk.1 = Yk.2.1.cls ∧ plainFor Yk.2.1 = true ∧ (Yk.2.1.cls ≠ "java/lang/invoke/MethodHandle" ∧ Yk.2.1.cls ≠ "java/lang/invoke/VarHandle") ∧ Yk.2.2.2.1 ≤ 17
def bj_sv (TB : List Cond) (own : String) (idx : Nat) (Yk : bj_Y) (na : Nat) : Prop := Cond.methodLink own idx Yk.2.1 ∈ TB ∧ Cond.instanceMethod Yk.2.1 ∈ TB ∧ Cond.selects Yk.2.1.cls Yk.2.1 Yk.2.1 ∈ TB ∧ na + 1 ≤ Yk.2.2.2.1 ∧ bj_sh TB Yk na
def bj_ss (TB : List Cond) (own : String) (idx : Nat) (Yk : bj_Y) (na : Nat) : Prop := Cond.methodLink own idx Yk.2.1 ∈ TB ∧ Cond.static Yk.2.1 ∈ TB ∧ Cond.initialized Yk.2.1.cls ∈ TB ∧ na ≤ Yk.2.2.2.1 ∧ bj_sh TB Yk na
def bj_sn (TB : List Cond) (own host : String) (idx : Nat) (Yk : bj_Y) (na : Nat) : Prop := Cond.methodLinkNest own idx Yk.2.1 host ∈ TB ∧ Cond.static Yk.2.1 ∈ TB ∧ Cond.initialized Yk.2.1.cls ∈ TB ∧ na ≤ Yk.2.2.2.1 ∧ bj_sh TB Yk na
def bj_si (TB : List Cond) (own : String) (idx : Nat) (Yk : bj_Y) (na : Nat) : Prop := Cond.methodLink own idx Yk.2.1 ∈ TB ∧ Cond.instanceMethod Yk.2.1 ∈ TB ∧ Cond.code Yk.2.1 Yk.2.2.1 Yk.2.2.2.1 none ∈ TB ∧ Yk.2.2.2.2.2 = [] ∧ Yk.2.2.2.2.1 = none ∧ Yk.2.1.name = "<init>" ∧ na + 1 ≤ Yk.2.2.2.1 ∧ bj_sh TB Yk na
variable {G : bj_G} {Y Yk : bj_Y} {n nk : Nat} {K Kk : bj_K} {ad : Nat → Nat} {Q Qk : bj_R → bj_M → Prop} {cs sl pc index na : Nat} {L : List (Option Value)} {st st0 as : List Value} {M : bj_M}
/-- all arguments are of one slot -/
def bj_c1 (as : List Value) : Prop := as.all (fun v => decide (v.category = 1)) = true
theorem bj_c1.of {as : List Value} (h : bj_c1 as) : ∀ v ∈ as, v.category = 1 := fun v hv => by
  have := List.all_eq_true.mp h v hv
  simpa using this
theorem bj_cv {k ci : Nat} {fs : List Value} {r : vw_C} (h : bj_sv G.2.2.2.2 Y.1 index Yk na) (d : decode Y.2.2.1 pc = .ok (.invokevirtual index, 3)) (hT : bj_T G Yk nk Kk ad Qk (.ref (ad k) :: as) M) (ha : as.length = na) (hc1 : bj_c1 as) (hn : nk + 1 ≤ n) (hKc : cs + (Kk.1 + Kk.2.2.1) ≤ K.1 + K.2.2.1) (hKs : sl + (Kk.2.1 + Kk.2.2.2) ≤ K.2.1 + K.2.2.2) (h8 : (st.map fun v => v.category).sum ≤ 8) (hst : st0 = as.reverse ++ .ref (ad k) :: st) (hM : M k = some (.inr (ci, fs))) (hc : G.2.2.1[ci]? = some r) (hr : r.1 = Yk.2.1.cls)
    (kr : ∀ v M', Qk (.inl v) M' → bj_S G Y n K ad Q (cs + Kk.1) (sl + Kk.2.1) (pc + 3) L (v.toList ++ st) M') (kx : ∀ E M', Qk (.inr E) M' → bj_X G Y n K ad Q (cs + Kk.2.2.1) (sl + Kk.2.2.2) pc L E M') : bj_S G Y n K ad Q cs sl pc L st0 M := by
  obtain ⟨h1, h2, h3, h4, h5, h6, h7, h8', h9, h10⟩ := h
  refine bj_callV d hT h1 h2 h3 h5 (by rw [ha]; exact h6) ⟨h7, h8', ?_, by rw [List.length_cons, ha]; exact h4, hn, h10, hKc, hKs, h8, h9⟩ hst hM hc hr kr kx
  intro v hv
  rcases List.mem_cons.mp hv with rfl | hv
  · rfl
  · exact hc1.of v hv
theorem bj_cs (h : bj_ss G.2.2.2.2 Y.1 index Yk na) (d : decode Y.2.2.1 pc = .ok (.invokestatic index, 3)) (hT : bj_T G Yk nk Kk ad Qk as M) (ha : as.length = na) (hc1 : bj_c1 as) (hn : nk + 1 ≤ n) (hKc : cs + (Kk.1 + Kk.2.2.1) ≤ K.1 + K.2.2.1) (hKs : sl + (Kk.2.1 + Kk.2.2.2) ≤ K.2.1 + K.2.2.2) (h8 : (st.map fun v => v.category).sum ≤ 8) (hst : st0 = as.reverse ++ st)
    (kr : ∀ v M', Qk (.inl v) M' → bj_S G Y n K ad Q (cs + Kk.1) (sl + Kk.2.1) (pc + 3) L (v.toList ++ st) M') (kx : ∀ E M', Qk (.inr E) M' → bj_X G Y n K ad Q (cs + Kk.2.2.1) (sl + Kk.2.2.2) pc L E M') : bj_S G Y n K ad Q cs sl pc L st0 M := by
  obtain ⟨h1, h2, h3, h4, h5, h6, h7, h8', h9, h10⟩ := h
  exact bj_callS d hT h1 h2 h3 h5 (by rw [ha]; exact h6) ⟨h7, h8', hc1.of, by rw [ha]; exact h4, hn, h10, hKc, hKs, h8, h9⟩ hst kr kx
theorem bj_cn {host : String} (h : bj_sn G.2.2.2.2 Y.1 host index Yk na) (d : decode Y.2.2.1 pc = .ok (.invokestatic index, 3)) (hT : bj_T G Yk nk Kk ad Qk as M) (ha : as.length = na) (hc1 : bj_c1 as) (hn : nk + 1 ≤ n) (hKc : cs + (Kk.1 + Kk.2.2.1) ≤ K.1 + K.2.2.1) (hKs : sl + (Kk.2.1 + Kk.2.2.2) ≤ K.2.1 + K.2.2.2) (h8 : (st.map fun v => v.category).sum ≤ 8) (hst : st0 = as.reverse ++ st)
    (kr : ∀ v M', Qk (.inl v) M' → bj_S G Y n K ad Q (cs + Kk.1) (sl + Kk.2.1) (pc + 3) L (v.toList ++ st) M') (kx : ∀ E M', Qk (.inr E) M' → bj_X G Y n K ad Q (cs + Kk.2.2.1) (sl + Kk.2.2.2) pc L E M') : bj_S G Y n K ad Q cs sl pc L st0 M := by
  obtain ⟨h1, h2, h3, h4, h5, h6, h7, h8', h9, h10⟩ := h
  exact bj_callSN d hT h1 h2 h3 h5 (by rw [ha]; exact h6) ⟨h7, h8', hc1.of, by rw [ha]; exact h4, hn, h10, hKc, hKs, h8, h9⟩ hst kr kx
theorem bj_ci {k : Nat} (h : bj_si G.2.2.2.2 Y.1 index Yk na) (d : decode Y.2.2.1 pc = .ok (.invokespecial index, 3)) (hT : bj_T G Yk nk Kk ad Qk (.ref k :: as) M) (ha : as.length = na) (hc1 : bj_c1 as) (hn : nk + 1 ≤ n) (hKc : cs + (Kk.1 + Kk.2.2.1) ≤ K.1 + K.2.2.1) (hKs : sl + (Kk.2.1 + Kk.2.2.2) ≤ K.2.1 + K.2.2.2) (h8 : (st.map fun v => v.category).sum ≤ 8) (hst : st0 = as.reverse ++ .ref k :: st)
    (kr : ∀ v M', Qk (.inl v) M' → bj_S G Y n K ad Q (cs + Kk.1) (sl + Kk.2.1) (pc + 3) L (v.toList ++ st) M') (kx : ∀ E M', Qk (.inr E) M' → bj_X G Y n K ad Q (cs + Kk.2.2.1) (sl + Kk.2.2.2) pc L E M') : bj_S G Y n K ad Q cs sl pc L st0 M := by
  obtain ⟨h1, h2, h3, e1, e2, e3, h4, h5, h6, h7, h8', h9, h10⟩ := h
  refine bj_callI d hT h1 h2 h3 e1 e2 e3 (by rw [ha]; exact h6) ⟨h7, h8', ?_, by rw [List.length_cons, ha]; exact h4, hn, h10, hKc, hKs, h8, h9⟩ hst kr kx
  intro v hv
  rcases List.mem_cons.mp hv with rfl | hv
  · rfl
  · exact hc1.of v hv
/-! callees that make nothing and never throw -/
section Still
variable {R : Option Value → bj_M → Prop} {x : Int32}
theorem bj_cvR {k ci : Nat} {fs : List Value} {r : vw_C} (h : bj_sv G.2.2.2.2 Y.1 index Yk na) (d : decode Y.2.2.1 pc = .ok (.invokevirtual index, 3)) (hT : bj_T G Yk nk (0, 0, 0, 0) ad (bj_ret R) (.ref (ad k) :: as) M) (ha : as.length = na) (hc1 : bj_c1 as) (hn : nk + 1 ≤ n) (hKc : cs ≤ K.1 + K.2.2.1) (hKs : sl ≤ K.2.1 + K.2.2.2) (h8 : (st.map fun v => v.category).sum ≤ 8) (hst : st0 = as.reverse ++ .ref (ad k) :: st) (hM : M k = some (.inr (ci, fs))) (hc : G.2.2.1[ci]? = some r) (hr : r.1 = Yk.2.1.cls)
    (kr : ∀ v M', R v M' → bj_S G Y n K ad Q cs sl (pc + 3) L (v.toList ++ st) M') : bj_S G Y n K ad Q cs sl pc L st0 M :=
  bj_cv h d hT ha hc1 hn hKc hKs h8 hst hM hc hr kr (fun _ _ q => q.elim)
theorem bj_csR (h : bj_ss G.2.2.2.2 Y.1 index Yk na) (d : decode Y.2.2.1 pc = .ok (.invokestatic index, 3)) (hT : bj_T G Yk nk (0, 0, 0, 0) ad (bj_ret R) as M) (ha : as.length = na) (hc1 : bj_c1 as) (hn : nk + 1 ≤ n) (hKc : cs ≤ K.1 + K.2.2.1) (hKs : sl ≤ K.2.1 + K.2.2.2) (h8 : (st.map fun v => v.category).sum ≤ 8) (hst : st0 = as.reverse ++ st)
    (kr : ∀ v M', R v M' → bj_S G Y n K ad Q cs sl (pc + 3) L (v.toList ++ st) M') : bj_S G Y n K ad Q cs sl pc L st0 M :=
  bj_cs h d hT ha hc1 hn hKc hKs h8 hst kr (fun _ _ q => q.elim)
theorem bj_cnR {host : String} (h : bj_sn G.2.2.2.2 Y.1 host index Yk na) (d : decode Y.2.2.1 pc = .ok (.invokestatic index, 3)) (hT : bj_T G Yk nk (0, 0, 0, 0) ad (bj_ret R) as M) (ha : as.length = na) (hc1 : bj_c1 as) (hn : nk + 1 ≤ n) (hKc : cs ≤ K.1 + K.2.2.1) (hKs : sl ≤ K.2.1 + K.2.2.2) (h8 : (st.map fun v => v.category).sum ≤ 8) (hst : st0 = as.reverse ++ st)
    (kr : ∀ v M', R v M' → bj_S G Y n K ad Q cs sl (pc + 3) L (v.toList ++ st) M') : bj_S G Y n K ad Q cs sl pc L st0 M :=
  bj_cn h d hT ha hc1 hn hKc hKs h8 hst kr (fun _ _ q => q.elim)
/-! callees that only answer an int -/
theorem bj_cvF {k ci : Nat} {fs : List Value} {r : vw_C} (h : bj_sv G.2.2.2.2 Y.1 index Yk na) (d : decode Y.2.2.1 pc = .ok (.invokevirtual index, 3)) (hT : bj_T G Yk nk (0, 0, 0, 0) ad (bj_fn x M) (.ref (ad k) :: as) M) (ha : as.length = na) (hc1 : bj_c1 as) (hn : nk + 1 ≤ n) (hKc : cs ≤ K.1 + K.2.2.1) (hKs : sl ≤ K.2.1 + K.2.2.2) (h8 : (st.map fun v => v.category).sum ≤ 8) (hst : st0 = as.reverse ++ .ref (ad k) :: st) (hM : M k = some (.inr (ci, fs))) (hc : G.2.2.1[ci]? = some r) (hr : r.1 = Yk.2.1.cls)
    (kk : bj_S G Y n K ad Q cs sl (pc + 3) L (.int x :: st) M) : bj_S G Y n K ad Q cs sl pc L st0 M :=
  bj_cvR h d hT ha hc1 hn hKc hKs h8 hst hM hc hr (fun v M' q => by obtain ⟨rfl, rfl⟩ := q; exact kk)
theorem bj_csF (h : bj_ss G.2.2.2.2 Y.1 index Yk na) (d : decode Y.2.2.1 pc = .ok (.invokestatic index, 3)) (hT : bj_T G Yk nk (0, 0, 0, 0) ad (bj_fn x M) as M) (ha : as.length = na) (hc1 : bj_c1 as) (hn : nk + 1 ≤ n) (hKc : cs ≤ K.1 + K.2.2.1) (hKs : sl ≤ K.2.1 + K.2.2.2) (h8 : (st.map fun v => v.category).sum ≤ 8) (hst : st0 = as.reverse ++ st)
    (kk : bj_S G Y n K ad Q cs sl (pc + 3) L (.int x :: st) M) : bj_S G Y n K ad Q cs sl pc L st0 M :=
  bj_csR h d hT ha hc1 hn hKc hKs h8 hst (fun v M' q => by obtain ⟨rfl, rfl⟩ := q; exact kk)
theorem bj_cnF {host : String} (h : bj_sn G.2.2.2.2 Y.1 host index Yk na) (d : decode Y.2.2.1 pc = .ok (.invokestatic index, 3)) (hT : bj_T G Yk nk (0, 0, 0, 0) ad (bj_fn x M) as M) (ha : as.length = na) (hc1 : bj_c1 as) (hn : nk + 1 ≤ n) (hKc : cs ≤ K.1 + K.2.2.1) (hKs : sl ≤ K.2.1 + K.2.2.2) (h8 : (st.map fun v => v.category).sum ≤ 8) (hst : st0 = as.reverse ++ st)
    (kk : bj_S G Y n K ad Q cs sl (pc + 3) L (.int x :: st) M) : bj_S G Y n K ad Q cs sl pc L st0 M :=
  bj_cnR h d hT ha hc1 hn hKc hKs h8 hst (fun v M' q => by obtain ⟨rfl, rfl⟩ := q; exact kk)
end Still
end BX
