/-! the judgement's row for new int[N][N]; a cell's number is its address -/
section BM
variable {G : bj_G} {Y : bj_Y} {n : Nat} {K : bj_K} {Q : bj_R → bj_M → Prop} {cs sl pc : Nat} {L : List (Option Value)} {st : List Value} {M : bj_M}
theorem bm_out (c : ClassId) (N h0 : Nat) : ∀ i : Nat, Jvm.Free.Multi.outerC c N h0 i = arrV c N (fun j => va_rf (if j < i then some (h0 + 1 + j) else none))
  | 0 => by
    rw [Jvm.Free.Multi.outerC, arrV_new]
    exact congrArg (arrV c N) (funext fun j => by simp [va_rf])
  | i + 1 => by
    rw [Jvm.Free.Multi.outerC, bm_out c N h0 i, arrV_store]
    refine congrArg (arrV c N) (funext fun j => ?_)
    by_cases e : j = i
    · subst e
      simp [updV, va_rf]
    · by_cases h : j < i
      · simp [updV, e, h, show j < i + 1 by omega]
      · simp [updV, e, h, show ¬ j < i + 1 by omega]
/-- the cells after it -/
def bm_M (M : bj_M) (cA cI : ClassId) (N q : Nat) : bj_M := fun x => if x = q then some (.inl (cA, N, .inr (.inr (.inr (.inr (fun i => if i < N then some (q + 1 + i) else none)))))) else if q < x ∧ x ≤ q + N then some (.inl (cI, N, .inl (fun _ => 0))) else M x
theorem bj_mna {index N : Nat} {cA cI : ClassId} (d : decode Y.2.2.1 pc = .ok (.multianewarray index 2, 4)) (t0 : G.2.2.2.1[0]? = some (cI, .int)) (t4 : G.2.2.2.1[4]? = some (cA, .array .int)) (w1 : Cond.classLink Y.1 index "[[I" ∈ G.2.2.2.2) (w2 : Cond.arrayOver (.array .int) ∈ G.2.2.2.2) (w3 : Cond.arrayClass .int ∈ G.2.2.2.2) (hN : N ≤ 8) (h1 : cs + (1 + N) ≤ K.1 + K.2.2.1) (h2 : sl + (N + N * N) ≤ K.2.1 + K.2.2.2)
    (kk : ∀ q : Nat, (∀ i, i ≤ N → M (q + i) = none) → bj_S G Y n K (fun k => k) Q (cs + 1 + N) (sl + N + N * N) (pc + 4) L (.ref q :: st) (bm_M M cA cI N q)) : bj_S G Y n K (fun k => k) Q cs sl pc L (.int (nI N) :: .int (nI N) :: st) M := by
  intro p e s m ar be me c A H lo ls C hW hS hl T hT X
  subst hT
  have eN : (nI N).toNatClampNeg = N := nI_clamp (by omega)
  obtain ⟨vm₁, cA', comp, -, fA, fC, -, -, X', step⟩ := X.multianewarray2F C.ex (own := Y.1) (index := index) (ty := .int) C.ow (C.ts _ w1) (C.ts _ w2) (C.ts _ w3)
    (g := F0 m pc ls (.int (nI N) :: .int (nI N) :: st)) rfl (by rw [C.by]; exact d) (n := nI N) (k := nI N) (rest := st) rfl (nI_pos (by omega)) (nI_pos (by omega))
    (by rw [eN]; omega) (by rw [eN]; show N * 4 ≤ _; omega) (by rw [eN]; omega) rfl rfl (by rw [eN]; exact h1) (by rw [eN]; exact h2)
  have e1 : comp = cI := bj_acls C.k t0 fC
  have e2 : cA' = cA := bj_acls C.k t4 fA
  subst e1
  subst e2
  rw [eN] at X' step
  obtain ⟨f1, f2, -, -⟩ := Jvm.Free.Multi.fill_facts (T.setVm vm₁) cA' comp N N (defaultValue .int) N
  have hold : ∀ x : Nat, x < T.heap.size → (Jvm.Free.Multi.fill (T.setVm vm₁) cA' comp N N (defaultValue .int) N).heap[x]? = T.heap[x]? := fun x hx => Jvm.Free.Multi.fill_old (T.setVm vm₁) cA' comp N N (defaultValue .int) (a := x) hx N
  have hrow : ∀ j : Nat, j < N → (Jvm.Free.Multi.fill (T.setVm vm₁) cA' comp N N (defaultValue .int) N).heap[T.heap.size + 1 + j]? = some (Jvm.Free.Multi.innerC comp N (defaultValue .int)) := fun j hj => Jvm.Free.Multi.fill_inner (T.setVm vm₁) cA' comp N N (defaultValue .int) N j hj
  generalize Jvm.Free.Multi.fill (T.setVm vm₁) cA' comp N N (defaultValue .int) N = F at X' step f1 f2 hold hrow
  have f1' : F.heap.size = T.heap.size + 1 + N := f1
  have f2' : F.heap[T.heap.size]? = some (Jvm.Free.Multi.outerC cA' N T.heap.size N) := f2
  have hin : Jvm.Free.Multi.innerC comp N (defaultValue .int) = vp_cell comp (N, .inl (fun _ => 0)) := by
    show ({ cls := comp, slots := Array.replicate N (.int 0), vm := .none } : Cell) = arrV comp N (fun _ => .int 0)
    rw [arrV_new]
  have hW' : bj_W G (fun k => k) (bm_M M cA' comp N T.heap.size) A F.heap := by
    refine ⟨fun k x hk => ?_, fun i j _ _ h => h, fun k hk => ?_⟩
    · unfold bm_M at hk
      by_cases q1 : k = T.heap.size
      · rw [if_pos q1] at hk
        cases hk
        show F.heap[k]? = some (vp_cell _ _)
        rw [q1, f2', vp_cell_q, bm_out]
      · rw [if_neg q1] at hk
        by_cases q2 : T.heap.size < k ∧ k ≤ T.heap.size + N
        · rw [if_pos q2] at hk
          cases hk
          show F.heap[k]? = some (vp_cell _ _)
          have := hrow (k - T.heap.size - 1) (by omega)
          rw [show T.heap.size + 1 + (k - T.heap.size - 1) = k by omega, hin] at this
          exact this
        · rw [if_neg q2] at hk
          exact (hW.1 k x hk).kept (hold _ (hW.1 k x hk).lt)
    · unfold bm_M at hk
      by_cases q1 : k = T.heap.size
      · rw [q1]; exact C.up _ hS.1
      · rw [if_neg q1] at hk
        by_cases q2 : T.heap.size < k ∧ k ≤ T.heap.size + N
        · exact C.up _ (by have := hS.1; show s.heap.size ≤ k; omega)
        · rw [if_neg q2] at hk
          exact hW.2.2 k hk
  obtain ⟨t, a1, b1⟩ := kk T.heap.size (fun i hi => bj_fresh hW (by omega)) p e s m ar be me c A F.heap lo ls C hW' (bj_S_push hS (by rw [f1']; omega) hold) hl F rfl X'
  exact ⟨t, step t a1, b1⟩
end BM
