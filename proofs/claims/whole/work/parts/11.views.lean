/-! cells by what they show: an array's first places as a function; after a write a new picture that differs there alone -/
section BV
def bv_I (cI : ClassId) (M : bj_M) (k N : Nat) (g : Nat → Int32) : Prop := ∃ f : Nat → Int32, M k = some (.inl (cI, N, .inl f)) ∧ ∀ j, j < N → f j = g j
theorem bv_I.to {cI : ClassId} {M : bj_M} {k N : Nat} {g g' : Nat → Int32} (h : bv_I cI M k N g) (e : ∀ j, j < N → g j = g' j) : bv_I cI M k N g' := by
  obtain ⟨f, h1, h2⟩ := h
  exact ⟨f, h1, fun j hj => (h2 j hj).trans (e j hj)⟩
theorem bv_I.in {cI : ClassId} {M M' : bj_M} {k N : Nat} {g : Nat → Int32} (h : bv_I cI M k N g) (e : M' k = M k) : bv_I cI M' k N g := by
  obtain ⟨f, h1, h2⟩ := h
  exact ⟨f, e.trans h1, h2⟩
theorem bv_I.ne {cI : ClassId} {M : bj_M} {k N : Nat} {g : Nat → Int32} (h : bv_I cI M k N g) : M k ≠ none := by
  obtain ⟨f, h1, -⟩ := h
  exact bj_ne h1
variable {G : bj_G} {Y : bj_Y} {n : Nat} {K : bj_K} {ad : Nat → Nat} {Q : bj_R → bj_M → Prop} {cs sl pc : Nat} {L : List (Option Value)} {st : List Value} {M : bj_M}
theorem bv_iald {k j N : Nat} {cA : ClassId} {g : Nat → Int32} {v : Int32} (d : decode Y.2.2.1 pc = .ok (.iaload, 1)) (t : Nat) (ht : G.2.2.2.1[t]? = some (cA, .int)) (h : bv_I cA M k N g) (hj : j < N) (hN : N < 2 ^ 31) (hv : g j = v)
    (kk : bj_S G Y n K ad Q cs sl (pc + 1) L (.int v :: st) M) : bj_S G Y n K ad Q cs sl pc L (.int (nI j) :: .ref (ad k) :: st) M := by
  obtain ⟨f, h1, h2⟩ := h
  refine bj_iald d t ht h1 rfl hj hN ?_
  rw [h2 j hj, hv]
  exact kk
theorem bv_zald {k j N : Nat} {cA : ClassId} {g : Nat → Int32} {v : Int32} (d : decode Y.2.2.1 pc = .ok (.baload, 1)) (t : Nat) (ht : G.2.2.2.1[t]? = some (cA, .boolean)) (h : bv_I cA M k N g) (hj : j < N) (hN : N < 2 ^ 31) (hv : g j = v)
    (kk : bj_S G Y n K ad Q cs sl (pc + 1) L (.int v :: st) M) : bj_S G Y n K ad Q cs sl pc L (.int (nI j) :: .ref (ad k) :: st) M := by
  obtain ⟨f, h1, h2⟩ := h
  refine bj_zald d t ht h1 rfl hj hN ?_
  rw [h2 j hj, hv]
  exact kk
theorem bv_up_eq {N j : Nat} {f g : Nat → Int32} (y : Int32) (h : ∀ i, i < N → f i = g i) : ∀ i, i < N → va_up f j y i = va_up g j y i := by
  intro i hi
  unfold va_up
  split
  · rfl
  · exact h i hi
theorem bv_iast {k j N : Nat} {cA : ClassId} {g : Nat → Int32} {y : Int32} (d : decode Y.2.2.1 pc = .ok (.iastore, 1)) (t : Nat) (ht : G.2.2.2.1[t]? = some (cA, .int)) (h : bv_I cA M k N g) (hj : j < N) (hN : N < 2 ^ 31)
    (kk : ∀ M' : bj_M, bv_I cA M' k N (va_up g j y) → (∀ q, q ≠ k → M' q = M q) → bj_S G Y n K ad Q cs sl (pc + 1) L st M') : bj_S G Y n K ad Q cs sl pc L (.int y :: .int (nI j) :: .ref (ad k) :: st) M := by
  obtain ⟨f, h1, h2⟩ := h
  exact bj_iast d t ht h1 rfl hj hN (kk _ ⟨_, va_up_self _ _ _, bv_up_eq y h2⟩ (fun q hq => va_up_ne _ _ hq))
theorem bv_zast {k j N : Nat} {cA : ClassId} {g : Nat → Int32} {y : Int32} (d : decode Y.2.2.1 pc = .ok (.bastore, 1)) (t : Nat) (ht : G.2.2.2.1[t]? = some (cA, .boolean)) (h : bv_I cA M k N g) (hj : j < N) (hN : N < 2 ^ 31) (hy : narrow .boolean (.int y) = .int y)
    (kk : ∀ M' : bj_M, bv_I cA M' k N (va_up g j y) → (∀ q, q ≠ k → M' q = M q) → bj_S G Y n K ad Q cs sl (pc + 1) L st M') : bj_S G Y n K ad Q cs sl pc L (.int y :: .int (nI j) :: .ref (ad k) :: st) M := by
  obtain ⟨f, h1, h2⟩ := h
  exact bj_zast d t ht h1 rfl hj hN hy (kk _ ⟨_, va_up_self _ _ _, bv_up_eq y h2⟩ (fun q hq => va_up_ne _ _ hq))
end BV
