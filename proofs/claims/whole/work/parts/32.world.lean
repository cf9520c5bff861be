/-! the launch, the classes, the array classes (0 int[], 1 boolean[], 2 long[], 3 Batch[], 4 int[][]) and the words as one; more views -/
abbrev bw_G (l : Launch) (D : va_G) (c : Nat → ClassId) : bj_G := (l, D, bw_cl, [(c 0, .int), (c 1, .boolean), (c 2, .long), (c 3, .object "BeatPathOffice$Batch"), (c 4, .array .int)], bw_TB)
theorem bj_inc1 (a : Nat) : nI a + Int32.ofInt 1 = nI (a + 1) := nI_1 a
theorem bj_dec1 {a : Nat} (h : 0 < a) : nI a + Int32.ofInt (-1) = nI (a - 1) := by
  have e : nI a + (-1) = nI (a - 1) := sb_m1 h
  exact e
section BV2
def bv_R (cA : ClassId) (M : bj_M) (k N : Nat) (g : Nat → Nat) : Prop := ∃ f : Nat → Option Nat, M k = some (.inl (cA, N, .inr (.inr (.inr (.inr f))))) ∧ ∀ j, j < N → f j = some (g j)
theorem bv_R.in {cA : ClassId} {M M' : bj_M} {k N : Nat} {g : Nat → Nat} (h : bv_R cA M k N g) (e : M' k = M k) : bv_R cA M' k N g := by
  obtain ⟨f, h1, h2⟩ := h
  exact ⟨f, e.trans h1, h2⟩
variable {G : bj_G} {Y : bj_Y} {n : Nat} {K : bj_K} {ad : Nat → Nat} {Q : bj_R → bj_M → Prop} {cs sl pc : Nat} {L : List (Option Value)} {st : List Value} {M : bj_M}
theorem bv_aald {k j N : Nat} {cA : ClassId} {ty : FieldType} {g : Nat → Nat} (d : decode Y.2.2.1 pc = .ok (.aaload, 1)) (t : Nat) (ht : G.2.2.2.1[t]? = some (cA, ty)) (hty : ty.isReference = true) (h : bv_R cA M k N g) (hj : j < N) (hN : N < 2 ^ 31)
    (kk : bj_S G Y n K ad Q cs sl (pc + 1) L (.ref (g j) :: st) M) : bj_S G Y n K ad Q cs sl pc L (.int (nI j) :: .ref (ad k) :: st) M := by
  obtain ⟨f, h1, h2⟩ := h
  exact bj_aald d t ht hty h1 rfl hj hN (h2 j hj) kk
/-- a count: its number of candidates, its voters, its grid -/
def co_ok (c : Nat → ClassId) (ad : Nat → Nat) (M : bj_M) (k N : Nat) (vs : Int32) (P : Nat → Nat → Int32) : Prop := M k = some (.inr (2, [.int (nI N), .int vs, .ref (ad (k + 1))])) ∧ bv_R (c 4) M (k + 1) N (fun i => ad (k + 2 + i)) ∧ ∀ a, a < N → bv_I (c 0) M (k + 2 + a) N (P a)
end BV2
