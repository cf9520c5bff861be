/-! pairs in their order; which are locked; who leads to whom; the line that comes of it -/
section ML
/-- the keys of a pair: its strength, who is against it, the drawn places of its upper and its lower -/
def ml_bf (d q pu pl : Nat → Nat) (x y : Nat) : Prop := d y < d x ∨ (d x = d y ∧ (q x < q y ∨ (q x = q y ∧ (pu x < pu y ∨ (pu x = pu y ∧ pl x < pl y)))))
theorem ml_bf_tr {d q pu pl : Nat → Nat} {x y z : Nat} (h1 : ml_bf d q pu pl x y) (h2 : ml_bf d q pu pl y z) : ml_bf d q pu pl x z := by
  unfold ml_bf at h1 h2 ⊢
  omega
theorem ml_bf_ir {d q pu pl : Nat → Nat} {x : Nat} : ¬ ml_bf d q pu pl x x := by
  unfold ml_bf
  omega
theorem ml_bf_to {d q pu pl : Nat → Nat} {x y : Nat} : ml_bf d q pu pl x y ∨ (d x = d y ∧ q x = q y ∧ pu x = pu y ∧ pl x = pl y) ∨ ml_bf d q pu pl y x := by
  unfold ml_bf
  omega
/-- one pair (a, b) comes: who leads to whom then -/
def ml_ld (ld : Nat → Nat → Bool) (a b : Nat) : Nat → Nat → Bool := fun x y => ld x y || ((x == a || ld x a) && (y == b || ld b y))
def ml_lk (lk : Nat → Nat → Bool) (a b : Nat) : Nat → Nat → Bool := fun x y => lk x y || (x == a && y == b)
/-- what stands after the first i of the pairs (u j, v j): locked, leads -/
def ml_run (u v : Nat → Nat) : Nat → (Nat → Nat → Bool) × (Nat → Nat → Bool)
  | 0 => (fun _ _ => false, fun _ _ => false)
  | i + 1 => if (ml_run u v i).2 (v i) (u i) = true then ml_run u v i else (ml_lk (ml_run u v i).1 (u i) (v i), ml_ld (ml_run u v i).2 (u i) (v i))
/-- no ring: leading is a strict order -/
def ml_ord (ld : Nat → Nat → Bool) : Prop := (∀ x, ld x x = false) ∧ ∀ x y z, ld x y = true → ld y z = true → ld x z = true
theorem ml_ld_ord {ld : Nat → Nat → Bool} {a b : Nat} (h : ml_ord ld) (hab : a ≠ b) (hn : ld b a = false) : ml_ord (ml_ld ld a b) := by
  obtain ⟨ir, tr⟩ := h
  have key : ∀ x y, ml_ld ld a b x y = true ↔ ld x y = true ∨ ((x = a ∨ ld x a = true) ∧ (y = b ∨ ld b y = true)) := by
    intro x y
    simp [ml_ld]
  refine ⟨fun x => ?_, fun x y z h1 h2 => ?_⟩
  · cases hx : ml_ld ld a b x x with
    | false => rfl
    | true =>
      exfalso
      rcases (key x x).mp hx with h | ⟨h1 | h1, h2 | h2⟩
      · rw [ir] at h; cases h
      · exact hab (h1.symm.trans h2)
      · rw [h1, hn] at h2; cases h2
      · rw [h2, hn] at h1; cases h1
      · have := tr _ _ _ h2 h1
        rw [hn] at this; cases this
  · rw [key] at h1 h2 ⊢
    rcases h1 with h1 | ⟨h1, h1'⟩
    · rcases h2 with h2 | ⟨h2, h2'⟩
      · exact Or.inl (tr _ _ _ h1 h2)
      · refine Or.inr ⟨Or.inr ?_, h2'⟩
        rcases h2 with h2 | h2
        · rw [← h2]; exact h1
        · exact tr _ _ _ h1 h2
    · rcases h2 with h2 | ⟨h2, h2'⟩
      · refine Or.inr ⟨h1, Or.inr ?_⟩
        rcases h1' with h3 | h3
        · rw [← h3]; exact h2
        · exact tr _ _ _ h3 h2
      · exact Or.inr ⟨h1, h2'⟩
theorem ml_run_ok {u v : Nat → Nat} : ∀ i, (∀ j, j < i → u j ≠ v j) → ml_ord (ml_run u v i).2 ∧ ∀ x y, (ml_run u v i).1 x y = true → (ml_run u v i).2 x y = true
  | 0, _ => ⟨⟨fun _ => rfl, fun _ _ _ h _ => by cases h⟩, fun _ _ h => by cases h⟩
  | i + 1, h => by
    obtain ⟨h1, h2⟩ := ml_run_ok i (fun j hj => h j (by omega))
    unfold ml_run
    by_cases hl : (ml_run u v i).2 (v i) (u i) = true
    · rw [if_pos hl]
      exact ⟨h1, h2⟩
    · rw [if_neg hl]
      refine ⟨ml_ld_ord h1 (h i (by omega)) (by simpa using hl), fun x y hxy => ?_⟩
      show ml_ld (ml_run u v i).2 (u i) (v i) x y = true
      have hxy' : ml_lk (ml_run u v i).1 (u i) (v i) x y = true := hxy
      unfold ml_lk at hxy'
      unfold ml_ld
      rw [Bool.or_eq_true, Bool.and_eq_true] at hxy'
      rcases hxy' with h3 | ⟨h3, h4⟩
      · rw [h2 x y h3]
        rfl
      · rw [h3, h4]
        simp
/-- in a set that isn't empty one is led to by none of it -/
theorem ml_first {ld : Nat → Nat → Bool} (h : ml_ord ld) {n : Nat} {S : Nat → Prop} (hn : ∀ x, S x → x < n) (hs : ∃ x, S x) : ∃ x, S x ∧ ∀ y, S y → ld y x = false := by
  obtain ⟨ir, tr⟩ := h
  obtain ⟨x0, hx0⟩ := hs
  obtain ⟨k, ⟨x, hx, hk⟩, hmin⟩ := pk_least (fun k => ∃ x, S x ∧ mn_cnt (fun y => ld y x) n = k) ⟨_, x0, hx0, rfl⟩
  refine ⟨x, hx, fun y hy => ?_⟩
  cases hl : ld y x with
  | false => rfl
  | true =>
    exfalso
    have h1 := mn_cnt_lt (p := fun z => ld z y) (q := fun z => ld z x) n (fun z _ hz => tr z y x hz hl) (hn y hy) (ir y) hl
    exact hmin _ (by rw [← hk]; exact h1) ⟨y, hy, rfl⟩
end ML
