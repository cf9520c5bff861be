/-! the least set whose members beat all outside it -/
section MT
/-- whom a member does not beat (r) is a member -/
def mt_cl (r : Nat → Nat → Bool) (n : Nat) (T : Nat → Bool) : Prop := ∀ a b, a < n → b < n → T a = true → r a b = true → T b = true
theorem mt_eq {r : Nat → Nat → Bool} {n : Nat} {T S : Nat → Bool} (hr : ∀ a b, a < n → b < n → r a b = false → r b a = true) (hT : mt_cl r n T) (hS : mt_cl r n S) (hc : mn_cnt T n = mn_cnt S n) : ∀ x, x < n → T x = S x := by
  have key : ∀ (T S : Nat → Bool), mt_cl r n T → mt_cl r n S → mn_cnt T n = mn_cnt S n → ∀ x, x < n → T x = true → S x = true := by
    intro T S hT hS hc x hx h1
    cases h2 : S x with
    | true => rfl
    | false =>
      exfalso
      have h3 : ∀ b, b < n → S b = true → T b = true := by
        intro b hb h4
        cases h5 : r x b with
        | true => exact hT x b hx hb h1 h5
        | false =>
          have h6 := hS b x hb hx h4 (hr x b hx hb h5)
          rw [h2] at h6
          cases h6
      have h7 := mn_cnt_lt (p := S) (q := T) n h3 hx h2 h1
      omega
  intro x hx
  cases h1 : T x with
  | true => exact (key T S hT hS hc x hx h1).symm
  | false =>
    cases h2 : S x with
    | false => rfl
    | true =>
      have h3 := key S T hS hT hc.symm x hx h2
      rw [h1] at h3
      cases h3
/-- all that must be members if c is -/
def mt_of (r : Nat → Nat → Bool) (n c : Nat) : Nat → Bool := mn_nr (fun x y => r y x) n c (n - 1)
theorem mt_of_cl {r : Nat → Nat → Bool} {n c : Nat} (hc : c < n) : mt_cl r n (mt_of r n c) := by
  intro a b ha hb h1 h2
  exact mn_all hc hb (mn_nr_s.mpr (Or.inr ⟨a, ha, h2, h1⟩))
theorem mt_of_self {r : Nat → Nat → Bool} {n c : Nat} : mt_of r n c c = true := mn_nr_le (Nat.zero_le _) (mn_nr_0.mpr rfl)
theorem mt_of_in {r : Nat → Nat → Bool} {n c : Nat} {S : Nat → Bool} (hS : mt_cl r n S) (h : S c = true) : ∀ k x, x < n → mn_nr (fun x y => r y x) n c k x = true → S x = true := by
  intro k
  induction k with
  | zero =>
    intro x _ hx
    rw [mn_nr_0.mp hx]
    exact h
  | succ k ih =>
    intro x hx h1
    rcases mn_nr_s.mp h1 with h2 | ⟨y, hy, h2, h3⟩
    · exact ih x hx h2
    · exact hS y x hy hx (ih y hy h3) h2
theorem mt_top {r : Nat → Nat → Bool} {n c0 : Nat} {T : Nat → Bool} (hr : ∀ a b, a < n → b < n → r a b = false → r b a = true) (hc0 : c0 < n) (hmin : ∀ c, c < n → mn_cnt (mt_of r n c0) n ≤ mn_cnt (mt_of r n c) n)
    (hT : mt_cl r n T) (hne : ∃ c, c < n ∧ T c = true) (hle : ∀ S : Nat → Bool, mt_cl r n S → (∃ c, c < n ∧ S c = true) → mn_cnt T n ≤ mn_cnt S n) : ∀ x, x < n → T x = mt_of r n c0 x := by
  obtain ⟨c, hc, h1⟩ := hne
  have h2 : mn_cnt (mt_of r n c) n ≤ mn_cnt T n := mn_cnt_mono n (fun x hx h => mt_of_in hT h1 _ x hx h)
  have h3 := hmin c hc
  have h4 := hle _ (mt_of_cl hc0) ⟨c0, hc0, mt_of_self⟩
  exact mt_eq hr hT (mt_of_cl hc0) (by omega)
end MT
