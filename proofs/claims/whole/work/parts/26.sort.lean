/-! pairs put into their order one by one; the line that the locked pairs leave -/
section SO
/-- direct strengths as numbers -/
def drn (p : Nat → Nat → Nat) (a b : Nat) : Nat := if p b a < p a b then p a b else 0
/-- a pair (a, b) is 8 a + b; ps: the places in the drawn order -/
def so_bf (p : Nat → Nat → Nat) (ps : Nat → Nat) (x y : Nat) : Prop := ml_bf (fun x => drn p (x / 8) (x % 8)) (fun x => p (x % 8) (x / 8)) (fun x => ps (x / 8)) (fun x => ps (x % 8)) x y
def so_ov (p : Nat → Nat → Nat) (x y : Nat) : Prop := drn p (y / 8) (y % 8) < drn p (x / 8) (x % 8) ∨ (drn p (x / 8) (x % 8) = drn p (y / 8) (y % 8) ∧ p (x % 8) (x / 8) < p (y % 8) (y / 8))
/-- y was drawn before x -/
def so_dr (ps : Nat → Nat) (y x : Nat) : Prop := ps (y / 8) < ps (x / 8) ∨ (ps (y / 8) = ps (x / 8) ∧ ps (y % 8) < ps (x % 8))
variable {p : Nat → Nat → Nat} {ps : Nat → Nat} {e : Nat → Nat} {x y pn : Nat}
theorem so_ov_bf (h : so_ov p x y) : so_bf p ps x y := by
  unfold so_ov at h
  unfold so_bf ml_bf
  dsimp only
  omega
theorem so_no_bf (h : ¬ so_ov p x y) (hd : so_dr ps y x) : so_bf p ps y x := by
  unfold so_ov at h
  unfold so_dr at hd
  unfold so_bf ml_bf
  dsimp only
  omega
theorem so_bf_tr {z : Nat} (h1 : so_bf p ps x y) (h2 : so_bf p ps y z) : so_bf p ps x z := ml_bf_tr h1 h2
theorem so_bf_ir : ¬ so_bf p ps x x := ml_bf_ir
def so_st (p : Nat → Nat → Nat) (ps : Nat → Nat) (e : Nat → Nat) (pn : Nat) : Prop := ∀ i j, i < j → j < pn → so_bf p ps (e i) (e j)
def so_in (e : Nat → Nat) (k x i : Nat) : Nat := if i < k then e i else if i = k then x else e (i - 1)
theorem so_in_lt {k i : Nat} (h : i < k) : so_in e k x i = e i := if_pos h
theorem so_in_eq {k i : Nat} (h : i = k) : so_in e k x i = x := by unfold so_in; rw [if_neg (by omega), if_pos h]
theorem so_in_gt {k i : Nat} (h : k < i) : so_in e k x i = e (i - 1) := by unfold so_in; rw [if_neg (by omega), if_neg (by omega)]
theorem so_ins {k : Nat} (h : so_st p ps e pn) (hk : k ≤ pn) (hd : ∀ i, i < pn → so_dr ps (e i) x) (h1 : k = 0 ∨ ¬ so_ov p x (e (k - 1))) (h2 : ∀ i, k ≤ i → i < pn → so_ov p x (e i)) : so_st p ps (so_in e k x) (pn + 1) := by
  have hlo : ∀ i, i < k → so_bf p ps (e i) x := fun i hi => by
    rcases h1 with h1 | h1
    · omega
    · have g := so_no_bf (ps := ps) h1 (hd (k - 1) (by omega))
      rcases Nat.lt_or_ge i (k - 1) with q | q
      · exact so_bf_tr (h i (k - 1) q (by omega)) g
      · rw [show i = k - 1 by omega]; exact g
  intro i j hij hj
  rcases Nat.lt_trichotomy j k with q | q | q
  · rw [so_in_lt q, so_in_lt (by omega)]
    exact h i j hij (by omega)
  · rw [so_in_eq q, so_in_lt (by omega)]
    exact hlo i (by omega)
  · rw [so_in_gt q]
    rcases Nat.lt_trichotomy i k with g | g | g
    · rw [so_in_lt g]
      exact h i (j - 1) (by omega) (by omega)
    · rw [so_in_eq g]
      exact so_ov_bf (h2 (j - 1) (by omega) (by omega))
    · rw [so_in_gt g]
      exact h (i - 1) (j - 1) (by omega) (by omega)
theorem so_in_mem {k : Nat} (hk : k ≤ pn) : (∃ i, i < pn + 1 ∧ so_in e k x i = y) ↔ (y = x ∨ ∃ i, i < pn ∧ e i = y) := by
  constructor
  · rintro ⟨i, hi, h⟩
    rcases Nat.lt_trichotomy i k with q | q | q
    · rw [so_in_lt q] at h
      exact Or.inr ⟨i, by omega, h⟩
    · rw [so_in_eq q] at h
      exact Or.inl h.symm
    · rw [so_in_gt q] at h
      exact Or.inr ⟨i - 1, by omega, h⟩
  · rintro (h | ⟨i, hi, h⟩)
    · exact ⟨k, by omega, by rw [so_in_eq rfl, h]⟩
    · rcases Nat.lt_or_ge i k with q | q
      · exact ⟨i, by omega, by rw [so_in_lt q, h]⟩
      · exact ⟨i + 1, by omega, by rw [so_in_gt (by omega), Nat.add_sub_cancel, h]⟩
/-- the drawn order and its places -/
def pm_ok (N : Nat) (dw ps : Nat → Nat) : Prop := (∀ i, i < N → dw i < N ∧ ps (dw i) = i) ∧ ∀ a, a < N → ps a < N ∧ dw (ps a) = a
/-- all pairs in their order -/
def so_all (p : Nat → Nat → Nat) (ps : Nat → Nat) (N : Nat) (e : Nat → Nat) (pn : Nat) : Prop := so_st p ps e pn ∧ (∀ i, i < pn → e i / 8 < N ∧ e i % 8 < N ∧ 0 < drn p (e i / 8) (e i % 8)) ∧ ∀ a b, a < N → b < N → 0 < drn p a b → ∃ i, i < pn ∧ e i = 8 * a + b
/-- those drawn before the place (i0, j0) -/
def so_to (p : Nat → Nat → Nat) (ps dw : Nat → Nat) (N i0 j0 : Nat) (e : Nat → Nat) (pn : Nat) : Prop := so_st p ps e pn ∧ pn ≤ i0 * N + j0 ∧ ∀ y, (∃ t, t < pn ∧ e t = y) ↔ ∃ i j, i < N ∧ j < N ∧ (i < i0 ∨ (i = i0 ∧ j < j0)) ∧ 0 < drn p (dw i) (dw j) ∧ y = 8 * dw i + dw j
variable {dw : Nat → Nat} {N i0 j0 : Nat}
theorem so_to_no (h : so_to p ps dw N i0 j0 e pn) (hz : ¬ 0 < drn p (dw i0) (dw j0)) : so_to p ps dw N i0 (j0 + 1) e pn := by
  obtain ⟨h1, h2, h3⟩ := h
  refine ⟨h1, by omega, fun y => (h3 y).trans ⟨?_, ?_⟩⟩
  · rintro ⟨i, j, g1, g2, g3, g4⟩
    exact ⟨i, j, g1, g2, by omega, g4⟩
  · rintro ⟨i, j, g1, g2, g3, g4, g5⟩
    refine ⟨i, j, g1, g2, ?_, g4, g5⟩
    rcases g3 with g | ⟨g, g'⟩
    · exact Or.inl g
    · rcases Nat.lt_or_ge j j0 with q | q
      · exact Or.inr ⟨g, q⟩
      · subst g
        rw [show j = j0 by omega] at g4
        exact absurd g4 hz
theorem so_to_row (h : so_to p ps dw N i0 N e pn) : so_to p ps dw N (i0 + 1) 0 e pn := by
  obtain ⟨h1, h2, h3⟩ := h
  refine ⟨h1, by rw [Nat.add_mul]; omega, fun y => (h3 y).trans ⟨?_, ?_⟩⟩
  · rintro ⟨i, j, g1, g2, g3, g4⟩
    exact ⟨i, j, g1, g2, by omega, g4⟩
  · rintro ⟨i, j, g1, g2, g3, g4⟩
    exact ⟨i, j, g1, g2, by omega, g4⟩
theorem so_to_dr (hN : N ≤ 8) (hp : pm_ok N dw ps) (h : so_to p ps dw N i0 j0 e pn) (hi : i0 < N) (hj : j0 < N) : ∀ t, t < pn → so_dr ps (e t) (8 * dw i0 + dw j0) := by
  intro t ht
  obtain ⟨i, j, g1, g2, g3, -, g5⟩ := (h.2.2 (e t)).mp ⟨t, ht, rfl⟩
  have a1 := hp.1 i g1
  have a2 := hp.1 j g2
  have a3 := hp.1 i0 hi
  have a4 := hp.1 j0 hj
  unfold so_dr
  rw [g5, show (8 * dw i + dw j) / 8 = dw i by omega, show (8 * dw i + dw j) % 8 = dw j by omega, show (8 * dw i0 + dw j0) / 8 = dw i0 by omega, show (8 * dw i0 + dw j0) % 8 = dw j0 by omega, a1.2, a2.2, a3.2, a4.2]
  omega
theorem so_to_yes {k : Nat} (hN : N ≤ 8) (hp : pm_ok N dw ps) (h : so_to p ps dw N i0 j0 e pn) (hi : i0 < N) (hj : j0 < N) (hz : 0 < drn p (dw i0) (dw j0)) (hk : k ≤ pn) (g1 : k = 0 ∨ ¬ so_ov p (8 * dw i0 + dw j0) (e (k - 1))) (g2 : ∀ i, k ≤ i → i < pn → so_ov p (8 * dw i0 + dw j0) (e i)) : so_to p ps dw N i0 (j0 + 1) (so_in e k (8 * dw i0 + dw j0)) (pn + 1) := by
  have hd := so_to_dr hN hp h hi hj
  obtain ⟨h1, h2, h3⟩ := h
  refine ⟨so_ins h1 hk hd g1 g2, by omega, fun y => (so_in_mem hk).trans ?_⟩
  rw [h3 y]
  constructor
  · rintro (q | ⟨i, j, q1, q2, q3, q4⟩)
    · exact ⟨i0, j0, hi, hj, by omega, hz, q⟩
    · exact ⟨i, j, q1, q2, by omega, q4⟩
  · rintro ⟨i, j, q1, q2, q3, q4, q5⟩
    rcases q3 with q | ⟨q, q'⟩
    · exact Or.inr ⟨i, j, q1, q2, Or.inl q, q4, q5⟩
    · rcases Nat.lt_or_ge j j0 with g | g
      · exact Or.inr ⟨i, j, q1, q2, Or.inr ⟨q, g⟩, q4, q5⟩
      · subst q
        rw [show j = j0 by omega] at q5
        exact Or.inl q5
theorem so_to_end (hN : N ≤ 8) (hp : pm_ok N dw ps) (h : so_to p ps dw N N 0 e pn) : so_all p ps N e pn := by
  obtain ⟨h1, h2, h3⟩ := h
  refine ⟨h1, fun t ht => ?_, fun a b ha hb hd => ?_⟩
  · obtain ⟨i, j, g1, g2, -, g4, g5⟩ := (h3 (e t)).mp ⟨t, ht, rfl⟩
    have a1 := hp.1 i g1
    have a2 := hp.1 j g2
    rw [g5, show (8 * dw i + dw j) / 8 = dw i by omega, show (8 * dw i + dw j) % 8 = dw j by omega]
    exact ⟨a1.1, a2.1, g4⟩
  · have a1 := hp.2 a ha
    have a2 := hp.2 b hb
    exact (h3 _).mpr ⟨ps a, ps b, a1.1, a2.1, by omega, by rw [a1.2, a2.2]; exact hd, by rw [a1.2, a2.2]⟩
theorem so_to_0 : so_to p ps dw N 0 0 e 0 := ⟨fun _ _ _ h => absurd h (Nat.not_lt_zero _), Nat.zero_le _, fun y => ⟨fun ⟨_, h, _⟩ => absurd h (Nat.not_lt_zero _), fun ⟨_, _, _, _, h, _⟩ => by omega⟩⟩
/-! who leads: only candidates -/
theorem ml_run_in {u v : Nat → Nat} : ∀ i, (∀ j, j < i → u j < N ∧ v j < N) → ∀ x y, (ml_run u v i).2 x y = true → x < N ∧ y < N
  | 0, _ => fun _ _ h => by cases h
  | i + 1, h => by
    have ih := ml_run_in i (fun j hj => h j (by omega))
    have h1 := h i (by omega)
    unfold ml_run
    split
    · exact ih
    · intro x y hxy
      have hxy' : ml_ld (ml_run u v i).2 (u i) (v i) x y = true := hxy
      unfold ml_ld at hxy'
      rw [Bool.or_eq_true, Bool.and_eq_true, Bool.or_eq_true, Bool.or_eq_true, beq_iff_eq, beq_iff_eq] at hxy'
      rcases hxy' with q | ⟨q | q, q' | q'⟩
      · exact ih x y q
      · exact ⟨by omega, by omega⟩
      · exact ⟨by omega, (ih _ _ q').2⟩
      · exact ⟨(ih _ _ q).1, by omega⟩
      · exact ⟨(ih _ _ q).1, (ih _ _ q').2⟩
/-! the line -/
def ln_q (lk : Nat → Nat → Bool) (dw : Nat → Nat) (N : Nat) (L : Nat → Bool) (i : Nat) : Bool := L (dw i) && decide (∀ b, b < N → L b = true → lk b (dw i) = false)
def ln_nx (lk : Nat → Nat → Bool) (dw : Nat → Nat) (N : Nat) (L : Nat → Bool) : Nat := dw ((ft (ln_q lk dw N L) N).getD 0)
def ln_left (lk : Nat → Nat → Bool) (dw : Nat → Nat) (N : Nat) : Nat → Nat → Bool
  | 0 => fun x => decide (x < N)
  | j + 1 => fun x => ln_left lk dw N j x && !(x == ln_nx lk dw N (ln_left lk dw N j))
def ln_at (lk : Nat → Nat → Bool) (dw : Nat → Nat) (N j : Nat) : Nat := ln_nx lk dw N (ln_left lk dw N j)
theorem mn_cnt_rm (q : Nat → Bool) (a : Nat) : ∀ n, mn_cnt q n ≤ mn_cnt (fun x => q x && !(x == a)) n + 1 ∧ (n ≤ a → mn_cnt q n = mn_cnt (fun x => q x && !(x == a)) n)
  | 0 => ⟨by show 0 ≤ _; omega, fun _ => rfl⟩
  | n + 1 => by
    obtain ⟨h1, h2⟩ := mn_cnt_rm q a n
    unfold mn_cnt
    by_cases e : n = a
    · subst e
      have := h2 (Nat.le_refl _)
      refine ⟨?_, fun h => by omega⟩
      simp only [beq_self_eq_true, Bool.not_true, Bool.and_false]
      split <;> simp <;> omega
    · have e2 : (q n && !(n == a)) = q n := by simp [e]
      rw [e2]
      exact ⟨by omega, fun h => by rw [h2 (by omega)]⟩
theorem mn_cnt_all : ∀ n m, n ≤ m → mn_cnt (fun x => decide (x < m)) n = n
  | 0, _, _ => rfl
  | n + 1, m, h => by
    unfold mn_cnt
    rw [mn_cnt_all n m (by omega), if_pos (decide_eq_true (by omega))]
theorem ln_left_cnt {lk : Nat → Nat → Bool} : ∀ j, N ≤ mn_cnt (ln_left lk dw N j) N + j
  | 0 => Nat.le_of_eq (mn_cnt_all N N (Nat.le_refl _)).symm
  | j + 1 => by
    have h := ln_left_cnt (lk := lk) j
    have h2 := (mn_cnt_rm (ln_left lk dw N j) (ln_nx lk dw N (ln_left lk dw N j)) N).1
    show N ≤ mn_cnt (fun x => ln_left lk dw N j x && !(x == ln_nx lk dw N (ln_left lk dw N j))) N + (j + 1)
    omega
theorem ln_left_in {lk : Nat → Nat → Bool} : ∀ j x, ln_left lk dw N j x = true → x < N
  | 0, x, h => of_decide_eq_true h
  | j + 1, x, h => by
    have h' : (ln_left lk dw N j x && !(x == ln_nx lk dw N (ln_left lk dw N j))) = true := h
    rw [Bool.and_eq_true] at h'
    exact ln_left_in j x h'.1
theorem mn_cnt_ex {q : Nat → Bool} : ∀ n, 0 < mn_cnt q n → ∃ x, x < n ∧ q x = true
  | 0, h => absurd h (Nat.not_lt_zero _)
  | n + 1, h => by
    by_cases e : q n = true
    · exact ⟨n, by omega, e⟩
    · unfold mn_cnt at h
      rw [if_neg e] at h
      obtain ⟨x, h1, h2⟩ := mn_cnt_ex n h
      exact ⟨x, by omega, h2⟩
/-- one is free as long as one is left -/
theorem ln_free {lk ld : Nat → Nat → Bool} (hp : pm_ok N dw ps) (ho : ml_ord ld) (hl : ∀ x y, lk x y = true → ld x y = true) {j : Nat} (hj : j < N) : ∃ i, i < N ∧ ft (ln_q lk dw N (ln_left lk dw N j)) N = some i ∧ ln_at lk dw N j = dw i ∧ ln_left lk dw N j (dw i) = true := by
  have hc := ln_left_cnt (lk := lk) (dw := dw) (N := N) j
  obtain ⟨x0, h0, h0'⟩ := mn_cnt_ex (q := ln_left lk dw N j) N (by omega)
  obtain ⟨x, hx, hf⟩ := ml_first ho (n := N) (S := fun x => ln_left lk dw N j x = true) (fun x h => ln_left_in j x h) ⟨x0, h0'⟩
  have hxN := ln_left_in j x hx
  obtain ⟨hs, hs'⟩ := hp.2 x hxN
  have hq : ln_q lk dw N (ln_left lk dw N j) (ps x) = true := by
    unfold ln_q
    rw [hs', hx, Bool.true_and]
    refine decide_eq_true (fun b _ hb => ?_)
    cases e : lk b x with
    | false => rfl
    | true =>
      have := hf b hb
      rw [hl _ _ e] at this
      cases this
  cases e : ft (ln_q lk dw N (ln_left lk dw N j)) N with
  | none =>
    rw [ft_none.mp e _ hs] at hq
    cases hq
  | some i =>
    obtain ⟨g1, g2, -⟩ := ft_eq.mp e
    unfold ln_q at g2
    rw [Bool.and_eq_true] at g2
    refine ⟨i, g1, rfl, ?_, g2.1⟩
    unfold ln_at ln_nx
    rw [e]
    rfl
end SO
