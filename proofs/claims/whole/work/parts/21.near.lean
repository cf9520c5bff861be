/-! how far a candidate is from b by steps of a graph r (r c y: a step from c to y); what stands after as many rounds as there are candidates -/
section MN
def mn_cnt (p : Nat → Bool) : Nat → Nat
  | 0 => 0
  | n + 1 => mn_cnt p n + (if p n = true then 1 else 0)
theorem mn_cnt_le (p : Nat → Bool) : ∀ n, mn_cnt p n ≤ n
  | 0 => Nat.le_refl 0
  | n + 1 => by
    have h := mn_cnt_le p n
    unfold mn_cnt
    split <;> omega
theorem mn_cnt_mono {p q : Nat → Bool} : ∀ n, (∀ i, i < n → p i = true → q i = true) → mn_cnt p n ≤ mn_cnt q n
  | 0, _ => Nat.le_refl 0
  | n + 1, h => by
    have h1 := mn_cnt_mono n (fun i hi => h i (by omega))
    have h2 := h n (by omega)
    unfold mn_cnt
    by_cases hp : p n = true
    · rw [if_pos hp, if_pos (h2 hp)]
      omega
    · rw [if_neg hp]
      split <;> omega
theorem mn_cnt_lt {p q : Nat → Bool} {i : Nat} : ∀ n, (∀ i, i < n → p i = true → q i = true) → i < n → p i = false → q i = true → mn_cnt p n < mn_cnt q n
  | 0, _, hi, _, _ => absurd hi (Nat.not_lt_zero _)
  | n + 1, h, hi, hp, hq => by
    have h2 := h n (by omega)
    unfold mn_cnt
    by_cases e : i = n
    · subst e
      have h1 := mn_cnt_mono i (fun j hj => h j (by omega))
      rw [hp, hq]
      simp
      omega
    · have h1 := mn_cnt_lt n (fun j hj => h j (by omega)) (by omega) hp hq
      by_cases hpn : p n = true
      · rw [if_pos hpn, if_pos (h2 hpn)]
        omega
      · rw [if_neg hpn]
        split <;> omega
theorem mn_cnt_pos {p : Nat → Bool} {i n : Nat} (hi : i < n) (hp : p i = true) : 1 ≤ mn_cnt p n := by
  have h := mn_cnt_lt (p := fun _ => false) (q := p) n (fun _ _ h => by cases h) hi rfl hp
  omega
/-- within k steps of b -/
def mn_nr (r : Nat → Nat → Bool) (n b : Nat) : Nat → Nat → Bool
  | 0, c => c == b
  | k + 1, c => mn_nr r n b k c || (List.range n).any (fun y => r c y && mn_nr r n b k y)
variable {r : Nat → Nat → Bool} {n b : Nat}
theorem mn_nr_s {k c : Nat} : mn_nr r n b (k + 1) c = true ↔ mn_nr r n b k c = true ∨ ∃ y, y < n ∧ r c y = true ∧ mn_nr r n b k y = true := by
  show (mn_nr r n b k c || (List.range n).any (fun y => r c y && mn_nr r n b k y)) = true ↔ _
  rw [Bool.or_eq_true, List.any_eq_true]
  constructor
  · rintro (h | ⟨y, hy, h⟩)
    · exact Or.inl h
    · rw [Bool.and_eq_true] at h
      exact Or.inr ⟨y, List.mem_range.mp hy, h.1, h.2⟩
  · rintro (h | ⟨y, hy, h1, h2⟩)
    · exact Or.inl h
    · exact Or.inr ⟨y, List.mem_range.mpr hy, by rw [h1, h2]; rfl⟩
theorem mn_nr_0 {c : Nat} : mn_nr r n b 0 c = true ↔ c = b := by
  show (c == b) = true ↔ _
  exact beq_iff_eq
theorem mn_nr_le {j k c : Nat} (h : j ≤ k) (hc : mn_nr r n b j c = true) : mn_nr r n b k c = true := by
  induction k with
  | zero => have e : j = 0 := by omega
            subst e; exact hc
  | succ k ih =>
    rcases Nat.lt_or_ge j (k + 1) with h1 | h1
    · exact mn_nr_s.mpr (Or.inl (ih (by omega)))
    · have e : j = k + 1 := by omega
      subst e; exact hc
/-- where a round adds none, none comes later -/
theorem mn_nr_fix {k : Nat} (h : ∀ c, c < n → mn_nr r n b (k + 1) c = true → mn_nr r n b k c = true) : ∀ j c, c < n → mn_nr r n b (k + j) c = true → mn_nr r n b k c = true := by
  intro j
  induction j with
  | zero => exact fun c _ hc => hc
  | succ j ih =>
    intro c hc h1
    rcases mn_nr_s.mp (show mn_nr r n b (k + j + 1) c = true from h1) with h2 | ⟨y, hy, h2, h3⟩
    · exact ih c hc h2
    · exact h c hc (mn_nr_s.mpr (Or.inr ⟨y, hy, h2, ih y hy h3⟩))
theorem mn_grow (m : Nat) (h : ∀ k, k < m → ∃ c, c < n ∧ mn_nr r n b (k + 1) c = true ∧ mn_nr r n b k c = false) : mn_cnt (mn_nr r n b 0) n + m ≤ mn_cnt (mn_nr r n b m) n := by
  induction m with
  | zero => exact Nat.le_refl _
  | succ m ih =>
    have h1 := ih (fun k hk => h k (by omega))
    obtain ⟨c, hc, h2, h3⟩ := h m (by omega)
    have h4 := mn_cnt_lt (p := mn_nr r n b m) (q := mn_nr r n b (m + 1)) n (fun i _ hi => mn_nr_le (by omega) hi) hc h3 h2
    omega
/-- n - 1 rounds reach all -/
theorem mn_all (hb : b < n) {j c : Nat} (hc : c < n) (h : mn_nr r n b j c = true) : mn_nr r n b (n - 1) c = true := by
  by_cases hx : ∃ k, k < n ∧ ∀ c, c < n → mn_nr r n b (k + 1) c = true → mn_nr r n b k c = true
  · obtain ⟨k, hk, hf⟩ := hx
    exact mn_nr_le (show k ≤ n - 1 by omega) (by
      rcases Nat.lt_or_ge j k with h1 | h1
      · exact mn_nr_le (by omega) h
      · obtain ⟨d, rfl⟩ := Nat.exists_eq_add_of_le h1
        exact mn_nr_fix hf d c hc h)
  · exfalso
    have h1 := mn_grow (r := r) (n := n) (b := b) n (fun k hk => by
      refine Classical.byContradiction fun hn => hx ⟨k, hk, fun c hc h2 => ?_⟩
      cases h3 : mn_nr r n b k c with
      | true => rfl
      | false => exact absurd ⟨c, hc, h2, h3⟩ hn)
    have h2 := mn_cnt_le (mn_nr r n b n) n
    have h3 := mn_cnt_pos (p := mn_nr r n b 0) hb (mn_nr_0.mpr rfl)
    omega
/-- a number of steps for each: the least, or top if there is none -/
def mn_ds (r : Nat → Nat → Bool) (n b top : Nat) (S : Nat → Nat) : Prop := ∀ c, c < n → (S c = top ∧ ∀ k, mn_nr r n b k c = false) ∨ (S c < n ∧ mn_nr r n b (S c) c = true ∧ ∀ k, k < S c → mn_nr r n b k c = false)
theorem mn_ds_eq {S : Nat → Nat} {top k c : Nat} (h : mn_ds r n b top S) (hc : c < n) (hk : mn_nr r n b k c = true) (hl : ∀ j, j < k → mn_nr r n b j c = false) : S c = k := by
  rcases h c hc with ⟨-, h2⟩ | ⟨-, h2, h3⟩
  · rw [h2 k] at hk
    cases hk
  · rcases Nat.lt_trichotomy (S c) k with h4 | h4 | h4
    · rw [hl _ h4] at h2
      cases h2
    · exact h4
    · rw [h3 _ h4] at hk
      cases hk
theorem mn_ds_same {S S' : Nat → Nat} {top top' c : Nat} (h : mn_ds r n b top S) (h' : mn_ds r n b top' S') (hc : c < n) : S c = S' c ∨ (S c = top ∧ S' c = top') := by
  rcases h c hc with ⟨h1, h2⟩ | ⟨-, h2, h3⟩
  · rcases h' c hc with ⟨h4, -⟩ | ⟨-, h4, -⟩
    · exact Or.inr ⟨h1, h4⟩
    · rw [h2] at h4
      cases h4
  · exact Or.inl (mn_ds_eq h' hc h2 h3).symm
/-- from one that isn't b a step leads nearer -/
theorem mn_step {S : Nat → Nat} {top c : Nat} (h : mn_ds r n b top S) (ht : n ≤ top) (hc : c < n) (hf : S c < n) (hne : c ≠ b) : ∃ y, y < n ∧ r c y = true ∧ S y + 1 = S c := by
  rcases h c hc with ⟨h1, -⟩ | ⟨h1, h2, h3⟩
  · omega
  · cases hS : S c with
    | zero =>
      rw [hS] at h2
      exact absurd (mn_nr_0.mp h2) hne
    | succ k =>
      rw [hS] at h2
      have h4 := h3 k (by omega)
      rcases mn_nr_s.mp h2 with h5 | ⟨y, hy, h5, h6⟩
      · rw [h4] at h5
        cases h5
      · refine ⟨y, hy, h5, ?_⟩
        rw [mn_ds_eq h hy h6 (fun j hj => ?_)]
        cases h7 : mn_nr r n b j y with
        | false => rfl
        | true =>
          have h8 : mn_nr r n b (j + 1) c = true := mn_nr_s.mpr (Or.inr ⟨y, hy, h5, h7⟩)
          rw [h3 (j + 1) (by omega)] at h8
          cases h8
end MN
