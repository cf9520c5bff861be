/-! strongest ways: what both programs compute, by one mathematical value -/
section MG
def mg_st (dr : Nat → Nat → Nat) (n s : Nat) (x y : Nat) : Prop := x < n ∧ y < n ∧ s ≤ dr x y
theorem mg_st_le {dr : Nat → Nat → Nat} {n s s' a b : Nat} (h : Relation.TransGen (mg_st dr n s) a b) (hs : s' ≤ s) : Relation.TransGen (mg_st dr n s') a b := by
  induction h with
  | single h => exact .single ⟨h.1, h.2.1, Nat.le_trans hs h.2.2⟩
  | tail _ h ih => exact .tail ih ⟨h.1, h.2.1, Nat.le_trans hs h.2.2⟩
theorem mg_st_in {dr : Nat → Nat → Nat} {n s a b : Nat} (h : Relation.TransGen (mg_st dr n s) a b) : a < n ∧ b < n := by
  induction h with
  | single h => exact ⟨h.1, h.2.1⟩
  | tail _ h ih => exact ⟨ih.1, h.2.1⟩
/-- reached: each value that isn't zero is that of some way -/
def mg_ac (dr F : Nat → Nat → Nat) (n : Nat) : Prop := ∀ a b, a < n → b < n → 0 < F a b → Relation.TransGen (mg_st dr n (F a b)) a b
/-- closed over the first k: no detour by one of them is stronger -/
def mg_cl (dr F : Nat → Nat → Nat) (n k : Nat) : Prop := (∀ a b, a < n → b < n → dr a b ≤ F a b) ∧ ∀ a m b, a < n → m < k → b < n → min (F a m) (F m b) ≤ F a b
theorem mg_cl_le {dr F : Nat → Nat → Nat} {n s a b : Nat} (h : mg_cl dr F n n) (hp : Relation.TransGen (mg_st dr n s) a b) : s ≤ F a b := by
  induction hp with
  | single g => exact Nat.le_trans g.2.2 (h.1 _ _ g.1 g.2.1)
  | tail p g ih =>
    have h1 := h.2 _ _ _ (mg_st_in p).1 g.1 g.2.1
    have h2 := h.1 _ _ g.1 g.2.1
    have h3 := g.2.2
    omega
/-- one stage of the class: by the detour over k -/
def mg_fw (F : Nat → Nat → Nat) (k : Nat) : Nat → Nat → Nat := fun a b => max (F a b) (min (F a k) (F k b))
theorem mg_fw_cl {dr F : Nat → Nat → Nat} {n k : Nat} (hk : k < n) (h : mg_cl dr F n k) : mg_cl dr (mg_fw F k) n (k + 1) := by
  refine ⟨fun a b ha hb => Nat.le_trans (h.1 a b ha hb) (Nat.le_max_left _ _), fun a m b ha hm hb => ?_⟩
  unfold mg_fw
  rcases Nat.lt_or_ge m k with hmk | hmk
  · have h1 := h.2 a m b ha hmk hb
    have h2 := h.2 k m b hk hmk hb
    have h3 := h.2 a m k ha hmk hk
    omega
  · have e : m = k := by omega
    subst e
    omega
theorem mg_fw_ac {dr F : Nat → Nat → Nat} {n k : Nat} (hk : k < n) (h : mg_ac dr F n) : mg_ac dr (mg_fw F k) n := by
  intro a b ha hb hp
  unfold mg_fw at hp ⊢
  rcases Nat.lt_or_ge (F a b) (min (F a k) (F k b)) with h1 | h1
  · rw [Nat.max_eq_right (Nat.le_of_lt h1)]
    exact Relation.TransGen.trans (mg_st_le (h a k ha hk (by omega)) (Nat.min_le_left _ _)) (mg_st_le (h k b hk hb (by omega)) (Nat.min_le_right _ _))
  · rw [Nat.max_eq_left h1] at hp ⊢
    exact h a b ha hb hp
theorem mg_fw_0 {dr : Nat → Nat → Nat} {n : Nat} : mg_cl dr dr n 0 ∧ mg_ac dr dr n :=
  ⟨⟨fun _ _ _ _ => Nat.le_refl _, fun _ _ _ _ h _ => absurd h (Nat.not_lt_zero _)⟩, fun a b ha hb _ => .single ⟨ha, hb, Nat.le_refl _⟩⟩
/-- all stages -/
def mg_fws (dr : Nat → Nat → Nat) : Nat → Nat → Nat → Nat
  | 0 => dr
  | k + 1 => mg_fw (mg_fws dr k) k
theorem mg_fws_ok (dr : Nat → Nat → Nat) {n : Nat} : ∀ k, k ≤ n → mg_cl dr (mg_fws dr k) n k ∧ mg_ac dr (mg_fws dr k) n
  | 0, _ => mg_fw_0
  | k + 1, h => ⟨mg_fw_cl (by omega) (mg_fws_ok dr k (by omega)).1, mg_fw_ac (by omega) (mg_fws_ok dr k (by omega)).2⟩
/-- the reference's end: closed off the diagonal by one step more -/
def mg_fx (dr F : Nat → Nat → Nat) (n : Nat) : Prop := (∀ a b, a < n → b < n → dr a b ≤ F a b) ∧ ∀ a b c, a < n → b < n → c < n → a ≠ c → min (F a b) (dr b c) ≤ F a c
theorem mg_fx_le {dr F : Nat → Nat → Nat} {n s a b : Nat} (h : mg_fx dr F n) (hp : Relation.TransGen (mg_st dr n s) a b) : a ≠ b → s ≤ F a b := by
  induction hp with
  | single g => exact fun _ => Nat.le_trans g.2.2 (h.1 _ _ g.1 g.2.1)
  | @tail b c p g ih =>
    intro hc
    by_cases e : a = b
    · subst e
      exact Nat.le_trans g.2.2 (h.1 _ _ g.1 g.2.1)
    · have h1 := h.2 a b c (mg_st_in p).1 g.1 g.2.1 hc
      have h2 := ih e
      have h3 := g.2.2
      omega
/-- off the diagonal both are the same -/
theorem mg_same {dr F E : Nat → Nat → Nat} {n a b : Nat} (hF : mg_cl dr F n n) (hFa : mg_ac dr F n) (hE : mg_fx dr E n) (hEa : ∀ a b, a < n → b < n → a ≠ b → 0 < E a b → Relation.TransGen (mg_st dr n (E a b)) a b) (ha : a < n) (hb : b < n) (hab : a ≠ b) : F a b = E a b := by
  apply Nat.le_antisymm
  · rcases Nat.eq_zero_or_pos (F a b) with h | h
    · omega
    · exact mg_fx_le hE (hFa a b ha hb h) hab
  · rcases Nat.eq_zero_or_pos (E a b) with h | h
    · omega
    · exact mg_cl_le hF (hEa a b ha hb hab h)
/-- the strongest way's strength -/
def mg_F (dr : Nat → Nat → Nat) (n : Nat) : Nat → Nat → Nat := mg_fws dr n
theorem mg_F_cl (dr : Nat → Nat → Nat) (n : Nat) : mg_cl dr (mg_F dr n) n n := (mg_fws_ok dr n (Nat.le_refl n)).1
theorem mg_F_ac (dr : Nat → Nat → Nat) (n : Nat) : mg_ac dr (mg_F dr n) n := (mg_fws_ok dr n (Nat.le_refl n)).2
theorem mg_F_gt {dr : Nat → Nat → Nat} {n s a b : Nat} (ha : a < n) (hb : b < n) : s < mg_F dr n a b ↔ Relation.TransGen (mg_st dr n (s + 1)) a b :=
  ⟨fun h => mg_st_le (mg_F_ac dr n a b ha hb (by omega)) h, fun h => mg_cl_le (mg_F_cl dr n) h⟩
theorem mg_F_le {dr : Nat → Nat → Nat} {n B : Nat} (h : ∀ a b, a < n → b < n → dr a b ≤ B) : ∀ a b, a < n → b < n → mg_F dr n a b ≤ B := by
  intro a b ha hb
  rcases Nat.eq_zero_or_pos (mg_F dr n a b) with h0 | h0
  · omega
  · have hp := mg_F_ac dr n a b ha hb h0
    cases hp with
    | single g => exact Nat.le_trans g.2.2 (h _ _ g.1 g.2.1)
    | tail _ g => exact Nat.le_trans g.2.2 (h _ _ g.1 g.2.1)
end MG
