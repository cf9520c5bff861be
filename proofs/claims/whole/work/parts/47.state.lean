/-! the office's numbers: sums over batches and ballots; the drawn order after a move -/
section SM
def sm (f : Nat → Nat) : Nat → Nat
  | 0 => 0
  | n + 1 => sm f n + f n
theorem sm_to {f g : Nat → Nat} : ∀ n, (∀ i, i < n → f i = g i) → sm f n = sm g n
  | 0, _ => rfl
  | n + 1, h => by rw [sm, sm, sm_to n (fun i hi => h i (by omega)), h n (by omega)]
theorem sm_up {f g : Nat → Nat} {j : Nat} : ∀ n, j < n → (∀ i, i < n → i ≠ j → f i = g i) → sm f n + g j = sm g n + f j
  | 0, hj, _ => absurd hj (Nat.not_lt_zero _)
  | n + 1, hj, h => by
    unfold sm
    by_cases e : j = n
    · subst e
      rw [sm_to j (fun i hi => h i (by omega) (by omega))]
      omega
    · have ih := sm_up n (by omega) (fun i hi => h i (by omega))
      rw [h n (by omega) (Ne.symm e)]
      omega
theorem sm_le {f : Nat → Nat} {B : Nat} : ∀ n, (∀ i, i < n → f i ≤ B) → sm f n ≤ n * B
  | 0, _ => by rw [sm]; omega
  | n + 1, h => by
    have := sm_le n (fun i hi => h i (by omega))
    have := h n (by omega)
    rw [sm, Nat.add_mul]
    omega
/-- what a batch has of a before b -/
def bsum (s : Nat) (rk : Nat → Int32) (tm : Nat → Nat) (a b : Nat) : Nat := sm (fun i => if bef (rk i) a b = true then tm i else 0) s
def psum (sg sz : Nat → Nat) (rk : Nat → Nat → Int32) (tm : Nat → Nat → Nat) (but a b : Nat) : Nat := sm (fun j => if sg j = 1 ∧ j ≠ but then bsum (sz j) (rk j) (tm j) a b else 0) 12
def vsum (sg sz : Nat → Nat) (tm : Nat → Nat → Nat) : Nat := sm (fun j => if sg j = 1 then sm (tm j) (sz j) else 0) 12
theorem bsum_le {s : Nat} {rk : Nat → Int32} {tm : Nat → Nat} {a b : Nat} (hs : s ≤ 6) (h : ∀ i, i < s → tm i ≤ 10000) : bsum s rk tm a b ≤ 60000 := by
  have := sm_le (f := fun i => if bef (rk i) a b = true then tm i else 0) (B := 10000) s (fun i hi => by
    have := h i hi
    split <;> omega)
  unfold bsum
  omega
theorem psum_le {sg sz : Nat → Nat} {rk : Nat → Nat → Int32} {tm : Nat → Nat → Nat} {but a b : Nat} (h : ∀ j, j < 12 → sz j ≤ 6 ∧ ∀ i, i < sz j → tm j i ≤ 10000) : psum sg sz rk tm but a b ≤ 720000 := by
  have := sm_le (f := fun j => if sg j = 1 ∧ j ≠ but then bsum (sz j) (rk j) (tm j) a b else 0) (B := 60000) 12 (fun j hj => by
    have := bsum_le (rk := rk j) (a := a) (b := b) (h j hj).1 (h j hj).2
    split <;> omega)
  unfold psum
  omega
theorem co_sum_p {rk : Nat → Int32} {tm : Nat → Nat} {P : Nat → Nat → Int32} {a b : Nat} : ∀ s, co_sum rk (fun i => nI (tm i)) P s a b = P a b + nI (bsum s rk tm a b)
  | 0 => by
    show P a b = P a b + nI 0
    rw [nI_0, Int32.add_zero]
  | s + 1 => by
    show co_sum rk (fun i => nI (tm i)) P s a b + (if bef (rk s) a b = true then nI (tm s) else 0) = P a b + nI (bsum s rk tm a b + (if bef (rk s) a b = true then tm s else 0))
    rw [co_sum_p s, ← nI_add, Int32.add_assoc]
    split
    · rfl
    · rw [nI_0]
theorem co_sum_m {rk : Nat → Int32} {tm : Nat → Nat} {P : Nat → Nat → Int32} {a b : Nat} : ∀ s, co_sum rk (fun i => - nI (tm i)) P s a b = P a b - nI (bsum s rk tm a b)
  | 0 => by
    show P a b = P a b - nI 0
    rw [nI_0, Int32.sub_zero]
  | s + 1 => by
    show co_sum rk (fun i => - nI (tm i)) P s a b + (if bef (rk s) a b = true then - nI (tm s) else 0) = P a b - nI (bsum s rk tm a b + (if bef (rk s) a b = true then tm s else 0))
    rw [co_sum_m s, ← nI_add, Int32.sub_eq_add_neg, Int32.sub_eq_add_neg, Int32.neg_add, Int32.add_assoc, Int32.sub_eq_add_neg]
    split
    · rfl
    · rw [nI_0]
      rfl
theorem co_vs_p {tm : Nat → Nat} {vs : Int32} : ∀ s, co_vs (fun i => nI (tm i)) vs s = vs + nI (sm tm s)
  | 0 => by
    show vs = vs + nI 0
    rw [nI_0, Int32.add_zero]
  | s + 1 => by
    show co_vs (fun i => nI (tm i)) vs s + nI (tm s) = vs + nI (sm tm s + tm s)
    rw [co_vs_p s, ← nI_add, Int32.add_assoc]
theorem co_vs_m {tm : Nat → Nat} {vs : Int32} : ∀ s, co_vs (fun i => - nI (tm i)) vs s = vs - nI (sm tm s)
  | 0 => by
    show vs = vs - nI 0
    rw [nI_0, Int32.sub_zero]
  | s + 1 => by
    show co_vs (fun i => - nI (tm i)) vs s + - nI (tm s) = vs - nI (sm tm s + tm s)
    rw [co_vs_m s, ← nI_add, Int32.sub_eq_add_neg, Int32.sub_eq_add_neg, Int32.neg_add, Int32.add_assoc, Int32.sub_eq_add_neg]
/-- a number up in one place, out of another -/
theorem nI_pl {x y d : Nat} (h : x + d = y) : nI x + nI d = nI y := by rw [nI_add, h]
theorem nI_mi {x y d : Nat} (h : y + d = x) : nI x - nI d = nI y := by rw [← h, ← nI_add, Int32.add_sub_cancel]
/-! the drawn order -/
def mv1 (dw : Nat → Nat) (fr i x : Nat) : Nat := if fr ≤ x ∧ x < i then dw (x + 1) else dw x
def mv2 (dw : Nat → Nat) (fr pl i x : Nat) : Nat := if i < x ∧ x ≤ fr then dw (x - 1) else mv1 dw fr pl x
def tdw (dw : Nat → Nat) (fr pl x : Nat) : Nat := if x = pl then dw fr else if fr ≤ x ∧ x < pl then dw (x + 1) else if pl < x ∧ x ≤ fr then dw (x - 1) else dw x
def tsg (fr pl x : Nat) : Nat := if x = pl then fr else if fr ≤ x ∧ x < pl then x + 1 else if pl < x ∧ x ≤ fr then x - 1 else x
def tsi (fr pl x : Nat) : Nat := if x = fr then pl else if fr < x ∧ x ≤ pl then x - 1 else if pl ≤ x ∧ x < fr then x + 1 else x
theorem tdw_sg {dw : Nat → Nat} {fr pl x : Nat} : tdw dw fr pl x = dw (tsg fr pl x) := by
  unfold tdw tsg
  split
  · rfl
  · split
    · rfl
    · split <;> rfl
theorem tsg_si {fr pl x : Nat} : tsg fr pl (tsi fr pl x) = x := by
  unfold tsi
  split
  · unfold tsg; rw [if_pos rfl]; omega
  · split
    · unfold tsg; rw [if_neg (by omega), if_pos (by omega)]; omega
    · split
      · unfold tsg; rw [if_neg (by omega), if_neg (by omega), if_pos (by omega)]; omega
      · unfold tsg; rw [if_neg (by omega), if_neg (by omega), if_neg (by omega)]
theorem tsi_sg {fr pl x : Nat} : tsi fr pl (tsg fr pl x) = x := by
  unfold tsg
  split
  · unfold tsi; rw [if_pos rfl]; omega
  · split
    · unfold tsi; rw [if_neg (by omega), if_pos (by omega)]; omega
    · split
      · unfold tsi; rw [if_neg (by omega), if_neg (by omega), if_pos (by omega)]; omega
      · unfold tsi; rw [if_neg (by omega), if_neg (by omega), if_neg (by omega)]
theorem tsg_lt {fr pl x N : Nat} (hf : fr < N) (hp : pl < N) (hx : x < N) : tsg fr pl x < N := by
  unfold tsg
  split
  · exact hf
  · split
    · omega
    · split <;> omega
theorem tsi_lt {fr pl x N : Nat} (hf : fr < N) (hp : pl < N) (hx : x < N) : tsi fr pl x < N := by
  unfold tsi
  split
  · exact hp
  · split
    · omega
    · split <;> omega
theorem tdw_pm {N fr pl : Nat} {dw ps : Nat → Nat} (h : pm_ok N dw ps) (hf : fr < N) (hp : pl < N) : pm_ok N (tdw dw fr pl) (fun a => tsi fr pl (ps a)) := by
  refine ⟨fun i hi => ?_, fun a ha => ?_⟩
  · rw [tdw_sg]
    have h1 := h.1 _ (tsg_lt hf hp hi)
    exact ⟨h1.1, by dsimp only; rw [h1.2, tsi_sg]⟩
  · have h1 := h.2 a ha
    exact ⟨tsi_lt hf hp h1.1, by rw [tdw_sg, tsg_si]; exact h1.2⟩
theorem mv1_s {dw : Nat → Nat} {fr i x : Nat} (h : fr ≤ i) : va_up (mv1 dw fr i) i (dw (i + 1)) x = mv1 dw fr (i + 1) x := by
  by_cases e : x = i
  · subst e
    rw [va_up_self]
    unfold mv1
    rw [if_pos (by omega)]
  · rw [va_up_ne _ _ e]
    unfold mv1
    by_cases e2 : fr ≤ x ∧ x < i
    · rw [if_pos e2, if_pos (by omega)]
    · rw [if_neg e2, if_neg (by omega)]
theorem mv1_r {dw : Nat → Nat} {fr i : Nat} : mv1 dw fr i (i + 1) = dw (i + 1) := if_neg (by omega)
theorem mv1_e {dw : Nat → Nat} {fr i pl x : Nat} (h : i = pl ∨ (i = fr ∧ pl ≤ fr)) : mv1 dw fr i x = mv2 dw fr pl fr x := by
  unfold mv2
  rw [if_neg (by omega)]
  unfold mv1
  by_cases e2 : fr ≤ x ∧ x < i
  · rw [if_pos e2, if_pos (by omega)]
  · rw [if_neg e2, if_neg (by omega)]
theorem mv2_r {dw : Nat → Nat} {fr pl i : Nat} (h : i ≤ fr) (h0 : 0 < i) : mv2 dw fr pl i (i - 1) = dw (i - 1) := by
  unfold mv2
  rw [if_neg (by omega)]
  exact if_neg (by omega)
theorem mv2_s {dw : Nat → Nat} {fr pl i x : Nat} (h : i ≤ fr) (h0 : 0 < i) : va_up (mv2 dw fr pl i) i (dw (i - 1)) x = mv2 dw fr pl (i - 1) x := by
  by_cases e : x = i
  · subst e
    rw [va_up_self]
    unfold mv2
    rw [if_pos (by omega)]
  · rw [va_up_ne _ _ e]
    unfold mv2
    by_cases e2 : i < x ∧ x ≤ fr
    · rw [if_pos e2, if_pos (by omega)]
    · rw [if_neg e2, if_neg (by omega)]
theorem mv2_e {dw : Nat → Nat} {fr pl i x : Nat} (h : i = pl ∨ (i = fr ∧ fr ≤ pl)) : va_up (mv2 dw fr pl i) pl (dw fr) x = tdw dw fr pl x := by
  unfold tdw
  by_cases e : x = pl
  · subst e
    rw [va_up_self, if_pos rfl]
  · rw [va_up_ne _ _ e, if_neg e]
    unfold mv2 mv1
    by_cases e2 : fr ≤ x ∧ x < pl
    · rw [if_neg (by omega), if_pos e2, if_pos e2]
    · rw [if_neg e2, if_neg e2]
      by_cases e3 : pl < x ∧ x ≤ fr
      · rw [if_pos (by omega), if_pos e3]
      · rw [if_neg (by omega), if_neg e3]
/-- where a candidate stands -/
def plc (dw : Nat → Nat) (N a : Nat) : Nat := (ft (fun i => decide (dw i = a)) N).getD 0
theorem plc_eq {N : Nat} {dw ps : Nat → Nat} (h : pm_ok N dw ps) {a : Nat} (ha : a < N) : plc dw N a = ps a := by
  have h1 := h.2 a ha
  unfold plc
  rw [ft_eq (q := fun i => decide (dw i = a)) |>.mpr ⟨h1.1, decide_eq_true h1.2, fun j hj => decide_eq_false (fun e => by
    have := (h.1 j (by omega)).2
    rw [e] at this
    omega)⟩]
  rfl
end SM
