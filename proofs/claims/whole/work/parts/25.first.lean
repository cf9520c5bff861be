/-! the first of those that do; the steps of the nearest way -/
section FT
/-- the first below N that does -/
def ft (q : Nat → Bool) (N : Nat) : Option Nat := (List.range N).find? q
theorem ft_eq {q : Nat → Bool} {N c : Nat} : ft q N = some c ↔ c < N ∧ q c = true ∧ ∀ j, j < c → q j = false := by
  induction N with
  | zero => simp [ft]
  | succ N ih =>
    unfold ft at ih ⊢
    rw [List.range_succ, List.find?_append]
    cases h : (List.range N).find? q with
    | some d =>
      have h1 : ∀ x, some d = some x ↔ x < N ∧ q x = true ∧ ∀ j, j < x → q j = false := fun x => by
        constructor
        · intro e
          cases e
          have := h
          have h2 := List.find?_range_eq_some.mp this
          exact ⟨by simpa using h2.2.1, h2.1, fun j hj => by simpa using h2.2.2 j hj⟩
        · intro e
          rw [← h]
          exact List.find?_range_eq_some.mpr ⟨e.2.1, by simpa using e.1, fun j hj => by simpa using e.2.2 j hj⟩
      show some d = some c ↔ _
      rw [h1 c]
      constructor
      · exact fun e => ⟨by omega, e.2⟩
      · intro e
        refine ⟨?_, e.2⟩
        obtain ⟨g1, g2, g3⟩ := (h1 d).mp rfl
        rcases Nat.lt_or_ge c N with g | g
        · exact g
        · have := e.2.2 d (by omega)
          rw [g2] at this
          cases this
    | none =>
      have h1 : ∀ j, j < N → q j = false := fun j hj => by
        have := List.find?_eq_none.mp h j (List.mem_range.mpr hj)
        simpa using this
      show (List.find? q [N]) = some c ↔ _
      cases hq : q N with
      | true =>
        simp only [List.find?, hq]
        constructor
        · intro e
          cases e
          exact ⟨by omega, hq, h1⟩
        · intro e
          rcases Nat.lt_or_ge c N with g | g
          · have := h1 c g
            rw [e.2.1] at this
            cases this
          · rw [show c = N by omega]
      | false =>
        simp only [List.find?, hq]
        constructor
        · intro e
          cases e
        · intro e
          rcases Nat.lt_or_ge c N with g | g
          · have := h1 c g
            rw [e.2.1] at this
            cases this
          · rw [show c = N by omega, hq] at e
            cases e.2.1
theorem ft_none {q : Nat → Bool} {N : Nat} : ft q N = none ↔ ∀ j, j < N → q j = false := by
  unfold ft
  rw [List.find?_eq_none]
  constructor
  · intro h j hj
    simpa using h j (List.mem_range.mpr hj)
  · intro h j hj
    simpa using h j (List.mem_range.mp hj)
theorem ft_to {q q' : Nat → Bool} {N : Nat} (h : ∀ j, j < N → q j = q' j) : ft q N = ft q' N := by
  cases e : ft q N with
  | none => exact (ft_none.mpr (fun j hj => by rw [← h j hj]; exact ft_none.mp e j hj)).symm
  | some d =>
    obtain ⟨g1, g2, g3⟩ := ft_eq.mp e
    exact (ft_eq.mpr ⟨g1, by rw [← h d g1]; exact g2, fun j hj => by rw [← h j (by omega)]; exact g3 j hj⟩).symm
/-- a number, or -1 -/
def oI : Option Nat → Int32
  | none => -1
  | some c => nI c
theorem oI_m1 {o : Option Nat} (h : ∀ c, o = some c → c < 2 ^ 31) : oI o = -1 ↔ o = none := by
  cases o with
  | none => exact ⟨fun _ => rfl, fun _ => rfl⟩
  | some c =>
    refine ⟨fun e => ?_, fun e => by cases e⟩
    have h1 := nI_toInt (h c rfl)
    have h2 : nI c = -1 := e
    rw [h2] at h1
    have h3 : (-1 : Int32).toInt = -1 := by decide
    omega
theorem ft_m1 {q : Nat → Bool} {N : Nat} (hN : N ≤ 2 ^ 31) : oI (ft q N) = -1 ↔ ft q N = none := oI_m1 (fun c e => by
  have := (ft_eq.mp e).1
  omega)
/-- how far, in the w-th round -/
def mn_up (r : Nat → Nat → Bool) (n b w : Nat) (S : Nat → Nat) (c : Nat) : Prop := (S c < w ∧ mn_nr r n b (S c) c = true ∧ ∀ k, k < S c → mn_nr r n b k c = false) ∨ (S c = n ∧ ∀ k, k < w → mn_nr r n b k c = false)
variable {r : Nat → Nat → Bool} {n b : Nat}
theorem mn_up_end {S : Nat → Nat} (hb : b < n) (h : ∀ c, c < n → mn_up r n b n S c) : mn_ds r n b n S := by
  intro c hc
  rcases h c hc with ⟨h1, h2, h3⟩ | ⟨h1, h2⟩
  · exact Or.inr ⟨h1, h2, h3⟩
  · refine Or.inl ⟨h1, fun k => ?_⟩
    cases e : mn_nr r n b k c with
    | false => rfl
    | true =>
      have := mn_all hb hc e
      rw [h2 _ (by omega)] at this
      cases this
theorem mn_up_0 {S : Nat → Nat} (h0 : S b = 0) (h1 : ∀ c, c < n → c ≠ b → S c = n) (c : Nat) (hc : c < n) : mn_up r n b 1 S c := by
  by_cases e : c = b
  · subst e
    exact Or.inl ⟨by omega, by rw [h0]; exact mn_nr_0.mpr rfl, fun k hk => by omega⟩
  · refine Or.inr ⟨h1 c hc e, fun k hk => ?_⟩
    rw [show k = 0 by omega]
    cases e2 : mn_nr r n b 0 c with
    | false => rfl
    | true => exact absurd (mn_nr_0.mp e2) e
theorem mn_up_far {S : Nat → Nat} {w c : Nat} (h : mn_up r n b w S c) (hc : S c ≠ n) : mn_up r n b (w + 1) S c := by
  rcases h with ⟨h1, h2⟩ | ⟨h1, -⟩
  · exact Or.inl ⟨by omega, h2⟩
  · exact absurd h1 hc
/-- one that has none at w - 1 to go to -/
theorem mn_up_no {S : Nat → Nat} {w c : Nat} (hw : 1 ≤ w) (hwn : w < n) (h : mn_up r n b w S c) (hc : S c = n) (ho : ∀ y, y < n → mn_up r n b w S y ∨ mn_up r n b (w + 1) S y) (hn : ∀ y, y < n → r c y = true → S y ≠ w - 1) : mn_up r n b (w + 1) S c := by
  rcases h with ⟨h1, -⟩ | ⟨h1, h2⟩
  · omega
  · refine Or.inr ⟨h1, fun k hk => ?_⟩
    rcases Nat.lt_or_ge k w with g | g
    · exact h2 k g
    · have e : k = w - 1 + 1 := by omega
      subst e
      cases e2 : mn_nr r n b (w - 1 + 1) c with
      | false => rfl
      | true =>
        exfalso
        rcases mn_nr_s.mp e2 with g1 | ⟨y, hy, g1, g2⟩
        · rw [h2 _ (by omega)] at g1
          cases g1
        · have g3 := hn y hy g1
          have g4 : S y < w - 1 ∧ mn_nr r n b (S y) y = true := by
            rcases ho y hy with (⟨q1, q2, q3⟩ | ⟨q1, q2⟩) | (⟨q1, q2, q3⟩ | ⟨q1, q2⟩)
            · exact ⟨by omega, q2⟩
            · rw [q2 _ (by omega)] at g2
              cases g2
            · refine ⟨?_, q2⟩
              rcases Nat.lt_or_ge (w - 1) (S y) with q4 | q4
              · rw [q3 _ q4] at g2
                cases g2
              · omega
            · rw [q2 _ (by omega)] at g2
              cases g2
          have g5 : mn_nr r n b (S y + 1) c = true := mn_nr_s.mpr (Or.inr ⟨y, hy, g1, g4.2⟩)
          rw [h2 _ (by omega)] at g5
          cases g5
theorem mn_up_yes {S : Nat → Nat} {w c y : Nat} (hw : 1 ≤ w) (hwn : w < n) (h : mn_up r n b w S c) (hc : S c = n) (hy : y < n) (ho : mn_up r n b w S y ∨ mn_up r n b (w + 1) S y) (hr : r c y = true) (hs : S y = w - 1) : mn_up r n b (w + 1) (va_up S c w) c := by
  rcases h with ⟨h1, -⟩ | ⟨h1, h2⟩
  · omega
  · have g : mn_nr r n b (w - 1) y = true := by
      rcases ho with (⟨q1, q2, q3⟩ | ⟨q1, q2⟩) | (⟨q1, q2, q3⟩ | ⟨q1, q2⟩)
      · rw [← hs]; exact q2
      · omega
      · rw [← hs]; exact q2
      · omega
    refine Or.inl ?_
    rw [va_up_self]
    refine ⟨by omega, ?_, h2⟩
    have := mn_nr_s (r := r) (n := n) (b := b) (k := w - 1) (c := c) |>.mpr (Or.inr ⟨y, hy, hr, g⟩)
    rwa [show w - 1 + 1 = w by omega] at this
theorem mn_up_ne {S : Nat → Nat} {w c d x : Nat} (h : mn_up r n b w S c) (hd : c ≠ d) : mn_up r n b w (va_up S d x) c := by
  unfold mn_up
  rw [va_up_ne _ _ hd]
  exact h
/-- where the way goes next -/
def wy_nx (r : Nat → Nat → Bool) (n : Nat) (S : Nat → Nat) (at_ : Nat) : Nat := (ft (fun c => decide (S c + 1 = S at_) && r at_ c) n).getD at_
theorem wy_nx_ok {S : Nat → Nat} {top c : Nat} (h : mn_ds r n b top S) (ht : n ≤ top) (hc : c < n) (hf : S c < n) (hne : c ≠ b) : ft (fun y => decide (S y + 1 = S c) && r c y) n = some (wy_nx r n S c) ∧ wy_nx r n S c < n ∧ r c (wy_nx r n S c) = true ∧ S (wy_nx r n S c) + 1 = S c := by
  obtain ⟨y, hy, h1, h2⟩ := mn_step h ht hc hf hne
  unfold wy_nx
  cases e : ft (fun y => decide (S y + 1 = S c) && r c y) n with
  | none =>
    have := ft_none.mp e y hy
    rw [h1, decide_eq_true h2] at this
    cases this
  | some d =>
    obtain ⟨g1, g2, -⟩ := ft_eq.mp e
    rw [Bool.and_eq_true] at g2
    exact ⟨rfl, g1, g2.2, of_decide_eq_true g2.1⟩
/-- the way's word: d steps are left, the i-th comes -/
def wy_w (nx : Nat → Nat) : Nat → Nat → Nat → Int32 → Int32
  | 0, _, _, w => w
  | d + 1, i, a, w => wy_w nx d (i + 1) (nx a) (w ||| (nI (nx a + 1) <<< (nI (4 * i) &&& 31)))
theorem mn_ds_b {S : Nat → Nat} {top : Nat} (h : mn_ds r n b top S) (hb : b < n) : S b = 0 := mn_ds_eq h hb (mn_nr_0.mpr rfl) (fun j hj => by omega)
theorem mn_ds_0 {S : Nat → Nat} {top c : Nat} (h : mn_ds r n b top S) (ht : n ≤ top) (hc : c < n) (h0 : S c = 0) : c = b := by
  rcases h c hc with ⟨h1, -⟩ | ⟨h1, h2, -⟩
  · omega
  · rw [h0] at h2
    exact mn_nr_0.mp h2
/-- the same word, however far is told -/
theorem wy_same {S S' : Nat → Nat} {top top' : Nat} (h : mn_ds r n b top S) (h' : mn_ds r n b top' S') (ht : n ≤ top) (ht' : n ≤ top') : ∀ d i a w, a < n → S a = d → d < n → wy_w (wy_nx r n S) d i a w = wy_w (wy_nx r n S') d i a w := by
  intro d
  induction d with
  | zero => intros; rfl
  | succ d ih =>
    intro i a w ha hS hd
    have hab : a ≠ b := by
      intro e
      subst e
      rw [mn_ds_b h ha] at hS
      cases hS
    have hsm : ∀ c, c < n → S c < n → S' c = S c := fun c hc h1 => by
      rcases mn_ds_same h h' hc with e | ⟨e, -⟩ <;> omega
    have hsm' : ∀ c, c < n → S' c < n → S' c = S c := fun c hc h1 => by
      rcases mn_ds_same h h' hc with e | ⟨-, e⟩ <;> omega
    have e : wy_nx r n S a = wy_nx r n S' a := by
      unfold wy_nx
      rw [ft_to (q' := fun c => decide (S' c + 1 = S' a) && r a c) (fun c hc => ?_)]
      have h1 := hsm a ha (by omega)
      have : (S c + 1 = S a) ↔ (S' c + 1 = S' a) := by
        constructor
        · intro g
          have := hsm c hc (by omega)
          omega
        · intro g
          have := hsm' c hc (by omega)
          omega
      show (decide (S c + 1 = S a) && r a c) = (decide (S' c + 1 = S' a) && r a c)
      rw [decide_eq_decide.mpr this]
    obtain ⟨-, g1, g2, g3⟩ := wy_nx_ok h ht ha (by omega) hab
    unfold wy_w
    rw [← e]
    exact ih _ _ _ g1 (by omega) (by omega)
/-- a way is there: the steps are fewer than n -/
theorem mn_ds_lt {S : Nat → Nat} {top c k : Nat} (h : mn_ds r n b top S) (hc : c < n) (hk : mn_nr r n b k c = true) : S c < n := by
  rcases h c hc with ⟨-, h2⟩ | ⟨h1, -⟩
  · rw [h2 k] at hk
    cases hk
  · exact h1
theorem mn_of_tg {dr : Nat → Nat → Nat} {s a c : Nat} (hp : Relation.TransGen (mg_st dr n s) a c) : ∀ k, mn_nr (fun x y => decide (s ≤ dr x y)) n b k c = true → ∃ k, mn_nr (fun x y => decide (s ≤ dr x y)) n b k a = true := by
  induction hp with
  | single g => exact fun k hk => ⟨k + 1, mn_nr_s.mpr (Or.inr ⟨_, g.2.1, decide_eq_true g.2.2, hk⟩)⟩
  | tail _ g ih => exact fun k hk => ih (k + 1) (mn_nr_s.mpr (Or.inr ⟨_, g.2.1, decide_eq_true g.2.2, hk⟩))
end FT
