/-! who is reached by steps above s: round by round, as the reference does -/
section RE
def cr (dz : Nat → Nat → Nat) (s : Nat) (c y : Nat) : Bool := decide (s < dz y c)
def cu_ok (dz : Nat → Nat → Nat) (s a t k : Nat) (x : Int32) : Prop := (∀ c, c < 8 → mn_nr (cr dz s) 8 a t c = true → bt x c = true) ∧ (∀ c, c < 32 → bt x c = true → c < 8 ∧ ∃ n, mn_nr (cr dz s) 8 a n c = true) ∧ ∀ j, j < k → mn_nr (cr dz s) 8 a t (j / 8) = true → s < dz (j / 8) (j % 8) → bt x (j % 8) = true
variable {dz : Nat → Nat → Nat} {s a t k : Nat} {x : Int32}
theorem cu_0 (ha : a < 8) : cu_ok dz s a 0 0 ((nI 1) <<< ((nI a) &&& 31)) := by
  refine ⟨fun c hc h => ?_, fun c hc h => ?_, fun j hj => absurd hj (Nat.not_lt_zero _)⟩
  · rw [bt_one' (by omega) (by omega), mn_nr_0.mp h]
    exact decide_eq_true rfl
  · rw [bt_one' (by omega) hc] at h
    have := of_decide_eq_true h
    exact ⟨by omega, 0, mn_nr_0.mpr this⟩
theorem cu_y (h : cu_ok dz s a t k x) (hk : k < 64) (h1 : bt x (k / 8) = true) (h2 : s < dz (k / 8) (k % 8)) : cu_ok dz s a t (k + 1) (x ||| ((nI 1) <<< ((nI (k % 8)) &&& 31))) := by
  obtain ⟨g1, g2, g3⟩ := h
  refine ⟨fun c hc h => ?_, fun c hc h => ?_, fun j hj q1 q2 => ?_⟩
  · rw [b_or, g1 c hc h]
    rfl
  · rw [b_or, bt_one' (by omega) hc, Bool.or_eq_true] at h
    rcases h with h | h
    · exact g2 c hc h
    · have e := of_decide_eq_true h
      subst e
      obtain ⟨-, n, hn⟩ := g2 _ (by omega) h1
      exact ⟨by omega, n + 1, mn_nr_s.mpr (Or.inr ⟨k / 8, by omega, decide_eq_true h2, hn⟩)⟩
  · rw [b_or]
    by_cases e : j = k
    · rw [e, bt_one' (by omega) (by omega), decide_eq_true rfl, Bool.or_true]
    · rw [g3 j (by omega) q1 q2]
      rfl
theorem cu_n (h : cu_ok dz s a t k x) (hk : k < 64) (h1 : ¬ (bt x (k / 8) = true ∧ s < dz (k / 8) (k % 8))) : cu_ok dz s a t (k + 1) x := by
  obtain ⟨g1, g2, g3⟩ := h
  refine ⟨g1, g2, fun j hj q1 q2 => ?_⟩
  by_cases e : j = k
  · subst e
    exact absurd ⟨g1 _ (by omega) q1, q2⟩ h1
  · exact g3 j (by omega) q1 q2
theorem cu_r (h : cu_ok dz s a t 64 x) : cu_ok dz s a (t + 1) 0 x := by
  obtain ⟨g1, g2, g3⟩ := h
  refine ⟨fun c hc h => ?_, g2, fun j hj => absurd hj (Nat.not_lt_zero _)⟩
  rcases mn_nr_s.mp h with q | ⟨y, hy, q1, q2⟩
  · exact g1 c hc q
  · have := g3 (8 * y + c) (by omega)
    rw [show (8 * y + c) / 8 = y by omega, show (8 * y + c) % 8 = c by omega] at this
    exact this q2 (of_decide_eq_true q1)
theorem cr_of {n c : Nat} (h : mn_nr (cr dz s) 8 a n c = true) (hc : c < 8) (ha : a < 8) : c = a ∨ Relation.TransGen (mg_st dz 8 (s + 1)) a c := by
  induction n generalizing c with
  | zero => exact Or.inl (mn_nr_0.mp h)
  | succ n ih =>
    rcases mn_nr_s.mp h with q | ⟨y, hy, q1, q2⟩
    · exact ih q hc
    · have st : mg_st dz 8 (s + 1) y c := ⟨hy, hc, of_decide_eq_true q1⟩
      rcases ih q2 hy with e | e
      · subst e
        exact Or.inr (.single st)
      · exact Or.inr (.tail e st)
theorem cr_to {c : Nat} (h : Relation.TransGen (mg_st dz 8 (s + 1)) a c) : ∃ n, mn_nr (cr dz s) 8 a n c = true := by
  induction h with
  | single g => exact ⟨1, mn_nr_s.mpr (Or.inr ⟨a, g.1, decide_eq_true g.2.2, mn_nr_0.mpr rfl⟩)⟩
  | tail _ g ih =>
    obtain ⟨n, hn⟩ := ih
    exact ⟨n + 1, mn_nr_s.mpr (Or.inr ⟨_, g.1, decide_eq_true g.2.2, hn⟩)⟩
/-- the end: the class's set -/
theorem cu_e {p : Nat → Nat → Nat} {N : Nat} (hN : N ≤ 8) (ha : a < N) (h : cu_ok (drn (pz N p)) s a 8 0 x) : x = bmo ((nI 1) <<< ((nI a) &&& 31)) (fun i => decide (s < mg_F (drn p) N a i)) N := by
  obtain ⟨g1, g2, -⟩ := h
  refine b_ext (fun c hc => ?_)
  rw [bmo_bt _ _ hc N (by omega), bt_one' (by omega) hc]
  have key : bt x c = true ↔ (c = a ∨ (c < N ∧ s < mg_F (drn p) N a c)) := by
    constructor
    · intro h
      obtain ⟨h8, n, hn⟩ := g2 c hc h
      rcases cr_of hn h8 (by omega) with e | e
      · exact Or.inl e
      · have e2 := tg_to (fun x y h => (mg_st_pz hN).mp h) e
        have hcN := (mg_st_in e2).2
        exact Or.inr ⟨hcN, (mg_F_gt ha hcN).mpr e2⟩
    · rintro (e | ⟨e1, e2⟩)
      · subst e
        exact g1 c (by omega) (mn_nr_le (Nat.zero_le _) (mn_nr_0.mpr rfl))
      · obtain ⟨n, hn⟩ := cr_to (tg_to (fun x y h => (mg_st_pz (p := p) hN).mpr h) ((mg_F_gt ha e1).mp e2))
        exact g1 c (by omega) (mn_nr_le (by decide : 7 ≤ 8) (mn_all (by omega) (by omega) hn))
  cases hx : bt x c with
  | true =>
    rcases key.mp hx with e | ⟨e1, e2⟩
    · rw [decide_eq_true e]; rfl
    · rw [decide_eq_true e1, decide_eq_true e2]; simp
  | false =>
    have hk : ¬ (c = a ∨ (c < N ∧ s < mg_F (drn p) N a c)) := fun q => by rw [key.mpr q] at hx; cases hx
    rw [decide_eq_false (fun e => hk (Or.inl e))]
    by_cases e1 : c < N
    · rw [decide_eq_false (show ¬ s < mg_F (drn p) N a c from fun e => hk (Or.inr ⟨e1, e⟩))]; simp
    · rw [decide_eq_false e1]; simp
theorem or_0 (x : Int32) : x ||| nI 0 = x := b_ext (fun i _ => by rw [b_or, show bt (nI 0) i = false from b_0 i, Bool.or_false])
/-! how far, round by round -/
def fa_ok (r : Nat → Nat → Bool) (b t k : Nat) (f : Nat → Nat) : Prop := (∀ c, c < 8 → ∀ n, n ≤ t → mn_nr r 8 b n c = true → f c ≤ n) ∧ (∀ c, c < 8 → f c = 9 ∨ (f c ≤ 8 ∧ mn_nr r 8 b (f c) c = true)) ∧ ∀ j, j < k → r (j / 8) (j % 8) = true → ∀ n, n ≤ t → mn_nr r 8 b n (j % 8) = true → f (j / 8) ≤ n + 1
variable {r : Nat → Nat → Bool} {b : Nat} {f : Nat → Nat}
theorem fa_0 (h0 : f b = 0) (h1 : ∀ c, c < 8 → c ≠ b → f c = 9) : fa_ok r b 0 0 f := by
  refine ⟨fun c hc n hn h => ?_, fun c hc => ?_, fun j hj => absurd hj (Nat.not_lt_zero _)⟩
  · rw [show n = 0 by omega] at h
    rw [mn_nr_0.mp h]
    omega
  · by_cases e : c = b
    · subst e
      exact Or.inr ⟨by omega, by rw [h0]; exact mn_nr_0.mpr rfl⟩
    · exact Or.inl (h1 c hc e)
theorem fa_y (h : fa_ok r b t k f) (hk : k < 64) (h1 : r (k / 8) (k % 8) = true) (h2 : f (k % 8) + 1 < f (k / 8)) : fa_ok r b t (k + 1) (va_up f (k / 8) (f (k % 8) + 1)) := by
  obtain ⟨g1, g2, g3⟩ := h
  have hle : ∀ c, va_up f (k / 8) (f (k % 8) + 1) c ≤ f c := fun c => by
    by_cases e : c = k / 8
    · rw [e, va_up_self]; omega
    · rw [va_up_ne _ _ e]; exact Nat.le_refl _
  refine ⟨fun c hc n hn h => Nat.le_trans (hle c) (g1 c hc n hn h), fun c hc => ?_, fun j hj q1 n hn q2 => ?_⟩
  · by_cases e : c = k / 8
    · subst e
      rw [va_up_self]
      have h8 := g2 (k / 8) (by omega)
      rcases g2 (k % 8) (by omega) with q | ⟨q1, q2⟩
      · omega
      · exact Or.inr ⟨by omega, mn_nr_s.mpr (Or.inr ⟨k % 8, by omega, h1, q2⟩)⟩
    · rw [va_up_ne _ _ e]; exact g2 c hc
  · by_cases e : j = k
    · subst e
      rw [va_up_self]
      have := g1 (j % 8) (by omega) n hn q2
      omega
    · exact Nat.le_trans (hle _) (g3 j (by omega) q1 n hn q2)
theorem fa_n (h : fa_ok r b t k f) (hk : k < 64) (h1 : ¬ (r (k / 8) (k % 8) = true ∧ f (k % 8) + 1 < f (k / 8))) : fa_ok r b t (k + 1) f := by
  obtain ⟨g1, g2, g3⟩ := h
  refine ⟨g1, g2, fun j hj q1 n hn q2 => ?_⟩
  by_cases e : j = k
  · subst e
    have := g1 (j % 8) (by omega) n hn q2
    have : ¬ f (j % 8) + 1 < f (j / 8) := fun q => h1 ⟨q1, q⟩
    omega
  · exact g3 j (by omega) q1 n hn q2
theorem fa_r (h : fa_ok r b t 64 f) : fa_ok r b (t + 1) 0 f := by
  obtain ⟨g1, g2, g3⟩ := h
  refine ⟨fun c hc n hn h => ?_, g2, fun j hj => absurd hj (Nat.not_lt_zero _)⟩
  rcases Nat.lt_or_ge t n with q | q
  · rw [show n = t + 1 by omega] at h
    rcases mn_nr_s.mp h with q1 | ⟨y, hy, q1, q2⟩
    · have := g1 c hc t (Nat.le_refl _) q1
      omega
    · have := g3 (8 * c + y) (by omega)
      rw [show (8 * c + y) / 8 = c by omega, show (8 * c + y) % 8 = y by omega] at this
      have := this q1 t (Nat.le_refl _) q2
      omega
  · exact g1 c hc n q h
theorem fa_e (hb : b < 8) (h : fa_ok r b 8 0 f) : mn_ds r 8 b 9 f := by
  obtain ⟨g1, g2, -⟩ := h
  intro c hc
  rcases g2 c hc with q | ⟨q1, q2⟩
  · refine Or.inl ⟨q, fun k => ?_⟩
    cases e : mn_nr r 8 b k c with
    | false => rfl
    | true =>
      have := g1 c hc 7 (by decide) (mn_all hb hc e)
      omega
  · have h7 := g1 c hc 7 (by decide) (mn_all hb hc q2)
    refine Or.inr ⟨by omega, q2, fun k hk => ?_⟩
    cases e : mn_nr r 8 b k c with
    | false => rfl
    | true =>
      have := g1 c hc k (by omega) e
      omega
/-- the same graph on fewer: no step leaves the candidates -/
theorem nr_pz {p : Nat → Nat → Nat} {N c : Nat} (hN : N ≤ 8) (hs : 0 < s) (hb : b < N) : ∀ k, c < N → mn_nr (stp (pz N p) s) 8 b k c = mn_nr (stp p s) N b k c := by
  intro k
  induction k generalizing c with
  | zero => intro _; rfl
  | succ k ih =>
    intro hc
    rw [Bool.eq_iff_iff, mn_nr_s, mn_nr_s, ih hc]
    constructor
    · rintro (h | ⟨y, hy, h1, h2⟩)
      · exact Or.inl h
      · have h3 := of_decide_eq_true h1
        rw [drn_pz] at h3
        by_cases e : c < N ∧ y < N
        · rw [if_pos e] at h3
          exact Or.inr ⟨y, e.2, decide_eq_true h3, by rw [← ih e.2]; exact h2⟩
        · rw [if_neg e] at h3
          omega
    · rintro (h | ⟨y, hy, h1, h2⟩)
      · exact Or.inl h
      · exact Or.inr ⟨y, by omega, decide_eq_true (by rw [drn_pz_in hc hy]; exact of_decide_eq_true h1), by rw [ih hy]; exact h2⟩
def fa_S (N : Nat) (f : Nat → Nat) (c : Nat) : Nat := if f c = 9 then N else f c
theorem fa_ds {p : Nat → Nat → Nat} {N : Nat} (hN : N ≤ 8) (hs : 0 < s) (hb : b < N) (h : mn_ds (stp (pz N p) s) 8 b 9 f) : mn_ds (stp p s) N b N (fa_S N f) := by
  intro c hc
  rcases h c (by omega) with ⟨q1, q2⟩ | ⟨q1, q2, q3⟩
  · exact Or.inl ⟨if_pos q1, fun k => by rw [← nr_pz hN hs hb k hc]; exact q2 k⟩
  · have e : fa_S N f c = f c := if_neg (by omega)
    have hn : mn_nr (stp p s) N b (f c) c = true := by rw [← nr_pz hN hs hb _ hc]; exact q2
    have h7 := mn_all hb hc hn
    refine Or.inr ?_
    rw [e]
    refine ⟨?_, hn, fun k hk => by rw [← nr_pz hN hs hb k hc]; exact q3 k hk⟩
    rcases Nat.lt_or_ge (f c) N with r | r
    · exact r
    · have := q3 (N - 1) (by omega)
      rw [nr_pz hN hs hb _ hc, h7] at this
      cases this
theorem fa_nx {p : Nat → Nat → Nat} {N c : Nat} (hN : N ≤ 8) (hs : 0 < s) (hb : b < N) (hc : c < N) (hf : f c < 9) (h : mn_ds (stp (pz N p) s) 8 b 9 f) : wy_nx (stp (pz N p) s) 8 f c = wy_nx (stp p s) N (fa_S N f) c := by
  unfold wy_nx
  have e0 : fa_S N f c = f c := if_neg (by omega)
  have e : ft (fun y => decide (f y + 1 = f c) && stp (pz N p) s c y) 8 = ft (fun y => decide (fa_S N f y + 1 = fa_S N f c) && stp p s c y) N := by
    have out : ∀ y, N ≤ y → (decide (f y + 1 = f c) && stp (pz N p) s c y) = false := fun y hy => by
      rw [show stp (pz N p) s c y = false from decide_eq_false (by rw [drn_pz, if_neg (by omega)]; omega)]
      exact Bool.and_false _
    have inn : ∀ y, y < N → (decide (f y + 1 = f c) && stp (pz N p) s c y) = (decide (fa_S N f y + 1 = fa_S N f c) && stp p s c y) := fun y hy => by
      unfold stp
      rw [drn_pz_in hc hy, e0]
      congr 1
      refine decide_eq_decide.mpr ?_
      unfold fa_S
      rcases h y (by omega) with ⟨q1, -⟩ | ⟨q1, -⟩
      · rcases h c (by omega) with ⟨q3, -⟩ | ⟨q3, -⟩
        · omega
        · rw [if_pos q1]
          have hlt : f c < N := by
            rcases fa_ds hN hs hb h c hc with ⟨-, q5⟩ | ⟨q5, -⟩
            · rcases h c (by omega) with ⟨q6, -⟩ | ⟨-, q6, -⟩
              · omega
              · rw [nr_pz hN hs hb _ hc, q5] at q6
                cases q6
            · rw [e0] at q5
              exact q5
          constructor
          · intro z; omega
          · intro z; omega
      · rw [if_neg (by omega)]
    cases hq : ft (fun y => decide (fa_S N f y + 1 = fa_S N f c) && stp p s c y) N with
    | none =>
      refine ft_none.mpr (fun j hj => ?_)
      rcases Nat.lt_or_ge j N with q | q
      · rw [inn j q]; exact ft_none.mp hq j q
      · exact out j q
    | some d =>
      obtain ⟨g1, g2, g3⟩ := ft_eq.mp hq
      exact ft_eq.mpr ⟨by omega, by rw [inn d g1]; exact g2, fun j hj => by rw [inn j (by omega)]; exact g3 j hj⟩
  rw [e]
end RE
