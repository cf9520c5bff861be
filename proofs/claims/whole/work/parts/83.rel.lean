/-! one answer each: what the office and the reference tell is the same -/
section RL
def fnl (R : Nat → Option Value → Prop) : Prop := ∀ k v k' v', R k v → R k' v' → k = k' ∧ v = v'
theorem fnl_Rv {n : Nat} {a : Int32} : fnl (Rv n a) := fun _ _ _ _ h h' => ⟨h.1.trans h'.1.symm, h.2.trans h'.2.symm⟩
theorem fnl_Ru {n : Nat} : fnl (Ru n) := fun _ _ _ _ h h' => ⟨h.1.trans h'.1.symm, h.2.trans h'.2.symm⟩
theorem fnl_Rc {a : Option Value} : ∀ (L : List Prop) (i : Nat), fnl (Rc a L i)
  | [], _ => fun _ _ _ _ h h' => ⟨h.1.trans h'.1.symm, h.2.trans h'.2.symm⟩
  | φ :: L, i => fun k v k' v' h h' => by
    rcases h with ⟨h1, h2, h3⟩ | ⟨h1, h2⟩
    · rcases h' with ⟨-, h5, h6⟩ | ⟨h4, -⟩
      · exact ⟨h2.trans h5.symm, h3.trans h6.symm⟩
      · exact absurd h4 h1
    · rcases h' with ⟨h4, -, -⟩ | ⟨-, h5⟩
      · exact absurd h1 h4
      · exact fnl_Rc L (i + 1) k v k' v' h2 h5
theorem fnl_Rw {n : Nat} {An : Option Value → Prop} (hA : ∀ v v', An v → An v' → v = v') : fnl (Rw n An) := fun k v k' v' h h' => by
  refine ⟨h.1.trans h'.1.symm, ?_⟩
  have h2 := h.2
  have h3 := h'.2
  by_cases e : n = 0
  · rw [if_pos e] at h2 h3
    exact hA _ _ h2 h3
  · rw [if_neg e] at h2 h3
    rw [h2, h3]
theorem fnl_Rf {n : Nat} {o : Option Nat} : fnl (Rf n o) := fun k v k' v' h h' => by
  cases o with
  | none => exact ⟨h.1.trans h'.1.symm, h.2.trans h'.2.symm⟩
  | some c => exact ⟨h.1.trans h'.1.symm, h.2.trans h'.2.symm⟩
theorem nI_in8 {N a b : Nat} (hN : N ≤ 8) (ha : a < N) (hb : b < N) (h : nI a = nI b) : a = b := (nI_eq (by omega) (by omega)).mp h
theorem fn_way {p : Nat → Nat → Nat} {N : Nat} {x y : Int32} (hN : N ≤ 8) : ∀ v v', wayA p N x y v → wayA p N x y v' → v = v' := by
  rintro v v' ⟨a, b, ha, hb, rfl, rfl, h⟩ ⟨a', b', ha', hb', e1, e2, h'⟩
  have ea := nI_in8 hN ha ha' e1
  have eb := nI_in8 hN hb hb' e2
  subst ea
  subst eb
  rcases h with ⟨h1, h2⟩ | ⟨h1, S, h2, h3, h4⟩
  · rcases h' with ⟨-, h5⟩ | ⟨h5, -⟩
    · rw [h2, h5]
    · exact absurd h1 h5
  · rcases h' with ⟨h5, -⟩ | ⟨-, S', h5, h6, h7⟩
    · exact absurd h5 h1
    · rw [h4, h7]
      have e : S a = S' a := by
        rcases mn_ds_same h2 h5 ha with q | ⟨q, -⟩
        · exact q
        · omega
      rw [wy_same h2 h5 (Nat.le_refl _) (Nat.le_refl _) (S a) 1 a _ ha rfl h3, e]
theorem fn_prv {P : Nat → Nat → Int32} {N : Nat} {x y s w z : Int32} (hN : N ≤ 8) : ∀ v v', prvA P N x y s w z v → prvA P N x y s w z v' → v = v' := by
  rintro v v' ⟨a, b, ha, hb, rfl, rfl, r, h1, h2⟩ ⟨a', b', ha', hb', e1, e2, r', h1', h2'⟩
  have ea := nI_in8 hN ha ha' e1
  have eb := nI_in8 hN hb hb' e2
  subst ea
  subst eb
  have : r = r' := Bool.eq_iff_iff.mpr (h2.trans h2'.symm)
  rw [h1, h1', this]
/-! the pairs' order is one -/
theorem so_bf_ps {p : Nat → Nat → Nat} {ps ps' : Nat → Nat} {N x y : Nat} (h : ∀ a, a < N → ps a = ps' a) (hx1 : x / 8 < N) (hx2 : x % 8 < N) (hy1 : y / 8 < N) (hy2 : y % 8 < N) : so_bf p ps x y ↔ so_bf p ps' x y := by
  unfold so_bf ml_bf
  dsimp only
  rw [h _ hx1, h _ hx2, h _ hy1, h _ hy2]
theorem so_all_ps {p : Nat → Nat → Nat} {ps ps' e : Nat → Nat} {N pn : Nat} (h : ∀ a, a < N → ps a = ps' a) (hs : so_all p ps N e pn) : so_all p ps' N e pn := ⟨fun i j hij hj => (so_bf_ps h (hs.2.1 i (by omega)).1 (hs.2.1 i (by omega)).2.1 (hs.2.1 j hj).1 (hs.2.1 j hj).2.1).mp (hs.1 i j hij hj), hs.2⟩
theorem so_code {x : Nat} : 8 * (x / 8) + x % 8 = x := by omega
theorem so_uq {p : Nat → Nat → Nat} {ps e e' : Nat → Nat} {N pn pn' : Nat} (hs : so_all p ps N e pn) (hs' : so_all p ps N e' pn') : ∀ i, i < pn → i < pn' ∧ e i = e' i := by
  intro i
  induction i using Nat.strongRecOn with
  | ind i ih =>
    intro hi
    have find : ∀ {e e' : Nat → Nat} {pn pn' : Nat}, so_all p ps N e pn → so_all p ps N e' pn' → ∀ t, t < pn → ∃ j, j < pn' ∧ e' j = e t := fun {e e' pn pn'} hs hs' t ht => by
      obtain ⟨g1, g2, g3⟩ := hs.2.1 t ht
      obtain ⟨j, hj, q⟩ := hs'.2.2 _ _ g1 g2 g3
      exact ⟨j, hj, by rw [q, so_code]⟩
    obtain ⟨j, hj, hje⟩ := find hs hs' i hi
    have hij : i ≤ j := by
      rcases Nat.lt_or_ge j i with q | q
      · exfalso
        have h1 := (ih j q (by omega)).2
        have h2 := hs.1 j i q hi
        rw [h1, hje] at h2
        exact so_bf_ir h2
      · exact q
    refine ⟨by omega, ?_⟩
    obtain ⟨j2, hj2, hje2⟩ := find hs' hs i (by omega)
    have hij2 : i ≤ j2 := by
      rcases Nat.lt_or_ge j2 i with q | q
      · exfalso
        have h1 := (ih j2 q hj2).2
        have h2 := hs'.1 j2 i q (by omega)
        rw [← h1, hje2] at h2
        exact so_bf_ir h2
      · exact q
    by_cases q : j = i
    · rw [← hje, q]
    · by_cases q2 : j2 = i
      · rw [← hje2, q2]
      · exfalso
        have h1 := hs'.1 i j (by omega) hj
        have h2 := hs.1 i j2 (by omega) hj2
        rw [hje] at h1
        rw [hje2] at h2
        exact so_bf_ir (so_bf_tr h1 h2)
theorem so_lk_uq {p : Nat → Nat → Nat} {ps e e' : Nat → Nat} {N pn pn' : Nat} (hs : so_all p ps N e pn) (hs' : so_all p ps N e' pn') : so_lk e pn = so_lk e' pn' := by
  have h1 := so_uq hs hs'
  have h2 := so_uq hs' hs
  have epn : pn = pn' := by
    rcases Nat.lt_trichotomy pn pn' with q | q | q
    · have := (h2 pn q).1; omega
    · exact q
    · have := (h1 pn' q).1; omega
  subst epn
  unfold so_lk
  rw [ml_run_to (u' := fun j => e' j / 8) (v' := fun j => e' j % 8) pn (fun j hj => by rw [(h1 j hj).2]; exact ⟨rfl, rfl⟩)]
theorem ord_uq {p : Nat → Nat → Nat} {N : Nat} {dw : Nat → Nat} {lk lk' : Nat → Nat → Bool} (h : ord_is p N dw lk) (h' : ord_is p N dw lk') : lk = lk' := by
  obtain ⟨ps, e, pn, h1, h2, rfl⟩ := h
  obtain ⟨ps', e', pn', h1', h2', rfl⟩ := h'
  have hps : ∀ a, a < N → ps' a = ps a := fun a ha => by
    have q := h1'.2 a ha
    have q2 := (h1.1 (ps' a) q.1).2
    rw [q.2] at q2
    exact q2.symm
  exact so_lk_uq h2 (so_all_ps hps h2')
theorem fn_lock {p : Nat → Nat → Nat} {N : Nat} {dw : Nat → Nat} {x y : Int32} (hN : N ≤ 8) : ∀ v v', lockA p N dw x y v → lockA p N dw x y v' → v = v' := by
  rintro v v' ⟨a, b, lk, ha, hb, rfl, rfl, h1, h2⟩ ⟨a', b', lk', ha', hb', e1, e2, h1', h2'⟩
  have ea := nI_in8 hN ha ha' e1
  have eb := nI_in8 hN hb hb' e2
  subst ea
  subst eb
  rw [h2, h2', ord_uq h1 h1']
theorem fnl_ord {n : Nat} {p : Nat → Nat → Nat} {N : Nat} {dw : Nat → Nat} {x : Int32} (hN : N ≤ 8) : fnl (ordR n p N dw x) := fun k v k' v' h h' => by
  rcases h with ⟨h1, h2, h3⟩ | ⟨lk, a, h1, rfl, h3, h4, h5⟩
  · rcases h' with ⟨-, h5, h6⟩ | ⟨lk', a', h4, e, -⟩
    · exact ⟨h2.trans h5.symm, h3.trans h6.symm⟩
    · rw [e, ic_n (by omega) h4] at h1
      cases h1
  · rcases h' with ⟨h6, -, -⟩ | ⟨lk', a', h6, e, h8, h9, h10⟩
    · rw [ic_n (by omega) h1] at h6
      cases h6
    · have ea := nI_in8 hN h1 h6 e
      subst ea
      rw [h5, h10, ord_uq h3 h8]
      exact ⟨h4.trans h9.symm, rfl⟩
theorem bm_to {p q : Nat → Bool} : ∀ n, (∀ i, i < n → p i = q i) → bm p n = bm q n
  | 0, _ => rfl
  | n + 1, h => by rw [bm, bm, bm_to n (fun i hi => h i (by omega)), h n (by omega)]
theorem fnl_top {n : Nat} {p : Nat → Nat → Nat} {N : Nat} {x : Int32} (hp : ∀ a b, a < N → b < N → p a b < 2 ^ 31) : fnl (topR n (fun a b => nI (p a b)) N x) := fun k v k' v' h h' => by
  obtain ⟨c0, h1, h2, h3⟩ := h
  obtain ⟨c1, h1', h2', h3'⟩ := h'
  have e : ∀ i, i < N → mt_of (nbt (fun a b => nI (p a b))) N c1 i = mt_of (nbt (fun a b => nI (p a b))) N c0 i := mt_eq (r := nbt (fun a b => nI (p a b))) (fun a b ha hb q => by
    refine (nbt_z hp hb ha).mpr ?_
    have : ¬ drn p a b = 0 := fun e => by rw [(nbt_z hp ha hb).mpr e] at q; cases q
    unfold drn at this ⊢
    by_cases e : p b a < p a b
    · rw [if_neg (by omega)]
    · rw [if_neg e] at this; exact absurd rfl this) (mt_of_cl h1') (mt_of_cl h1) (Nat.le_antisymm (h2' c0 h1) (h2 c1 h1'))
  rw [bm_to N e] at h3'
  exact fnl_Rf _ _ _ _ h3 h3'
theorem fnl_with {op : Nat} {sg sz : Nat → Nat} {rk : Nat → Nat → Int32} {tm : Nat → Nat → Nat} {N : Nat} {dw : Nat → Nat} {b w x : Int32} (hN : N ≤ 8) (hp : ∀ but a b, a < N → b < N → psum sg sz rk tm but a b < 2 ^ 31) : fnl (withR op sg sz rk tm N dw b w x) := fun k v k' v' h h' => by
  rcases h with ⟨h1, h2, h3⟩ | ⟨h1, h2⟩
  · rcases h' with ⟨-, h5, h6⟩ | ⟨h4, -⟩
    · exact ⟨h2.trans h5.symm, h3.trans h6.symm⟩
    · exact absurd h4 h1
  · rcases h' with ⟨h4, -, -⟩ | ⟨-, h5⟩
    · exact absurd h1 h4
    · obtain ⟨a1, a2, a3⟩ := h2
      obtain ⟨b1, b2, b3⟩ := h5
      rcases h1.2 with q | q | q
      · exact fnl_Rf _ _ _ _ (a1 q) (b1 q)
      · exact fnl_ord hN _ _ _ _ (a2 q) (b2 q)
      · exact fnl_top (hp _) _ _ _ _ (a3 q) (b3 q)
/-! an int is told -/
theorem int_Rv {n : Nat} {a : Int32} : ∀ v, Rv n a 0 v → ∃ x, v = some (.int x) := fun v h => ⟨a, by rw [h.2, if_pos h.1.symm]⟩
theorem int_Rc {a : Int32} : ∀ (L : List Prop) (i : Nat), 1 ≤ i → ∀ v, Rc (some (.int a)) L i 0 v → ∃ x, v = some (.int x)
  | [], _, _ => fun _ h => ⟨a, h.2⟩
  | φ :: L, i, hi => fun v h => by
    rcases h with ⟨-, h2, -⟩ | ⟨-, h2⟩
    · omega
    · exact int_Rc L (i + 1) (by omega) v h2
theorem none_Rc : ∀ (L : List Prop) (i : Nat), ∀ k v, Rc none L i k v → v = none
  | [], _ => fun _ _ h => h.2
  | φ :: L, i => fun k v h => by
    rcases h with ⟨-, -, h2⟩ | ⟨-, h2⟩
    · exact h2
    · exact none_Rc L (i + 1) k v h2
theorem le_Rc {a : Option Value} : ∀ (L : List Prop) (i : Nat), 1 ≤ i → ∀ k v, Rc a L i k v → k < i + L.length
  | [], i, hi => fun k v h => by
    rw [h.1, List.length_nil]
    omega
  | φ :: L, i, hi => fun k v h => by
    rcases h with ⟨-, h1, -⟩ | ⟨-, h2⟩
    · rw [h1, List.length_cons]; omega
    · have := le_Rc L (i + 1) (by omega) k v h2
      rw [List.length_cons]; omega
theorem int_Rf {n : Nat} {o : Option Nat} (hn : n ≠ 0) : ∀ v, Rf n o 0 v → ∃ x, v = some (.int x) := fun v h => by
  cases o with
  | none => exact absurd h.1.symm hn
  | some c => exact ⟨_, h.2⟩
theorem le_Rf {n k : Nat} {o : Option Nat} {v : Option Value} (h : Rf n o k v) : k ≤ n := by
  cases o with
  | none => exact Nat.le_of_eq h.1
  | some c => have := h.1; omega
theorem int_way {n : Nat} {p : Nat → Nat → Nat} {N : Nat} {x y : Int32} : ∀ v, Rw n (wayA p N x y) 0 v → ∃ z, v = some (.int z) := fun v h => by
  have h2 := h.2
  rw [if_pos h.1.symm] at h2
  obtain ⟨a, b, -, -, -, -, h3⟩ := h2
  rcases h3 with ⟨-, e⟩ | ⟨-, S, -, -, e⟩
  · exact ⟨_, e⟩
  · exact ⟨_, e⟩
theorem int_prv {n : Nat} {P : Nat → Nat → Int32} {N : Nat} {x y s w z : Int32} : ∀ v, Rw n (prvA P N x y s w z) 0 v → ∃ b, v = some (.int (bt_n b)) := fun v h => by
  have h2 := h.2
  rw [if_pos h.1.symm] at h2
  obtain ⟨a, b, -, -, -, -, r, e, -⟩ := h2
  exact ⟨r, e⟩
theorem int_lock {n : Nat} {p : Nat → Nat → Nat} {N : Nat} {dw : Nat → Nat} {x y : Int32} : ∀ v, Rw n (lockA p N dw x y) 0 v → ∃ b, v = some (.int (bt_n b)) := fun v h => by
  have h2 := h.2
  rw [if_pos h.1.symm] at h2
  obtain ⟨a, b, lk, -, -, -, -, -, e⟩ := h2
  exact ⟨_, e⟩
theorem int_ord {n : Nat} {p : Nat → Nat → Nat} {N : Nat} {dw : Nat → Nat} {x : Int32} (hn : n ≠ 0) : ∀ v, ordR n p N dw x 0 v → ∃ z, v = some (.int z) := fun v h => by
  rcases h with ⟨-, h2, -⟩ | ⟨lk, a, -, -, -, -, e⟩
  · exact absurd h2.symm hn
  · exact ⟨_, e⟩
theorem le_ord {n k : Nat} {p : Nat → Nat → Nat} {N : Nat} {dw : Nat → Nat} {x : Int32} {v : Option Value} (h : ordR n p N dw x k v) : k ≤ n := by
  rcases h with ⟨-, h2, -⟩ | ⟨lk, a, -, -, -, h2, -⟩ <;> omega
theorem int_top {n : Nat} {P : Nat → Nat → Int32} {N : Nat} {x : Int32} (hn : n ≠ 0) : ∀ v, topR n P N x 0 v → ∃ z, v = some (.int z) := fun v ⟨_, _, _, h⟩ => int_Rf hn v h
theorem le_top {n k : Nat} {P : Nat → Nat → Int32} {N : Nat} {x : Int32} {v : Option Value} (h : topR n P N x k v) : k ≤ n := by
  obtain ⟨_, _, _, h⟩ := h
  exact le_Rf h
end RL
