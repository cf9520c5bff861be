/-! the reference: sizeOf, topAll (walks by gen/m_mo10.py) -/
section MA

theorem cnt_add {a : Nat} {b : Bool} : nI a + bt_n b = nI (a + (if b = true then 1 else 0)) := by
  cases b with
  | true => exact nI_add a 1
  | false => exact nI_add a 0
/-- the set of a number -/
def tb (m i : Nat) : Bool := bt (nI m) i
theorem tb_out {N m i : Nat} (hN : N ≤ 8) (hm : m < 2 ^ N) (h1 : N ≤ i) (h2 : i < 32) : tb m i = false := by
  have h256 : 2 ^ N ≤ 256 := Nat.pow_le_pow_right (by decide) hN
  have hp : ∀ N, N < 9 → (nI 1) <<< ((nI N) &&& 31) = nI (2 ^ N) := by decide +kernel
  exact (set_rg hN).mp ⟨nI_pos (by omega), fun q => by
    rw [hp N (by omega)] at q
    have := (nI_leI (by omega) (by omega)).mp q
    omega⟩ i h1 h2
theorem mn_cnt_to {p q : Nat → Bool} : ∀ n, (∀ i, i < n → p i = q i) → mn_cnt p n = mn_cnt q n
  | 0, _ => rfl
  | n + 1, h => by rw [mn_cnt, mn_cnt, mn_cnt_to n (fun i hi => h i (by omega)), h n (by omega)]
theorem mn_cnt_ext {p : Nat → Bool} {m : Nat} : ∀ n, m ≤ n → (∀ i, m ≤ i → i < n → p i = false) → mn_cnt p n = mn_cnt p m
  | 0, h, _ => by rw [show m = 0 by omega]
  | n + 1, h, hz => by
    by_cases e : m = n + 1
    · rw [e]
    · rw [mn_cnt, mn_cnt_ext n (by omega) (fun i h1 h2 => hz i h1 (by omega)), hz n (by omega) (by omega)]
      rfl
theorem tb_cnt {N m : Nat} (hN : N ≤ 8) (hm : m < 2 ^ N) : mn_cnt (fun i => bt (nI m) i) 8 = mn_cnt (tb m) N := mn_cnt_ext (p := tb m) 8 hN (fun i h1 h2 => tb_out hN hm h1 (by omega))
def tpk (p : Nat → Nat → Nat) (N m k : Nat) : Prop := ∀ j, j < k → tb m (j / 8) = true → j % 8 < N → tb m (j % 8) = false → 0 < drn (pz N p) (j / 8) (j % 8)
theorem nbt_z {p : Nat → Nat → Nat} {N a b : Nat} (hp : ∀ a b, a < N → b < N → p a b < 2 ^ 31) (ha : a < N) (hb : b < N) : nbt (fun a b => nI (p a b)) a b = true ↔ drn p a b = 0 := by
  unfold nbt
  rw [dir_nI (p := p) (N := N) (fun _ _ _ _ => rfl) hp ha hb]
  constructor
  · intro h
    have h1 := of_decide_eq_true h
    exact (nI_eq (drn_lt hp ha hb) (by decide)).mp (h1.trans nI_0.symm)
  · intro h
    rw [h]
    exact decide_eq_true nI_0
theorem tpk_e {p : Nat → Nat → Nat} {N m : Nat} (hN : N ≤ 8) (hp : ∀ a b, a < N → b < N → p a b < 2 ^ 31) (hm : m < 2 ^ N) : tpk p N m 64 ↔ mt_cl (nbt (fun a b => nI (p a b))) N (tb m) := by
  constructor
  · intro h a b ha hb h1 h2
    cases e : tb m b with
    | true => rfl
    | false =>
      have h3 := h (8 * a + b) (by omega)
      rw [show (8 * a + b) / 8 = a by omega, show (8 * a + b) % 8 = b by omega, drn_pz_in ha hb] at h3
      have h4 := h3 h1 hb e
      rw [(nbt_z hp ha hb).mp h2] at h4
      exact absurd h4 (Nat.lt_irrefl _)
  · intro h j hj h1 h2 h3
    have ha : j / 8 < N := by
      rcases Nat.lt_or_ge (j / 8) N with q | q
      · exact q
      · rw [tb_out hN hm q (by omega)] at h1; cases h1
    rw [drn_pz_in ha h2]
    rcases Nat.eq_zero_or_pos (drn p (j / 8) (j % 8)) with q | q
    · have := h _ _ ha h2 h1 ((nbt_z hp ha h2).mpr q)
      rw [h3] at this; cases this
    · exact q
/-- the least of those tried -/
def tl_ok (r : Nat → Nat → Bool) (N m t : Nat) : Prop := t < 2 ^ N ∧ 1 ≤ t ∧ mt_cl r N (tb t) ∧ ∀ m', 1 ≤ m' → m' < m → mt_cl r N (tb m') → mn_cnt (tb t) N ≤ mn_cnt (tb m') N
theorem tb_full : ∀ N, N < 9 → ∀ i, i < N → tb (2 ^ N - 1) i = true := by decide +kernel
theorem tl_0 {r : Nat → Nat → Bool} {N : Nat} (h1 : 1 ≤ N) (hN : N ≤ 8) : tl_ok r N 1 (2 ^ N - 1) := by
  have h2 : 2 ≤ 2 ^ N := Nat.pow_le_pow_right (n := 2) (i := 1) (j := N) (by decide) h1
  exact ⟨by omega, by omega, fun a b _ hb _ _ => tb_full N (by omega) b hb, fun m' q1 q2 => by omega⟩
theorem tl_y {r : Nat → Nat → Bool} {N m t : Nat} (h : tl_ok r N m t) (h1 : 1 ≤ m) (hm : m < 2 ^ N) (hc : mt_cl r N (tb m)) (hl : mn_cnt (tb m) N < mn_cnt (tb t) N) : tl_ok r N (m + 1) m := ⟨hm, h1, hc, fun m' q1 q2 q3 => by
  rcases Nat.lt_or_ge m' m with q | q
  · have := h.2.2.2 m' q1 q q3
    omega
  · rw [show m' = m by omega]; exact Nat.le_refl _⟩
theorem tl_n {r : Nat → Nat → Bool} {N m t : Nat} (h : tl_ok r N m t) (hn : ¬ (mn_cnt (tb m) N < mn_cnt (tb t) N ∧ mt_cl r N (tb m))) : tl_ok r N (m + 1) t := ⟨h.1, h.2.1, h.2.2.1, fun m' q1 q2 q3 => by
  rcases Nat.lt_or_ge m' m with q | q
  · exact h.2.2.2 m' q1 q q3
  · have e : m' = m := by omega
    subst e
    rcases Nat.lt_or_ge (mn_cnt (tb m') N) (mn_cnt (tb t) N) with r9 | r9
    · exact absurd ⟨r9, q3⟩ hn
    · exact r9⟩
theorem tb_of {N : Nat} (hN : N ≤ 8) (S : Nat → Bool) : ∃ m, m < 2 ^ N ∧ ∀ i, i < N → tb m i = S i := by
  have hb : ∀ i, i < 32 → bt (bm S N) i = (decide (i < N) && S i) := fun i hi => bm_bt S hi N (by omega)
  have h256 : 2 ^ N ≤ 256 := Nat.pow_le_pow_right (by decide) hN
  have hp : ∀ N, N < 9 → (nI 1) <<< ((nI N) &&& 31) = nI (2 ^ N) := by decide +kernel
  have h := (set_rg (x := bm S N) hN).mpr (fun i h1 h2 => by rw [hb i h2, decide_eq_false (by omega)]; rfl)
  obtain ⟨m, hm, e⟩ := nI_of h.1
  refine ⟨m, ?_, fun i hi => ?_⟩
  · rcases Nat.lt_or_ge m (2 ^ N) with q | q
    · exact q
    · exact absurd (by rw [hp N (by omega), e]; exact (nI_leI (by omega) hm).mpr q) h.2
  · show bt (nI m) i = _
    rw [← e, hb i (by omega), decide_eq_true hi, Bool.true_and]
theorem tb_pos {N m : Nat} (hN : N ≤ 8) (hm : m < 2 ^ N) (h : 1 ≤ m) : ∃ c, c < N ∧ tb m c = true := by
  refine Classical.byContradiction fun hn => ?_
  have h256 : 2 ^ N ≤ 256 := Nat.pow_le_pow_right (by decide) hN
  have hz : nI m = nI 0 := b_ext (fun i hi => by
    rw [bt_nI0]
    cases e : bt (nI m) i with
    | false => rfl
    | true =>
      rcases Nat.lt_or_ge i N with q | q
      · exact absurd ⟨i, q, e⟩ hn
      · have := tb_out hN hm q hi
        unfold tb at this
        rw [e] at this; cases this)
  have := (nI_eq (by omega) (by decide)).mp hz
  omega
theorem tl_e {p : Nat → Nat → Nat} {N t : Nat} (h1 : 1 ≤ N) (hN : N ≤ 8) (hp : ∀ a b, a < N → b < N → p a b < 2 ^ 31) (h : tl_ok (nbt (fun a b => nI (p a b))) N (2 ^ N) t) : ∃ c0, c0 < N ∧ (∀ a, a < N → mn_cnt (mt_of (nbt (fun a b => nI (p a b))) N c0) N ≤ mn_cnt (mt_of (nbt (fun a b => nI (p a b))) N a) N) ∧ ∀ x, x < N → tb t x = mt_of (nbt (fun a b => nI (p a b))) N c0 x := by
  obtain ⟨k, ⟨c0, hc0, hk⟩, hmin⟩ := pk_least (fun k => ∃ c, c < N ∧ mn_cnt (mt_of (nbt (fun a b => nI (p a b))) N c) N = k) ⟨_, 0, by omega, rfl⟩
  have hm : ∀ a, a < N → mn_cnt (mt_of (nbt (fun a b => nI (p a b))) N c0) N ≤ mn_cnt (mt_of (nbt (fun a b => nI (p a b))) N a) N := fun a ha => by
    rcases Nat.lt_or_ge (mn_cnt (mt_of (nbt (fun a b => nI (p a b))) N a) N) (mn_cnt (mt_of (nbt (fun a b => nI (p a b))) N c0) N) with q | q
    · exact absurd ⟨a, ha, rfl⟩ (hmin _ (by rw [← hk]; exact q))
    · exact q
  refine ⟨c0, hc0, hm, mt_top (fun a b ha hb q => ?_) hc0 hm h.2.2.1 (tb_pos hN h.1 h.2.1) (fun S hS hne => ?_)⟩
  · refine (nbt_z hp hb ha).mpr ?_
    have : ¬ drn p a b = 0 := fun e => by rw [(nbt_z hp ha hb).mpr e] at q; cases q
    unfold drn at this ⊢
    by_cases e : p b a < p a b
    · rw [if_neg (by omega)]
    · rw [if_neg e] at this; exact absurd rfl this
  · obtain ⟨m, hm2, hmS⟩ := tb_of hN S
    obtain ⟨c, hc, hSc⟩ := hne
    have hm1 : 1 ≤ m := by
      rcases Nat.eq_zero_or_pos m with q | q
      · have := hmS c hc
        rw [q, hSc] at this
        unfold tb at this
        rw [bt_nI0] at this; cases this
      · exact q
    rw [← mn_cnt_to N hmS]
    exact h.2.2.2 m hm1 hm2 (fun a b ha hb q1 q2 => by
      rw [hmS b hb]
      exact hS a b ha hb (by rw [← hmS a ha]; exact q1) q2)
theorem sh_2 : ∀ N, N < 9 → (nI 1) <<< ((nI N) &&& 31) = nI (2 ^ N) := by decide +kernel
variable (l : Launch) (D : va_G) (c : Nat → ClassId) (ad : Nat → Nat) (M : bj_M)
set_option maxRecDepth 100000 in
set_option maxHeartbeats 4000000 in
/-- sizeOf -/
theorem t_Mo_sizeOf {x : Int32} : bj_T (bw_G l D c) Y_Mo_sizeOf 0 (0, 0, 0, 0) ad (bj_fn (nI (mn_cnt (fun i => bt x i) 8)) M) [.int x] M := by
  show bj_S _ _ _ _ _ _ 0 0 0 [some (.int x), none, none] [] M
  refine bj_iconst (v := (nI 0)) d_Mo_sizeOf_0 (by decide) ?_
  refine bj_istore_n (L' := [some (.int x), some (.int (nI 0)), none]) d_Mo_sizeOf_1 rfl (by decide) rfl ?_
  refine bj_iconst (v := (nI 0)) d_Mo_sizeOf_2 (by decide) ?_
  refine bj_istore_n (L' := [some (.int x), some (.int (nI 0)), some (.int (nI 0))]) d_Mo_sizeOf_3 rfl (by decide) rfl ?_
  have lp : ∀ (k : Nat), (k ≤ 8) → bj_S (bw_G l D c) Y_Mo_sizeOf 0 (0, 0, 0, 0) ad (bj_fn (nI (mn_cnt (fun i => bt x i) 8)) M) 0 0 4 [some (.int x), some (.int (nI (mn_cnt (fun i => bt x i) k))), some (.int (nI k))] [] M := by
    intro k
    induction hd_lp : 8 - k using Nat.strongRecOn generalizing k with
    | ind d_lp ih_lp =>
      intro hk
      refine bj_iload_n d_Mo_sizeOf_4 rfl rfl ?_
      refine bj_bipush (v := (nI 8)) d_Mo_sizeOf_5 (by decide) ?_
      refine bj_icmp_geN (tgt := 24) d_Mo_sizeOf_7 (by decide) (by omega) (by omega) (fun h7 => ?_) (fun h7 => ?_)
      · refine bj_iload_n d_Mo_sizeOf_24 rfl rfl ?_
        exact bj_iret d_Mo_sizeOf_25 rfl rfl (Nat.le_refl _) (Nat.le_refl _) ⟨by rw [show k = 8 by omega], rfl⟩
      · refine bj_iload_n d_Mo_sizeOf_10 rfl rfl ?_
        refine bj_iload_n d_Mo_sizeOf_11 rfl rfl ?_
        refine bj_iload_n d_Mo_sizeOf_12 rfl rfl ?_
        refine bj_ishr (v := (x >>> ((nI k) &&& 31))) d_Mo_sizeOf_13 rfl ?_
        refine bj_iconst (v := (nI 1)) d_Mo_sizeOf_14 (by decide) ?_
        refine bj_iand (v := (bt_n (bt x k))) d_Mo_sizeOf_15 (bt_shas x (by omega)) ?_
        refine bj_iadd (v := (nI (mn_cnt (fun i => bt x i) (k + 1)))) d_Mo_sizeOf_16 (by rw [cnt_add]; rfl) ?_
        refine bj_istore_n (L' := [some (.int x), some (.int (nI (mn_cnt (fun i => bt x i) (k + 1)))), some (.int (nI k))]) d_Mo_sizeOf_17 rfl (by decide) rfl ?_
        refine bj_iinc (v := (nI (k + 1))) (L' := [some (.int x), some (.int (nI (mn_cnt (fun i => bt x i) (k + 1)))), some (.int (nI (k + 1)))]) d_Mo_sizeOf_18 rfl (bj_inc1 _) (by decide) rfl ?_
        refine bj_goto (tgt := 4) d_Mo_sizeOf_21 (by decide) ?_
        exact ih_lp (8 - (k + 1)) (by omega) (k + 1) rfl (by omega)
  exact lp 0 (Nat.zero_le _)
set_option maxRecDepth 100000 in
set_option maxHeartbeats 4000000 in
/-- topAll -/
theorem t_Mo_topAll {N op : Nat} {cd li : Int32} {se : Bool} {dw sg sz : Nat → Nat} {rk : Nat → Nat → Int32} {tm : Nat → Nat → Nat} (hm0 : mo_ok c ad M N cd se op li dw sg sz rk tm) (hN : N ≤ 8) {p : Nat → Nat → Nat} (hN1 : 1 ≤ N) (hcn : cn_ok c M N p) (hp : ∀ a b, a < N → b < N → p a b < 2 ^ 31) (hz31 : ∀ a b, drn (pz N p) a b < 2 ^ 31) (hsc : mo_sc c M) : bj_T (bw_G l D c) Y_Mo_topAll 1 (0, 0, 0, 0) ad (q_list c ad M N cd se op dw sg sz rk tm (fun n M' => ∃ c0, c0 < N ∧ (∀ a, a < N → mn_cnt (mt_of (nbt (fun a b => nI (p a b))) N c0) N ≤ mn_cnt (mt_of (nbt (fun a b => nI (p a b))) N a) N) ∧ n = mn_cnt (mt_of (nbt (fun a b => nI (p a b))) N c0) N ∧ wl_ok c M' (mt_of (nbt (fun a b => nI (p a b))) N c0) N)) [.ref (ad 80)] M := by
  show bj_S _ _ _ _ _ _ 0 0 0 [some (.ref (ad 80)), none, none, none, none, none] [] M
  obtain ⟨pf, di, st0, lk0, ld0, fa0, ls0, g1, g2, g3, g4, g5, g6, g7⟩ := id hsc
  have h256 : 2 ^ N ≤ 256 := Nat.pow_le_pow_right (by decide) hN
  refine bj_iconst (v := (nI 1)) d_Mo_topAll_0 (by decide) ?_
  refine bj_aload_n d_Mo_topAll_1 rfl rfl ?_
  refine bj_get d_Mo_topAll_2 in_Mo rfl (by decide : 0 < 17) wf_Mo_47 rfl hm0.1 rfl ?_
  refine bj_ishl (v := (nI (2 ^ N))) d_Mo_topAll_5 (sh_2 N (by omega)) ?_
  refine bj_iconst (v := (nI 1)) d_Mo_topAll_6 (by decide) ?_
  refine bj_isub (v := (nI (2 ^ N - 1))) d_Mo_topAll_7 (pk_sub Nat.one_le_two_pow) ?_
  refine bj_istore_n (L' := [some (.ref (ad 80)), some (.int (nI (2 ^ N - 1))), none, none, none, none]) d_Mo_topAll_8 rfl (by decide) rfl ?_
  refine bj_iconst (v := (nI 1)) d_Mo_topAll_9 (by decide) ?_
  refine bj_istore_n (L' := [some (.ref (ad 80)), some (.int (nI (2 ^ N - 1))), some (.int (nI 1)), none, none, none]) d_Mo_topAll_10 rfl (by decide) rfl ?_
  have l1 : ∀ (m : Nat), ∀ (t : Nat), ∀ (z3 : Option Value), ∀ (z4 : Option Value), ∀ (z5 : Option Value), (1 ≤ m) → (m ≤ 2 ^ N) → (tl_ok (nbt (fun a b => nI (p a b))) N m t) → bj_S (bw_G l D c) Y_Mo_topAll 1 (0, 0, 0, 0) ad (q_list c ad M N cd se op dw sg sz rk tm (fun n M' => ∃ c0, c0 < N ∧ (∀ a, a < N → mn_cnt (mt_of (nbt (fun a b => nI (p a b))) N c0) N ≤ mn_cnt (mt_of (nbt (fun a b => nI (p a b))) N a) N) ∧ n = mn_cnt (mt_of (nbt (fun a b => nI (p a b))) N c0) N ∧ wl_ok c M' (mt_of (nbt (fun a b => nI (p a b))) N c0) N)) 0 0 11 [some (.ref (ad 80)), some (.int (nI t)), some (.int (nI m)), z3, z4, z5] [] M := by
    intro m t z3 z4 z5
    induction hd_l1 : 2 ^ N - m using Nat.strongRecOn generalizing m t z3 z4 z5 with
    | ind d_l1 ih_l1 =>
      intro hm1 hm2 htl
      refine bj_iload_n d_Mo_topAll_11 rfl rfl ?_
      refine bj_iconst (v := (nI 1)) d_Mo_topAll_12 (by decide) ?_
      refine bj_aload_n d_Mo_topAll_13 rfl rfl ?_
      refine bj_get d_Mo_topAll_14 in_Mo rfl (by decide : 0 < 17) wf_Mo_47 rfl hm0.1 rfl ?_
      refine bj_ishl (v := (nI (2 ^ N))) d_Mo_topAll_17 (sh_2 N (by omega)) ?_
      refine bj_icmp_geN (tgt := 139) d_Mo_topAll_18 (by decide) (by first | omega | exact hz31 _ _ | exact Nat.lt_of_le_of_lt (mn_cnt_le _ _) (by omega)) (by first | omega | exact hz31 _ _ | exact Nat.lt_of_le_of_lt (mn_cnt_le _ _) (by omega)) (fun h18 => ?_) (fun h18 => ?_)
      · have hmN : m = 2 ^ N := by omega
        subst hmN
        obtain ⟨c0, hc0, hmin, htb⟩ := tl_e hN1 hN hp htl
        have hcn0 : ∀ d, d ≤ N → mn_cnt (tb t) d = mn_cnt (mt_of (nbt (fun a b => nI (p a b))) N c0) d := fun d hd => mn_cnt_to d (fun i hi => htb i (by omega))
        refine bj_aload_n d_Mo_topAll_139 rfl rfl ?_
        refine bj_iconst (v := (nI 0)) d_Mo_topAll_140 (by decide) ?_
        refine bj_put d_Mo_topAll_141 in_Mo ok_Mo nm_Mo rfl (by decide : 15 < 17) wf_Mo_101 rfl rfl rfl rfl rfl (Nat.le_of_ble_eq_true rfl) hm0.1 ?_
        have hm1 := hm0.hd (cd' := cd) (se' := se) (op' := op) (li' := (nI 0))
        have hx1 : mo_fx M (va_up M 80 (some (.inr (5, mo_F ad N cd se op (nI 0))))) := mo_fx.rf.at (j := 80) (by omega) (fun q hq => va_up_ne _ _ hq)
        have hw1 : ∀ q, q ≠ 80 → (va_up M 80 (some (.inr (5, mo_F ad N cd se op (nI 0))))) q = M q := fun q hq => va_up_ne _ _ hq
        show bj_S _ _ _ _ _ _ 0 0 _ _ [] (va_up M 80 (some (.inr (5, mo_F ad N cd se op (nI 0)))))
        generalize va_up M 80 (some (.inr (5, mo_F ad N cd se op (nI 0)))) = P1 at hm1 hx1 hw1 ⊢
        refine bj_iconst (v := (nI 0)) d_Mo_topAll_144 (by decide) ?_
        refine bj_istore_n (L' := [some (.ref (ad 80)), some (.int (nI t)), some (.int (nI 0)), z3, z4, z5]) d_Mo_topAll_145 rfl (by decide) rfl ?_
        have l3 : ∀ (a : Nat), ∀ (M2 : bj_M), ∀ (ls : Nat → Int32), (a ≤ N) → (mo_ok c ad M2 N cd se op (nI (mn_cnt (tb t) a)) dw sg sz rk tm) → (bv_I (c 0) M2 92 8 ls) → (∀ d, d < a → tb t d = true → ls (mn_cnt (tb t) d) = nI d) → (∀ q, q ≠ 80 → q ≠ 92 → M2 q = M q) → bj_S (bw_G l D c) Y_Mo_topAll 1 (0, 0, 0, 0) ad (q_list c ad M N cd se op dw sg sz rk tm (fun n M' => ∃ c0, c0 < N ∧ (∀ a, a < N → mn_cnt (mt_of (nbt (fun a b => nI (p a b))) N c0) N ≤ mn_cnt (mt_of (nbt (fun a b => nI (p a b))) N a) N) ∧ n = mn_cnt (mt_of (nbt (fun a b => nI (p a b))) N c0) N ∧ wl_ok c M' (mt_of (nbt (fun a b => nI (p a b))) N c0) N)) 0 0 146 [some (.ref (ad 80)), some (.int (nI t)), some (.int (nI a)), z3, z4, z5] [] M2 := by
          intro a M2 ls
          induction hd_l3 : N - a using Nat.strongRecOn generalizing a M2 ls with
          | ind d_l3 ih_l3 =>
            intro ha h2 hls hw hf
            refine bj_iload_n d_Mo_topAll_146 rfl rfl ?_
            refine bj_aload_n d_Mo_topAll_147 rfl rfl ?_
            refine bj_get d_Mo_topAll_148 in_Mo rfl (by decide : 0 < 17) wf_Mo_47 rfl h2.1 rfl ?_
            refine bj_icmp_geN (tgt := 189) d_Mo_topAll_151 (by decide) (by first | omega | exact hz31 _ _ | exact Nat.lt_of_le_of_lt (mn_cnt_le _ _) (by omega)) (by first | omega | exact hz31 _ _ | exact Nat.lt_of_le_of_lt (mn_cnt_le _ _) (by omega)) (fun h151 => ?_) (fun h151 => ?_)
            · exact bj_vret d_Mo_topAll_189 rfl (Nat.le_refl _) (Nat.le_refl _) ⟨rfl, fun q hq => hf q (by omega) (by omega), hsc.l8 hls hf, mn_cnt (tb t) N, (by have := mn_cnt_le (tb t) N; omega), (show a = N by omega) ▸ h2, c0, hc0, hmin, hcn0 N (Nat.le_refl _), ls, hls, fun d hd hW => by rw [← hcn0 d (by omega)]; exact hw d (by omega) (by rw [htb d hd]; exact hW)⟩
            · refine bj_iload_n d_Mo_topAll_154 rfl rfl ?_
              refine bj_iload_n d_Mo_topAll_155 rfl rfl ?_
              refine bj_ishr (v := ((nI t) >>> ((nI a) &&& 31))) d_Mo_topAll_156 rfl ?_
              refine bj_iconst (v := (nI 1)) d_Mo_topAll_157 (by decide) ?_
              refine bj_iand (v := (bt_n (tb t a))) d_Mo_topAll_158 (bt_shas (nI t) (by omega)) ?_
              refine bj_iconst (v := (nI 1)) d_Mo_topAll_159 (by decide) ?_
              refine bj_icmp_ne (tgt := 183) d_Mo_topAll_160 (by decide) (fun h160 => ?_) (fun h160 => ?_)
              · have hWf : tb t a = false := bfn h160
                refine bj_iinc (v := (nI (a + 1))) (L' := [some (.ref (ad 80)), some (.int (nI t)), some (.int (nI (a + 1))), z3, z4, z5]) d_Mo_topAll_183 rfl (bj_inc1 _) (by decide) rfl ?_
                refine bj_goto (tgt := 146) d_Mo_topAll_186 (by decide) ?_
                exact ih_l3 (N - (a + 1)) (by omega) (a + 1) M2 ls rfl (by omega) (by rw [← mn_cnt_f hWf]; exact h2) hls (wl_n hw hWf) hf
              · have hWt : tb t a = true := bt_n1.mp h160
                have hlt : mn_cnt (tb t) a ≤ a := mn_cnt_le _ _
                refine bj_aload_n d_Mo_topAll_163 rfl rfl ?_
                refine bj_get d_Mo_topAll_164 in_Mo rfl (by decide : 16 < 17) wf_Mo_44 rfl h2.1 rfl ?_
                refine bj_aload_n d_Mo_topAll_167 rfl rfl ?_
                refine bj_get d_Mo_topAll_168 in_Mo rfl (by decide : 15 < 17) wf_Mo_101 rfl h2.1 rfl ?_
                refine bj_iload_n d_Mo_topAll_171 rfl rfl ?_
                refine bv_iast d_Mo_topAll_172 0 rfl hls (by omega) (by first | omega | exact hz31 _ _ | exact Nat.lt_of_le_of_lt (mn_cnt_le _ _) (by omega)) (fun N1 hN1 hO1 => ?_)
                have h3 := h2.in (M' := N1) (fun q q1 q2 => hO1 q (by omega))
                refine bj_aload_n d_Mo_topAll_173 rfl rfl ?_
                refine bj_dup d_Mo_topAll_174 rfl ?_
                refine bj_get d_Mo_topAll_175 in_Mo rfl (by decide : 15 < 17) wf_Mo_101 rfl h3.1 rfl ?_
                refine bj_iconst (v := (nI 1)) d_Mo_topAll_178 (by decide) ?_
                refine bj_iadd (v := (nI ((mn_cnt (tb t) a) + 1))) d_Mo_topAll_179 (nI_add _ _) ?_
                refine bj_put d_Mo_topAll_180 in_Mo ok_Mo nm_Mo rfl (by decide : 15 < 17) wf_Mo_101 rfl rfl rfl rfl rfl (Nat.le_of_ble_eq_true rfl) h3.1 ?_
                have h5 := h3.hd (cd' := cd) (se' := se) (op' := op) (li' := nI (mn_cnt (tb t) a + 1))
                have h5l : bv_I (c 0) (va_up N1 80 (some (.inr (5, mo_F ad N cd se op (nI (mn_cnt (tb t) a + 1)))))) 92 8 (va_up ls (mn_cnt (tb t) a) (nI a)) := hN1.in (va_up_ne _ _ (by decide))
                have h5f : ∀ q, q ≠ 80 → q ≠ 92 → (va_up N1 80 (some (.inr (5, mo_F ad N cd se op (nI (mn_cnt (tb t) a + 1)))))) q = M q := fun q q1 q2 => (va_up_ne _ _ q1).trans ((hO1 q q2).trans (hf q q1 q2))
                show bj_S _ _ _ _ _ _ 0 0 _ _ [] (va_up N1 80 (some (.inr (5, mo_F ad N cd se op (nI (mn_cnt (tb t) a + 1))))))
                generalize va_up N1 80 (some (.inr (5, mo_F ad N cd se op (nI (mn_cnt (tb t) a + 1))))) = P5 at h5 h5l h5f ⊢
                refine bj_iinc (v := (nI (a + 1))) (L' := [some (.ref (ad 80)), some (.int (nI t)), some (.int (nI (a + 1))), z3, z4, z5]) d_Mo_topAll_183 rfl (bj_inc1 _) (by decide) rfl ?_
                refine bj_goto (tgt := 146) d_Mo_topAll_186 (by decide) ?_
                exact ih_l3 (N - (a + 1)) (by omega) (a + 1) P5 _ rfl (by omega) (by rw [← mn_cnt_t hWt]; exact h5) h5l (wl_y hw) h5f
        exact l3 0 P1 _ (Nat.zero_le _) hm1 (g7.in (hw1 92 (by decide))) (fun d hd => absurd hd (Nat.not_lt_zero _)) (fun q q1 q2 => hw1 q q1)
      · refine bj_iload_n d_Mo_topAll_21 rfl rfl ?_
        refine bj_csF ss_Mo_113 d_Mo_topAll_22 (t_Mo_sizeOf l D c ad M) rfl rfl (by decide) (by decide) (by decide) (Nat.le_of_ble_eq_true rfl) rfl ?_
        rw [tb_cnt hN h18]
        refine bj_iload_n d_Mo_topAll_25 rfl rfl ?_
        refine bj_csF ss_Mo_113 d_Mo_topAll_26 (t_Mo_sizeOf l D c ad M) rfl rfl (by decide) (by decide) (by decide) (Nat.le_of_ble_eq_true rfl) rfl ?_
        rw [tb_cnt hN htl.1]
        refine bj_icmp_geN (tgt := 36) d_Mo_topAll_29 (by decide) (by first | omega | exact hz31 _ _ | exact Nat.lt_of_le_of_lt (mn_cnt_le _ _) (by omega)) (by first | omega | exact hz31 _ _ | exact Nat.lt_of_le_of_lt (mn_cnt_le _ _) (by omega)) (fun h29 => ?_) (fun h29 => ?_)
        · refine bj_iconst (v := (nI 0)) d_Mo_topAll_36 (by decide) ?_
          refine bj_istore_n (L' := [some (.ref (ad 80)), some (.int (nI t)), some (.int (nI m)), some (.int (nI 0)), z4, z5]) d_Mo_topAll_37 rfl (by decide) rfl ?_
          refine bj_iconst (v := (nI 0)) d_Mo_topAll_38 (by decide) ?_
          refine bj_istore (L' := [some (.ref (ad 80)), some (.int (nI t)), some (.int (nI m)), some (.int (nI 0)), some (.int (nI 0)), z5]) d_Mo_topAll_39 (by decide) rfl ?_
          have l2 : ∀ (k : Nat), ∀ (g : Bool), ∀ (z5 : Option Value), (k ≤ 64) → (g = true ↔ (mn_cnt (tb m) N < mn_cnt (tb t) N ∧ tpk p N m k)) → bj_S (bw_G l D c) Y_Mo_topAll 1 (0, 0, 0, 0) ad (q_list c ad M N cd se op dw sg sz rk tm (fun n M' => ∃ c0, c0 < N ∧ (∀ a, a < N → mn_cnt (mt_of (nbt (fun a b => nI (p a b))) N c0) N ≤ mn_cnt (mt_of (nbt (fun a b => nI (p a b))) N a) N) ∧ n = mn_cnt (mt_of (nbt (fun a b => nI (p a b))) N c0) N ∧ wl_ok c M' (mt_of (nbt (fun a b => nI (p a b))) N c0) N)) 0 0 41 [some (.ref (ad 80)), some (.int (nI t)), some (.int (nI m)), some (.int (bt_n g)), some (.int (nI k)), z5] [] M := by
            intro k g z5
            induction hd_l2 : 64 - k using Nat.strongRecOn generalizing k g z5 with
            | ind d_l2 ih_l2 =>
              intro hk hg
              refine bj_iload d_Mo_topAll_41 rfl ?_
              refine bj_bipush (v := (nI 64)) d_Mo_topAll_43 (by decide) ?_
              refine bj_icmp_geN (tgt := 123) d_Mo_topAll_45 (by decide) (by first | omega | exact hz31 _ _ | exact Nat.lt_of_le_of_lt (mn_cnt_le _ _) (by omega)) (by first | omega | exact hz31 _ _ | exact Nat.lt_of_le_of_lt (mn_cnt_le _ _) (by omega)) (fun h45 => ?_) (fun h45 => ?_)
              · refine bj_iload_n d_Mo_topAll_123 rfl rfl ?_
                refine bj_if_eq (tgt := 131) d_Mo_topAll_124 (by decide) (fun h124 => ?_) (fun h124 => ?_)
                · have hnw : tl_ok (nbt (fun a b => nI (p a b))) N (m + 1) t := tl_n htl (fun q => by
                    have hall := (tpk_e hN hp h18).mpr q.2
                    rw [hg.mpr ⟨q.1, fun j hj => hall j (by omega)⟩] at h124
                    exact absurd h124 (by decide))
                  refine bj_iload_n d_Mo_topAll_131 rfl rfl ?_
                  refine bj_istore_n (L' := [some (.ref (ad 80)), some (.int (nI t)), some (.int (nI m)), some (.int (bt_n g)), some (.int (nI k)), z5]) d_Mo_topAll_132 rfl (by decide) rfl ?_
                  refine bj_iinc (v := (nI (m + 1))) (L' := [some (.ref (ad 80)), some (.int (nI t)), some (.int (nI (m + 1))), some (.int (bt_n g)), some (.int (nI k)), z5]) d_Mo_topAll_133 rfl (bj_inc1 _) (by decide) rfl ?_
                  refine bj_goto (tgt := 11) d_Mo_topAll_136 (by decide) ?_
                  exact ih_l1 (2 ^ N - (m + 1)) (by omega) (m + 1) t _ _ _ rfl (by omega) (by omega) hnw
                · have hg2 := hg.mp (bt_nn h124)
                  have hk64 : k = 64 := by first | omega | (rw [bt_n0.mp h49] at h124; exact absurd rfl h124)
                  have hnw : tl_ok (nbt (fun a b => nI (p a b))) N (m + 1) m := tl_y htl hm1 h18 ((tpk_e hN hp h18).mp (hk64 ▸ hg2.2)) hg2.1
                  refine bj_iload_n d_Mo_topAll_127 rfl rfl ?_
                  refine bj_goto (tgt := 132) d_Mo_topAll_128 (by decide) ?_
                  refine bj_istore_n (L' := [some (.ref (ad 80)), some (.int (nI m)), some (.int (nI m)), some (.int (bt_n g)), some (.int (nI k)), z5]) d_Mo_topAll_132 rfl (by decide) rfl ?_
                  refine bj_iinc (v := (nI (m + 1))) (L' := [some (.ref (ad 80)), some (.int (nI m)), some (.int (nI (m + 1))), some (.int (bt_n g)), some (.int (nI k)), z5]) d_Mo_topAll_133 rfl (bj_inc1 _) (by decide) rfl ?_
                  refine bj_goto (tgt := 11) d_Mo_topAll_136 (by decide) ?_
                  exact ih_l1 (2 ^ N - (m + 1)) (by omega) (m + 1) m _ _ _ rfl (by omega) (by omega) hnw
              · refine bj_iload_n d_Mo_topAll_48 rfl rfl ?_
                refine bj_if_eq (tgt := 123) d_Mo_topAll_49 (by decide) (fun h49 => ?_) (fun h49 => ?_)
                · refine bj_iload_n d_Mo_topAll_123 rfl rfl ?_
                  refine bj_if_eq (tgt := 131) d_Mo_topAll_124 (by decide) (fun h124 => ?_) (fun h124 => ?_)
                  · have hnw : tl_ok (nbt (fun a b => nI (p a b))) N (m + 1) t := tl_n htl (fun q => by
                      have hall := (tpk_e hN hp h18).mpr q.2
                      rw [hg.mpr ⟨q.1, fun j hj => hall j (by omega)⟩] at h124
                      exact absurd h124 (by decide))
                    refine bj_iload_n d_Mo_topAll_131 rfl rfl ?_
                    refine bj_istore_n (L' := [some (.ref (ad 80)), some (.int (nI t)), some (.int (nI m)), some (.int (bt_n g)), some (.int (nI k)), z5]) d_Mo_topAll_132 rfl (by decide) rfl ?_
                    refine bj_iinc (v := (nI (m + 1))) (L' := [some (.ref (ad 80)), some (.int (nI t)), some (.int (nI (m + 1))), some (.int (bt_n g)), some (.int (nI k)), z5]) d_Mo_topAll_133 rfl (bj_inc1 _) (by decide) rfl ?_
                    refine bj_goto (tgt := 11) d_Mo_topAll_136 (by decide) ?_
                    exact ih_l1 (2 ^ N - (m + 1)) (by omega) (m + 1) t _ _ _ rfl (by omega) (by omega) hnw
                  · have hg2 := hg.mp (bt_nn h124)
                    have hk64 : k = 64 := by first | omega | (rw [bt_n0.mp h49] at h124; exact absurd rfl h124)
                    have hnw : tl_ok (nbt (fun a b => nI (p a b))) N (m + 1) m := tl_y htl hm1 h18 ((tpk_e hN hp h18).mp (hk64 ▸ hg2.2)) hg2.1
                    refine bj_iload_n d_Mo_topAll_127 rfl rfl ?_
                    refine bj_goto (tgt := 132) d_Mo_topAll_128 (by decide) ?_
                    refine bj_istore_n (L' := [some (.ref (ad 80)), some (.int (nI m)), some (.int (nI m)), some (.int (bt_n g)), some (.int (nI k)), z5]) d_Mo_topAll_132 rfl (by decide) rfl ?_
                    refine bj_iinc (v := (nI (m + 1))) (L' := [some (.ref (ad 80)), some (.int (nI m)), some (.int (nI (m + 1))), some (.int (bt_n g)), some (.int (nI k)), z5]) d_Mo_topAll_133 rfl (bj_inc1 _) (by decide) rfl ?_
                    refine bj_goto (tgt := 11) d_Mo_topAll_136 (by decide) ?_
                    exact ih_l1 (2 ^ N - (m + 1)) (by omega) (m + 1) m _ _ _ rfl (by omega) (by omega) hnw
                · refine bj_iload_n d_Mo_topAll_52 rfl rfl ?_
                  refine bj_iload d_Mo_topAll_53 rfl ?_
                  refine bj_bipush (v := (nI 8)) d_Mo_topAll_55 (by decide) ?_
                  refine bj_idiv (v := (nI (k / 8))) d_Mo_topAll_57 (by decide) (pk_div (by omega) (by decide) (by decide)) ?_
                  refine bj_ishr (v := ((nI m) >>> ((nI (k / 8)) &&& 31))) d_Mo_topAll_58 rfl ?_
                  refine bj_iconst (v := (nI 1)) d_Mo_topAll_59 (by decide) ?_
                  refine bj_iand (v := (bt_n (tb m (k / 8)))) d_Mo_topAll_60 (bt_shas (nI m) (by omega)) ?_
                  refine bj_iconst (v := (nI 1)) d_Mo_topAll_61 (by decide) ?_
                  refine bj_icmp_ne (tgt := 93) d_Mo_topAll_62 (by decide) (fun h62 => ?_) (fun h62 => ?_)
                  · refine bj_iconst (v := (nI 0)) d_Mo_topAll_93 (by decide) ?_
                    refine bj_istore (L' := [some (.ref (ad 80)), some (.int (nI t)), some (.int (nI m)), some (.int (bt_n g)), some (.int (nI k)), some (.int (nI 0))]) d_Mo_topAll_94 (by decide) rfl ?_
                    refine bj_iload d_Mo_topAll_96 rfl ?_
                    refine bj_if_eqN (tgt := 111) d_Mo_topAll_98 (by decide) (by decide) (fun _ => ?_) (fun h => absurd h (by decide))
                    refine bj_iconst (v := (nI 1)) d_Mo_topAll_111 (by decide) ?_
                    refine bj_goto (tgt := 116) d_Mo_topAll_112 (by decide) ?_
                    refine bj_istore_n (L' := [some (.ref (ad 80)), some (.int (nI t)), some (.int (nI m)), some (.int (nI 1)), some (.int (nI k)), some (.int (nI 0))]) d_Mo_topAll_116 rfl (by decide) rfl ?_
                    refine bj_iinc (v := (nI (k + 1))) (L' := [some (.ref (ad 80)), some (.int (nI t)), some (.int (nI m)), some (.int (nI 1)), some (.int (nI (k + 1))), some (.int (nI 0))]) d_Mo_topAll_117 rfl (bj_inc1 _) (by decide) rfl ?_
                    refine bj_goto (tgt := 41) d_Mo_topAll_120 (by decide) ?_
                    exact ih_l2 (64 - (k + 1)) (by omega) (k + 1) true _ rfl (by omega) ⟨fun _ => ⟨(hg.mp (bt_nn h49)).1, fun j hj q1 q2 q3 => by
                      rcases Nat.lt_or_ge j k with q | q
                      · exact (hg.mp (bt_nn h49)).2 j q q1 q2 q3
                      · rw [show j = k by omega] at q1 q2 q3 ⊢
                        first | exact h108 | exact absurd (bt_n1.mpr q1) h62 | omega | (exact absurd q3 (by rw [show tb m (k % 8) = true from bt_nn h86]; decide))⟩, fun _ => rfl⟩
                  · refine bj_iload d_Mo_topAll_65 rfl ?_
                    refine bj_bipush (v := (nI 8)) d_Mo_topAll_67 (by decide) ?_
                    refine bj_irem (v := (nI (k % 8))) d_Mo_topAll_69 (by decide) (pk_rem (by omega) (by decide) (by decide)) ?_
                    refine bj_aload_n d_Mo_topAll_70 rfl rfl ?_
                    refine bj_get d_Mo_topAll_71 in_Mo rfl (by decide : 0 < 17) wf_Mo_47 rfl hm0.1 rfl ?_
                    refine bj_icmp_geN (tgt := 93) d_Mo_topAll_74 (by decide) (by first | omega | exact hz31 _ _ | exact Nat.lt_of_le_of_lt (mn_cnt_le _ _) (by omega)) (by first | omega | exact hz31 _ _ | exact Nat.lt_of_le_of_lt (mn_cnt_le _ _) (by omega)) (fun h74 => ?_) (fun h74 => ?_)
                    · refine bj_iconst (v := (nI 0)) d_Mo_topAll_93 (by decide) ?_
                      refine bj_istore (L' := [some (.ref (ad 80)), some (.int (nI t)), some (.int (nI m)), some (.int (bt_n g)), some (.int (nI k)), some (.int (nI 0))]) d_Mo_topAll_94 (by decide) rfl ?_
                      refine bj_iload d_Mo_topAll_96 rfl ?_
                      refine bj_if_eqN (tgt := 111) d_Mo_topAll_98 (by decide) (by decide) (fun _ => ?_) (fun h => absurd h (by decide))
                      refine bj_iconst (v := (nI 1)) d_Mo_topAll_111 (by decide) ?_
                      refine bj_goto (tgt := 116) d_Mo_topAll_112 (by decide) ?_
                      refine bj_istore_n (L' := [some (.ref (ad 80)), some (.int (nI t)), some (.int (nI m)), some (.int (nI 1)), some (.int (nI k)), some (.int (nI 0))]) d_Mo_topAll_116 rfl (by decide) rfl ?_
                      refine bj_iinc (v := (nI (k + 1))) (L' := [some (.ref (ad 80)), some (.int (nI t)), some (.int (nI m)), some (.int (nI 1)), some (.int (nI (k + 1))), some (.int (nI 0))]) d_Mo_topAll_117 rfl (bj_inc1 _) (by decide) rfl ?_
                      refine bj_goto (tgt := 41) d_Mo_topAll_120 (by decide) ?_
                      exact ih_l2 (64 - (k + 1)) (by omega) (k + 1) true _ rfl (by omega) ⟨fun _ => ⟨(hg.mp (bt_nn h49)).1, fun j hj q1 q2 q3 => by
                        rcases Nat.lt_or_ge j k with q | q
                        · exact (hg.mp (bt_nn h49)).2 j q q1 q2 q3
                        · rw [show j = k by omega] at q1 q2 q3 ⊢
                          first | exact h108 | exact absurd (bt_n1.mpr q1) h62 | omega | (exact absurd q3 (by rw [show tb m (k % 8) = true from bt_nn h86]; decide))⟩, fun _ => rfl⟩
                    · refine bj_iload_n d_Mo_topAll_77 rfl rfl ?_
                      refine bj_iload d_Mo_topAll_78 rfl ?_
                      refine bj_bipush (v := (nI 8)) d_Mo_topAll_80 (by decide) ?_
                      refine bj_irem (v := (nI (k % 8))) d_Mo_topAll_82 (by decide) (pk_rem (by omega) (by decide) (by decide)) ?_
                      refine bj_ishr (v := ((nI m) >>> ((nI (k % 8)) &&& 31))) d_Mo_topAll_83 rfl ?_
                      refine bj_iconst (v := (nI 1)) d_Mo_topAll_84 (by decide) ?_
                      refine bj_iand (v := (bt_n (tb m (k % 8)))) d_Mo_topAll_85 (bt_shas (nI m) (by omega)) ?_
                      refine bj_if_ne (tgt := 93) d_Mo_topAll_86 (by decide) (fun h86 => ?_) (fun h86 => ?_)
                      · refine bj_iconst (v := (nI 0)) d_Mo_topAll_93 (by decide) ?_
                        refine bj_istore (L' := [some (.ref (ad 80)), some (.int (nI t)), some (.int (nI m)), some (.int (bt_n g)), some (.int (nI k)), some (.int (nI 0))]) d_Mo_topAll_94 (by decide) rfl ?_
                        refine bj_iload d_Mo_topAll_96 rfl ?_
                        refine bj_if_eqN (tgt := 111) d_Mo_topAll_98 (by decide) (by decide) (fun _ => ?_) (fun h => absurd h (by decide))
                        refine bj_iconst (v := (nI 1)) d_Mo_topAll_111 (by decide) ?_
                        refine bj_goto (tgt := 116) d_Mo_topAll_112 (by decide) ?_
                        refine bj_istore_n (L' := [some (.ref (ad 80)), some (.int (nI t)), some (.int (nI m)), some (.int (nI 1)), some (.int (nI k)), some (.int (nI 0))]) d_Mo_topAll_116 rfl (by decide) rfl ?_
                        refine bj_iinc (v := (nI (k + 1))) (L' := [some (.ref (ad 80)), some (.int (nI t)), some (.int (nI m)), some (.int (nI 1)), some (.int (nI (k + 1))), some (.int (nI 0))]) d_Mo_topAll_117 rfl (bj_inc1 _) (by decide) rfl ?_
                        refine bj_goto (tgt := 41) d_Mo_topAll_120 (by decide) ?_
                        exact ih_l2 (64 - (k + 1)) (by omega) (k + 1) true _ rfl (by omega) ⟨fun _ => ⟨(hg.mp (bt_nn h49)).1, fun j hj q1 q2 q3 => by
                          rcases Nat.lt_or_ge j k with q | q
                          · exact (hg.mp (bt_nn h49)).2 j q q1 q2 q3
                          · rw [show j = k by omega] at q1 q2 q3 ⊢
                            first | exact h108 | exact absurd (bt_n1.mpr q1) h62 | omega | (exact absurd q3 (by rw [show tb m (k % 8) = true from bt_nn h86]; decide))⟩, fun _ => rfl⟩
                      · refine bj_iconst (v := (nI 1)) d_Mo_topAll_89 (by decide) ?_
                        refine bj_goto (tgt := 94) d_Mo_topAll_90 (by decide) ?_
                        refine bj_istore (L' := [some (.ref (ad 80)), some (.int (nI t)), some (.int (nI m)), some (.int (bt_n g)), some (.int (nI k)), some (.int (nI 1))]) d_Mo_topAll_94 (by decide) rfl ?_
                        refine bj_iload d_Mo_topAll_96 rfl ?_
                        refine bj_if_eqN (tgt := 111) d_Mo_topAll_98 (by decide) (by decide) (fun h => absurd h (by decide)) (fun _ => ?_)
                        refine bj_aload_n d_Mo_topAll_101 rfl rfl ?_
                        refine bj_get d_Mo_topAll_102 in_Mo rfl (by decide : 10 < 17) wf_Mo_28 rfl hm0.1 rfl ?_
                        refine bj_iload d_Mo_topAll_105 rfl ?_
                        refine bv_iald d_Mo_topAll_107 0 rfl hcn.2 (by omega) (by first | omega | exact hz31 _ _ | exact Nat.lt_of_le_of_lt (mn_cnt_le _ _) (by omega)) rfl ?_
                        refine bj_if_leN (tgt := 115) d_Mo_topAll_108 (by decide) (by first | omega | exact hz31 _ _ | exact Nat.lt_of_le_of_lt (mn_cnt_le _ _) (by omega)) (fun h108 => ?_) (fun h108 => ?_)
                        · refine bj_iconst (v := (nI 0)) d_Mo_topAll_115 (by decide) ?_
                          refine bj_istore_n (L' := [some (.ref (ad 80)), some (.int (nI t)), some (.int (nI m)), some (.int (nI 0)), some (.int (nI k)), some (.int (nI 1))]) d_Mo_topAll_116 rfl (by decide) rfl ?_
                          refine bj_iinc (v := (nI (k + 1))) (L' := [some (.ref (ad 80)), some (.int (nI t)), some (.int (nI m)), some (.int (nI 0)), some (.int (nI (k + 1))), some (.int (nI 1))]) d_Mo_topAll_117 rfl (bj_inc1 _) (by decide) rfl ?_
                          refine bj_goto (tgt := 41) d_Mo_topAll_120 (by decide) ?_
                          exact ih_l2 (64 - (k + 1)) (by omega) (k + 1) false _ rfl (by omega) ⟨fun q => (by cases q), fun q => by have := q.2 k (by omega) (bt_n1.mp h62) h74 (bt_n0.mp h86); omega⟩
                        · refine bj_iconst (v := (nI 1)) d_Mo_topAll_111 (by decide) ?_
                          refine bj_goto (tgt := 116) d_Mo_topAll_112 (by decide) ?_
                          refine bj_istore_n (L' := [some (.ref (ad 80)), some (.int (nI t)), some (.int (nI m)), some (.int (nI 1)), some (.int (nI k)), some (.int (nI 1))]) d_Mo_topAll_116 rfl (by decide) rfl ?_
                          refine bj_iinc (v := (nI (k + 1))) (L' := [some (.ref (ad 80)), some (.int (nI t)), some (.int (nI m)), some (.int (nI 1)), some (.int (nI (k + 1))), some (.int (nI 1))]) d_Mo_topAll_117 rfl (bj_inc1 _) (by decide) rfl ?_
                          refine bj_goto (tgt := 41) d_Mo_topAll_120 (by decide) ?_
                          exact ih_l2 (64 - (k + 1)) (by omega) (k + 1) true _ rfl (by omega) ⟨fun _ => ⟨(hg.mp (bt_nn h49)).1, fun j hj q1 q2 q3 => by
                            rcases Nat.lt_or_ge j k with q | q
                            · exact (hg.mp (bt_nn h49)).2 j q q1 q2 q3
                            · rw [show j = k by omega] at q1 q2 q3 ⊢
                              first | exact h108 | exact absurd (bt_n1.mpr q1) h62 | omega | (exact absurd q3 (by rw [show tb m (k % 8) = true from bt_nn h86]; decide))⟩, fun _ => rfl⟩
          exact l2 0 false _ (Nat.zero_le _) ⟨fun q => (by cases q), fun q => by have := q.1; omega⟩
        · refine bj_iconst (v := (nI 1)) d_Mo_topAll_32 (by decide) ?_
          refine bj_goto (tgt := 37) d_Mo_topAll_33 (by decide) ?_
          refine bj_istore_n (L' := [some (.ref (ad 80)), some (.int (nI t)), some (.int (nI m)), some (.int (nI 1)), z4, z5]) d_Mo_topAll_37 rfl (by decide) rfl ?_
          refine bj_iconst (v := (nI 0)) d_Mo_topAll_38 (by decide) ?_
          refine bj_istore (L' := [some (.ref (ad 80)), some (.int (nI t)), some (.int (nI m)), some (.int (nI 1)), some (.int (nI 0)), z5]) d_Mo_topAll_39 (by decide) rfl ?_
          have l2 : ∀ (k : Nat), ∀ (g : Bool), ∀ (z5 : Option Value), (k ≤ 64) → (g = true ↔ (mn_cnt (tb m) N < mn_cnt (tb t) N ∧ tpk p N m k)) → bj_S (bw_G l D c) Y_Mo_topAll 1 (0, 0, 0, 0) ad (q_list c ad M N cd se op dw sg sz rk tm (fun n M' => ∃ c0, c0 < N ∧ (∀ a, a < N → mn_cnt (mt_of (nbt (fun a b => nI (p a b))) N c0) N ≤ mn_cnt (mt_of (nbt (fun a b => nI (p a b))) N a) N) ∧ n = mn_cnt (mt_of (nbt (fun a b => nI (p a b))) N c0) N ∧ wl_ok c M' (mt_of (nbt (fun a b => nI (p a b))) N c0) N)) 0 0 41 [some (.ref (ad 80)), some (.int (nI t)), some (.int (nI m)), some (.int (bt_n g)), some (.int (nI k)), z5] [] M := by
            intro k g z5
            induction hd_l2 : 64 - k using Nat.strongRecOn generalizing k g z5 with
            | ind d_l2 ih_l2 =>
              intro hk hg
              refine bj_iload d_Mo_topAll_41 rfl ?_
              refine bj_bipush (v := (nI 64)) d_Mo_topAll_43 (by decide) ?_
              refine bj_icmp_geN (tgt := 123) d_Mo_topAll_45 (by decide) (by first | omega | exact hz31 _ _ | exact Nat.lt_of_le_of_lt (mn_cnt_le _ _) (by omega)) (by first | omega | exact hz31 _ _ | exact Nat.lt_of_le_of_lt (mn_cnt_le _ _) (by omega)) (fun h45 => ?_) (fun h45 => ?_)
              · refine bj_iload_n d_Mo_topAll_123 rfl rfl ?_
                refine bj_if_eq (tgt := 131) d_Mo_topAll_124 (by decide) (fun h124 => ?_) (fun h124 => ?_)
                · have hnw : tl_ok (nbt (fun a b => nI (p a b))) N (m + 1) t := tl_n htl (fun q => by
                    have hall := (tpk_e hN hp h18).mpr q.2
                    rw [hg.mpr ⟨q.1, fun j hj => hall j (by omega)⟩] at h124
                    exact absurd h124 (by decide))
                  refine bj_iload_n d_Mo_topAll_131 rfl rfl ?_
                  refine bj_istore_n (L' := [some (.ref (ad 80)), some (.int (nI t)), some (.int (nI m)), some (.int (bt_n g)), some (.int (nI k)), z5]) d_Mo_topAll_132 rfl (by decide) rfl ?_
                  refine bj_iinc (v := (nI (m + 1))) (L' := [some (.ref (ad 80)), some (.int (nI t)), some (.int (nI (m + 1))), some (.int (bt_n g)), some (.int (nI k)), z5]) d_Mo_topAll_133 rfl (bj_inc1 _) (by decide) rfl ?_
                  refine bj_goto (tgt := 11) d_Mo_topAll_136 (by decide) ?_
                  exact ih_l1 (2 ^ N - (m + 1)) (by omega) (m + 1) t _ _ _ rfl (by omega) (by omega) hnw
                · have hg2 := hg.mp (bt_nn h124)
                  have hk64 : k = 64 := by first | omega | (rw [bt_n0.mp h49] at h124; exact absurd rfl h124)
                  have hnw : tl_ok (nbt (fun a b => nI (p a b))) N (m + 1) m := tl_y htl hm1 h18 ((tpk_e hN hp h18).mp (hk64 ▸ hg2.2)) hg2.1
                  refine bj_iload_n d_Mo_topAll_127 rfl rfl ?_
                  refine bj_goto (tgt := 132) d_Mo_topAll_128 (by decide) ?_
                  refine bj_istore_n (L' := [some (.ref (ad 80)), some (.int (nI m)), some (.int (nI m)), some (.int (bt_n g)), some (.int (nI k)), z5]) d_Mo_topAll_132 rfl (by decide) rfl ?_
                  refine bj_iinc (v := (nI (m + 1))) (L' := [some (.ref (ad 80)), some (.int (nI m)), some (.int (nI (m + 1))), some (.int (bt_n g)), some (.int (nI k)), z5]) d_Mo_topAll_133 rfl (bj_inc1 _) (by decide) rfl ?_
                  refine bj_goto (tgt := 11) d_Mo_topAll_136 (by decide) ?_
                  exact ih_l1 (2 ^ N - (m + 1)) (by omega) (m + 1) m _ _ _ rfl (by omega) (by omega) hnw
              · refine bj_iload_n d_Mo_topAll_48 rfl rfl ?_
                refine bj_if_eq (tgt := 123) d_Mo_topAll_49 (by decide) (fun h49 => ?_) (fun h49 => ?_)
                · refine bj_iload_n d_Mo_topAll_123 rfl rfl ?_
                  refine bj_if_eq (tgt := 131) d_Mo_topAll_124 (by decide) (fun h124 => ?_) (fun h124 => ?_)
                  · have hnw : tl_ok (nbt (fun a b => nI (p a b))) N (m + 1) t := tl_n htl (fun q => by
                      have hall := (tpk_e hN hp h18).mpr q.2
                      rw [hg.mpr ⟨q.1, fun j hj => hall j (by omega)⟩] at h124
                      exact absurd h124 (by decide))
                    refine bj_iload_n d_Mo_topAll_131 rfl rfl ?_
                    refine bj_istore_n (L' := [some (.ref (ad 80)), some (.int (nI t)), some (.int (nI m)), some (.int (bt_n g)), some (.int (nI k)), z5]) d_Mo_topAll_132 rfl (by decide) rfl ?_
                    refine bj_iinc (v := (nI (m + 1))) (L' := [some (.ref (ad 80)), some (.int (nI t)), some (.int (nI (m + 1))), some (.int (bt_n g)), some (.int (nI k)), z5]) d_Mo_topAll_133 rfl (bj_inc1 _) (by decide) rfl ?_
                    refine bj_goto (tgt := 11) d_Mo_topAll_136 (by decide) ?_
                    exact ih_l1 (2 ^ N - (m + 1)) (by omega) (m + 1) t _ _ _ rfl (by omega) (by omega) hnw
                  · have hg2 := hg.mp (bt_nn h124)
                    have hk64 : k = 64 := by first | omega | (rw [bt_n0.mp h49] at h124; exact absurd rfl h124)
                    have hnw : tl_ok (nbt (fun a b => nI (p a b))) N (m + 1) m := tl_y htl hm1 h18 ((tpk_e hN hp h18).mp (hk64 ▸ hg2.2)) hg2.1
                    refine bj_iload_n d_Mo_topAll_127 rfl rfl ?_
                    refine bj_goto (tgt := 132) d_Mo_topAll_128 (by decide) ?_
                    refine bj_istore_n (L' := [some (.ref (ad 80)), some (.int (nI m)), some (.int (nI m)), some (.int (bt_n g)), some (.int (nI k)), z5]) d_Mo_topAll_132 rfl (by decide) rfl ?_
                    refine bj_iinc (v := (nI (m + 1))) (L' := [some (.ref (ad 80)), some (.int (nI m)), some (.int (nI (m + 1))), some (.int (bt_n g)), some (.int (nI k)), z5]) d_Mo_topAll_133 rfl (bj_inc1 _) (by decide) rfl ?_
                    refine bj_goto (tgt := 11) d_Mo_topAll_136 (by decide) ?_
                    exact ih_l1 (2 ^ N - (m + 1)) (by omega) (m + 1) m _ _ _ rfl (by omega) (by omega) hnw
                · refine bj_iload_n d_Mo_topAll_52 rfl rfl ?_
                  refine bj_iload d_Mo_topAll_53 rfl ?_
                  refine bj_bipush (v := (nI 8)) d_Mo_topAll_55 (by decide) ?_
                  refine bj_idiv (v := (nI (k / 8))) d_Mo_topAll_57 (by decide) (pk_div (by omega) (by decide) (by decide)) ?_
                  refine bj_ishr (v := ((nI m) >>> ((nI (k / 8)) &&& 31))) d_Mo_topAll_58 rfl ?_
                  refine bj_iconst (v := (nI 1)) d_Mo_topAll_59 (by decide) ?_
                  refine bj_iand (v := (bt_n (tb m (k / 8)))) d_Mo_topAll_60 (bt_shas (nI m) (by omega)) ?_
                  refine bj_iconst (v := (nI 1)) d_Mo_topAll_61 (by decide) ?_
                  refine bj_icmp_ne (tgt := 93) d_Mo_topAll_62 (by decide) (fun h62 => ?_) (fun h62 => ?_)
                  · refine bj_iconst (v := (nI 0)) d_Mo_topAll_93 (by decide) ?_
                    refine bj_istore (L' := [some (.ref (ad 80)), some (.int (nI t)), some (.int (nI m)), some (.int (bt_n g)), some (.int (nI k)), some (.int (nI 0))]) d_Mo_topAll_94 (by decide) rfl ?_
                    refine bj_iload d_Mo_topAll_96 rfl ?_
                    refine bj_if_eqN (tgt := 111) d_Mo_topAll_98 (by decide) (by decide) (fun _ => ?_) (fun h => absurd h (by decide))
                    refine bj_iconst (v := (nI 1)) d_Mo_topAll_111 (by decide) ?_
                    refine bj_goto (tgt := 116) d_Mo_topAll_112 (by decide) ?_
                    refine bj_istore_n (L' := [some (.ref (ad 80)), some (.int (nI t)), some (.int (nI m)), some (.int (nI 1)), some (.int (nI k)), some (.int (nI 0))]) d_Mo_topAll_116 rfl (by decide) rfl ?_
                    refine bj_iinc (v := (nI (k + 1))) (L' := [some (.ref (ad 80)), some (.int (nI t)), some (.int (nI m)), some (.int (nI 1)), some (.int (nI (k + 1))), some (.int (nI 0))]) d_Mo_topAll_117 rfl (bj_inc1 _) (by decide) rfl ?_
                    refine bj_goto (tgt := 41) d_Mo_topAll_120 (by decide) ?_
                    exact ih_l2 (64 - (k + 1)) (by omega) (k + 1) true _ rfl (by omega) ⟨fun _ => ⟨(hg.mp (bt_nn h49)).1, fun j hj q1 q2 q3 => by
                      rcases Nat.lt_or_ge j k with q | q
                      · exact (hg.mp (bt_nn h49)).2 j q q1 q2 q3
                      · rw [show j = k by omega] at q1 q2 q3 ⊢
                        first | exact h108 | exact absurd (bt_n1.mpr q1) h62 | omega | (exact absurd q3 (by rw [show tb m (k % 8) = true from bt_nn h86]; decide))⟩, fun _ => rfl⟩
                  · refine bj_iload d_Mo_topAll_65 rfl ?_
                    refine bj_bipush (v := (nI 8)) d_Mo_topAll_67 (by decide) ?_
                    refine bj_irem (v := (nI (k % 8))) d_Mo_topAll_69 (by decide) (pk_rem (by omega) (by decide) (by decide)) ?_
                    refine bj_aload_n d_Mo_topAll_70 rfl rfl ?_
                    refine bj_get d_Mo_topAll_71 in_Mo rfl (by decide : 0 < 17) wf_Mo_47 rfl hm0.1 rfl ?_
                    refine bj_icmp_geN (tgt := 93) d_Mo_topAll_74 (by decide) (by first | omega | exact hz31 _ _ | exact Nat.lt_of_le_of_lt (mn_cnt_le _ _) (by omega)) (by first | omega | exact hz31 _ _ | exact Nat.lt_of_le_of_lt (mn_cnt_le _ _) (by omega)) (fun h74 => ?_) (fun h74 => ?_)
                    · refine bj_iconst (v := (nI 0)) d_Mo_topAll_93 (by decide) ?_
                      refine bj_istore (L' := [some (.ref (ad 80)), some (.int (nI t)), some (.int (nI m)), some (.int (bt_n g)), some (.int (nI k)), some (.int (nI 0))]) d_Mo_topAll_94 (by decide) rfl ?_
                      refine bj_iload d_Mo_topAll_96 rfl ?_
                      refine bj_if_eqN (tgt := 111) d_Mo_topAll_98 (by decide) (by decide) (fun _ => ?_) (fun h => absurd h (by decide))
                      refine bj_iconst (v := (nI 1)) d_Mo_topAll_111 (by decide) ?_
                      refine bj_goto (tgt := 116) d_Mo_topAll_112 (by decide) ?_
                      refine bj_istore_n (L' := [some (.ref (ad 80)), some (.int (nI t)), some (.int (nI m)), some (.int (nI 1)), some (.int (nI k)), some (.int (nI 0))]) d_Mo_topAll_116 rfl (by decide) rfl ?_
                      refine bj_iinc (v := (nI (k + 1))) (L' := [some (.ref (ad 80)), some (.int (nI t)), some (.int (nI m)), some (.int (nI 1)), some (.int (nI (k + 1))), some (.int (nI 0))]) d_Mo_topAll_117 rfl (bj_inc1 _) (by decide) rfl ?_
                      refine bj_goto (tgt := 41) d_Mo_topAll_120 (by decide) ?_
                      exact ih_l2 (64 - (k + 1)) (by omega) (k + 1) true _ rfl (by omega) ⟨fun _ => ⟨(hg.mp (bt_nn h49)).1, fun j hj q1 q2 q3 => by
                        rcases Nat.lt_or_ge j k with q | q
                        · exact (hg.mp (bt_nn h49)).2 j q q1 q2 q3
                        · rw [show j = k by omega] at q1 q2 q3 ⊢
                          first | exact h108 | exact absurd (bt_n1.mpr q1) h62 | omega | (exact absurd q3 (by rw [show tb m (k % 8) = true from bt_nn h86]; decide))⟩, fun _ => rfl⟩
                    · refine bj_iload_n d_Mo_topAll_77 rfl rfl ?_
                      refine bj_iload d_Mo_topAll_78 rfl ?_
                      refine bj_bipush (v := (nI 8)) d_Mo_topAll_80 (by decide) ?_
                      refine bj_irem (v := (nI (k % 8))) d_Mo_topAll_82 (by decide) (pk_rem (by omega) (by decide) (by decide)) ?_
                      refine bj_ishr (v := ((nI m) >>> ((nI (k % 8)) &&& 31))) d_Mo_topAll_83 rfl ?_
                      refine bj_iconst (v := (nI 1)) d_Mo_topAll_84 (by decide) ?_
                      refine bj_iand (v := (bt_n (tb m (k % 8)))) d_Mo_topAll_85 (bt_shas (nI m) (by omega)) ?_
                      refine bj_if_ne (tgt := 93) d_Mo_topAll_86 (by decide) (fun h86 => ?_) (fun h86 => ?_)
                      · refine bj_iconst (v := (nI 0)) d_Mo_topAll_93 (by decide) ?_
                        refine bj_istore (L' := [some (.ref (ad 80)), some (.int (nI t)), some (.int (nI m)), some (.int (bt_n g)), some (.int (nI k)), some (.int (nI 0))]) d_Mo_topAll_94 (by decide) rfl ?_
                        refine bj_iload d_Mo_topAll_96 rfl ?_
                        refine bj_if_eqN (tgt := 111) d_Mo_topAll_98 (by decide) (by decide) (fun _ => ?_) (fun h => absurd h (by decide))
                        refine bj_iconst (v := (nI 1)) d_Mo_topAll_111 (by decide) ?_
                        refine bj_goto (tgt := 116) d_Mo_topAll_112 (by decide) ?_
                        refine bj_istore_n (L' := [some (.ref (ad 80)), some (.int (nI t)), some (.int (nI m)), some (.int (nI 1)), some (.int (nI k)), some (.int (nI 0))]) d_Mo_topAll_116 rfl (by decide) rfl ?_
                        refine bj_iinc (v := (nI (k + 1))) (L' := [some (.ref (ad 80)), some (.int (nI t)), some (.int (nI m)), some (.int (nI 1)), some (.int (nI (k + 1))), some (.int (nI 0))]) d_Mo_topAll_117 rfl (bj_inc1 _) (by decide) rfl ?_
                        refine bj_goto (tgt := 41) d_Mo_topAll_120 (by decide) ?_
                        exact ih_l2 (64 - (k + 1)) (by omega) (k + 1) true _ rfl (by omega) ⟨fun _ => ⟨(hg.mp (bt_nn h49)).1, fun j hj q1 q2 q3 => by
                          rcases Nat.lt_or_ge j k with q | q
                          · exact (hg.mp (bt_nn h49)).2 j q q1 q2 q3
                          · rw [show j = k by omega] at q1 q2 q3 ⊢
                            first | exact h108 | exact absurd (bt_n1.mpr q1) h62 | omega | (exact absurd q3 (by rw [show tb m (k % 8) = true from bt_nn h86]; decide))⟩, fun _ => rfl⟩
                      · refine bj_iconst (v := (nI 1)) d_Mo_topAll_89 (by decide) ?_
                        refine bj_goto (tgt := 94) d_Mo_topAll_90 (by decide) ?_
                        refine bj_istore (L' := [some (.ref (ad 80)), some (.int (nI t)), some (.int (nI m)), some (.int (bt_n g)), some (.int (nI k)), some (.int (nI 1))]) d_Mo_topAll_94 (by decide) rfl ?_
                        refine bj_iload d_Mo_topAll_96 rfl ?_
                        refine bj_if_eqN (tgt := 111) d_Mo_topAll_98 (by decide) (by decide) (fun h => absurd h (by decide)) (fun _ => ?_)
                        refine bj_aload_n d_Mo_topAll_101 rfl rfl ?_
                        refine bj_get d_Mo_topAll_102 in_Mo rfl (by decide : 10 < 17) wf_Mo_28 rfl hm0.1 rfl ?_
                        refine bj_iload d_Mo_topAll_105 rfl ?_
                        refine bv_iald d_Mo_topAll_107 0 rfl hcn.2 (by omega) (by first | omega | exact hz31 _ _ | exact Nat.lt_of_le_of_lt (mn_cnt_le _ _) (by omega)) rfl ?_
                        refine bj_if_leN (tgt := 115) d_Mo_topAll_108 (by decide) (by first | omega | exact hz31 _ _ | exact Nat.lt_of_le_of_lt (mn_cnt_le _ _) (by omega)) (fun h108 => ?_) (fun h108 => ?_)
                        · refine bj_iconst (v := (nI 0)) d_Mo_topAll_115 (by decide) ?_
                          refine bj_istore_n (L' := [some (.ref (ad 80)), some (.int (nI t)), some (.int (nI m)), some (.int (nI 0)), some (.int (nI k)), some (.int (nI 1))]) d_Mo_topAll_116 rfl (by decide) rfl ?_
                          refine bj_iinc (v := (nI (k + 1))) (L' := [some (.ref (ad 80)), some (.int (nI t)), some (.int (nI m)), some (.int (nI 0)), some (.int (nI (k + 1))), some (.int (nI 1))]) d_Mo_topAll_117 rfl (bj_inc1 _) (by decide) rfl ?_
                          refine bj_goto (tgt := 41) d_Mo_topAll_120 (by decide) ?_
                          exact ih_l2 (64 - (k + 1)) (by omega) (k + 1) false _ rfl (by omega) ⟨fun q => (by cases q), fun q => by have := q.2 k (by omega) (bt_n1.mp h62) h74 (bt_n0.mp h86); omega⟩
                        · refine bj_iconst (v := (nI 1)) d_Mo_topAll_111 (by decide) ?_
                          refine bj_goto (tgt := 116) d_Mo_topAll_112 (by decide) ?_
                          refine bj_istore_n (L' := [some (.ref (ad 80)), some (.int (nI t)), some (.int (nI m)), some (.int (nI 1)), some (.int (nI k)), some (.int (nI 1))]) d_Mo_topAll_116 rfl (by decide) rfl ?_
                          refine bj_iinc (v := (nI (k + 1))) (L' := [some (.ref (ad 80)), some (.int (nI t)), some (.int (nI m)), some (.int (nI 1)), some (.int (nI (k + 1))), some (.int (nI 1))]) d_Mo_topAll_117 rfl (bj_inc1 _) (by decide) rfl ?_
                          refine bj_goto (tgt := 41) d_Mo_topAll_120 (by decide) ?_
                          exact ih_l2 (64 - (k + 1)) (by omega) (k + 1) true _ rfl (by omega) ⟨fun _ => ⟨(hg.mp (bt_nn h49)).1, fun j hj q1 q2 q3 => by
                            rcases Nat.lt_or_ge j k with q | q
                            · exact (hg.mp (bt_nn h49)).2 j q q1 q2 q3
                            · rw [show j = k by omega] at q1 q2 q3 ⊢
                              first | exact h108 | exact absurd (bt_n1.mpr q1) h62 | omega | (exact absurd q3 (by rw [show tb m (k % 8) = true from bt_nn h86]; decide))⟩, fun _ => rfl⟩
          exact l2 0 true _ (Nat.zero_le _) ⟨fun _ => ⟨h29, fun j hj => absurd hj (Nat.not_lt_zero _)⟩, fun _ => rfl⟩
  exact l1 1 (2 ^ N - 1) _ _ _ (Nat.le_refl _) (Nat.one_le_two_pow) (tl_0 hN1 hN)
end MA
