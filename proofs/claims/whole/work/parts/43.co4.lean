/-! Count.notBeatenBy, beatingSetAround (walks by gen/m_co4.py) -/
section C4
/-- the set of those below n for which p holds -/
def bm (p : Nat → Bool) : Nat → Int32
  | 0 => nI 0
  | n + 1 => if p n = true then bm p n ||| ((nI 1) <<< ((nI n) &&& 31)) else bm p n
theorem bm_s {p : Nat → Bool} {n : Nat} (h : p n = true) : bm p n ||| ((nI 1) <<< ((nI n) &&& 31)) = bm p (n + 1) := by rw [bm, if_pos h]
theorem bm_n {p : Nat → Bool} {n : Nat} (h : p n = false) : bm p (n + 1) = bm p n := by rw [bm, if_neg (by rw [h]; decide)]
theorem bt_nI0 (i : Nat) : bt (nI 0) i = false := b_0 i
theorem bt_one' {c i : Nat} (hc : c < 32) (hi : i < 32) : bt ((nI 1) <<< ((nI c) &&& 31)) i = decide (i = c) := bt_one hc hi
theorem bm_bt (p : Nat → Bool) {i : Nat} (hi : i < 32) : ∀ n, n ≤ 32 → bt (bm p n) i = (decide (i < n) && p i)
  | 0, _ => by rw [bm, bt_nI0]; simp
  | n + 1, h => by
    have ih := bm_bt p hi n (by omega)
    by_cases e : p n = true
    · rw [bm, if_pos e, b_or, ih, bt_one' (by omega) hi]
      by_cases e2 : i = n
      · subst e2; simp [e]
      · by_cases e3 : i < n
        · simp [e2, e3]; omega
        · simp [e2, e3]; omega
    · rw [bm, if_neg e, ih]
      by_cases e2 : i = n
      · subst e2; simp [e]
      · by_cases e3 : i < n
        · simp [e3]; omega
        · simp [e3]; omega
/-- whom a does not beat -/
def nbt (P : Nat → Nat → Int32) (a b : Nat) : Bool := decide (dir P a b = 0)
variable (l : Launch) (D : va_G) (c : Nat → ClassId) (ad : Nat → Nat) (M : bj_M)
set_option maxRecDepth 100000 in
set_option maxHeartbeats 4000000 in
/-- notBeatenBy -/
theorem t_Co_notBeatenBy {k N a : Nat} {vs : Int32} {P : Nat → Nat → Int32} (h : co_ok c ad M k N vs P) (hN : N ≤ 8) (ha : a < N) : bj_T (bw_G l D c) Y_Co_notBeatenBy 1 (0, 0, 0, 0) ad (bj_fn (bm (nbt P a) N) M) [.ref (ad k), .int (nI a)] M := by
  show bj_S _ _ _ _ _ _ 0 0 0 [some (.ref (ad k)), some (.int (nI a)), none, none] [] M
  refine bj_iconst (v := (nI 0)) d_Co_notBeatenBy_0 (by decide) ?_
  refine bj_istore_n (L' := [some (.ref (ad k)), some (.int (nI a)), some (.int (nI 0)), none]) d_Co_notBeatenBy_1 rfl (by decide) rfl ?_
  refine bj_iconst (v := (nI 0)) d_Co_notBeatenBy_2 (by decide) ?_
  refine bj_istore_n (L' := [some (.ref (ad k)), some (.int (nI a)), some (.int (nI 0)), some (.int (nI 0))]) d_Co_notBeatenBy_3 rfl (by decide) rfl ?_
  have lp : ∀ (b0 : Nat), (b0 ≤ N) → bj_S (bw_G l D c) Y_Co_notBeatenBy 1 (0, 0, 0, 0) ad (bj_fn (bm (nbt P a) N) M) 0 0 4 [some (.ref (ad k)), some (.int (nI a)), some (.int (bm (nbt P a) b0)), some (.int (nI b0))] [] M := by
    intro b0
    induction hd_lp : N - b0 using Nat.strongRecOn generalizing b0 with
    | ind d_lp ih_lp =>
      intro hb0
      refine bj_iload_n d_Co_notBeatenBy_4 rfl rfl ?_
      refine bj_aload_n d_Co_notBeatenBy_5 rfl rfl ?_
      refine bj_get d_Co_notBeatenBy_6 in_Co rfl (by decide : 0 < 3) wf_Co_9 rfl h.1 rfl ?_
      refine bj_icmp_geN (tgt := 33) d_Co_notBeatenBy_9 (by decide) (by omega) (by omega) (fun h9 => ?_) (fun h9 => ?_)
      · refine bj_iload_n d_Co_notBeatenBy_33 rfl rfl ?_
        exact bj_iret d_Co_notBeatenBy_34 rfl rfl (Nat.le_refl _) (Nat.le_refl _) ⟨by rw [show N = b0 by omega], rfl⟩
      · refine bj_aload_n d_Co_notBeatenBy_12 rfl rfl ?_
        refine bj_iload_n d_Co_notBeatenBy_13 rfl rfl ?_
        refine bj_iload_n d_Co_notBeatenBy_14 rfl rfl ?_
        refine bj_cvF sv_Co_53 d_Co_notBeatenBy_15 (t_Co_direct l D c ad M h hN ha (by omega)) rfl rfl (by decide) (by decide) (by decide) (Nat.le_of_ble_eq_true rfl) rfl h.1 rfl rfl ?_
        refine bj_if_ne (tgt := 27) d_Co_notBeatenBy_18 (by decide) (fun h18 => ?_) (fun h18 => ?_)
        · have e : nbt P a b0 = false := decide_eq_false h18
          refine bj_iinc (v := (nI (b0 + 1))) (L' := [some (.ref (ad k)), some (.int (nI a)), some (.int (bm (nbt P a) b0)), some (.int (nI (b0 + 1)))]) d_Co_notBeatenBy_27 rfl (bj_inc1 _) (by decide) rfl ?_
          refine bj_goto (tgt := 4) d_Co_notBeatenBy_30 (by decide) ?_
          rw [← bm_n e]
          exact ih_lp (N - (b0 + 1)) (by omega) (b0 + 1) rfl (by omega)
        · have e : nbt P a b0 = true := decide_eq_true h18
          refine bj_iload_n d_Co_notBeatenBy_21 rfl rfl ?_
          refine bj_iconst (v := (nI 1)) d_Co_notBeatenBy_22 (by decide) ?_
          refine bj_iload_n d_Co_notBeatenBy_23 rfl rfl ?_
          refine bj_ishl (v := ((nI 1) <<< ((nI b0) &&& 31))) d_Co_notBeatenBy_24 rfl ?_
          refine bj_ior (v := (bm (nbt P a) (b0 + 1))) d_Co_notBeatenBy_25 (bm_s e) ?_
          refine bj_istore_n (L' := [some (.ref (ad k)), some (.int (nI a)), some (.int (bm (nbt P a) (b0 + 1))), some (.int (nI b0))]) d_Co_notBeatenBy_26 rfl (by decide) rfl ?_
          refine bj_iinc (v := (nI (b0 + 1))) (L' := [some (.ref (ad k)), some (.int (nI a)), some (.int (bm (nbt P a) (b0 + 1))), some (.int (nI (b0 + 1)))]) d_Co_notBeatenBy_27 rfl (bj_inc1 _) (by decide) rfl ?_
          refine bj_goto (tgt := 4) d_Co_notBeatenBy_30 (by decide) ?_
          exact ih_lp (N - (b0 + 1)) (by omega) (b0 + 1) rfl (by omega)
  exact lp 0 (Nat.zero_le _)
/-- a set that grows towards all that must be members: what k rounds give stands, and of round k + 1 what comes by those below a0 -/
def bs_in (P : Nat → Nat → Int32) (N a k a0 : Nat) (x : Int32) : Prop := (∀ i, i < 32 → bt x i = true → i < N ∧ mt_of (nbt P) N a i = true) ∧ (∀ i, i < N → mn_nr (fun x y => nbt P y x) N a k i = true → bt x i = true) ∧ ∀ y, y < a0 → y < N → mn_nr (fun x y => nbt P y x) N a k y = true → ∀ i, i < N → nbt P y i = true → bt x i = true
theorem bs_0 {P : Nat → Nat → Int32} {N a : Nat} (hN : N ≤ 8) (ha : a < N) : bs_in P N a 0 0 ((nI 1) <<< ((nI a) &&& 31)) := by
  refine ⟨fun i hi h => ?_, fun i hi h => ?_, fun y hy => absurd hy (Nat.not_lt_zero _)⟩
  · rw [bt_one' (by omega) hi] at h
    have e : i = a := of_decide_eq_true h
    subst e
    exact ⟨ha, mt_of_self⟩
  · have e := mn_nr_0.mp h
    subst e
    rw [bt_one' (by omega) (by omega)]
    exact decide_eq_true rfl
theorem bs_no {P : Nat → Nat → Int32} {N a k a0 : Nat} {x : Int32} (h : bs_in P N a k a0 x) (hn : bt x a0 = false) : bs_in P N a k (a0 + 1) x := by
  refine ⟨h.1, h.2.1, fun y hy hyN hk i hi hr => ?_⟩
  by_cases e : y = a0
  · subst e
    have := h.2.1 y hyN hk
    rw [hn] at this
    cases this
  · exact h.2.2 y (by omega) hyN hk i hi hr
theorem bs_yes {P : Nat → Nat → Int32} {N a k a0 : Nat} {x : Int32} (h : bs_in P N a k a0 x) (hN : N ≤ 8) (ha : a < N) (h0 : a0 < N) (hy : bt x a0 = true) : bs_in P N a k (a0 + 1) (x ||| bm (nbt P a0) N) := by
  refine ⟨fun i hi hb => ?_, fun i hi hb => ?_, fun y hy2 hyN hk i hi hr => ?_⟩
  · rw [b_or, bm_bt _ hi _ (by omega)] at hb
    by_cases e : bt x i = true
    · exact h.1 i hi e
    · simp [e] at hb
      exact ⟨hb.1, mt_of_cl ha a0 i h0 hb.1 (h.1 a0 (by omega) hy).2 hb.2⟩
  · rw [b_or, h.2.1 i hi hb]
    rfl
  · rw [b_or, bm_bt _ (by omega) _ (by omega)]
    by_cases e : y = a0
    · subst e
      simp [hr, hi]
    · rw [h.2.2 y (by omega) hyN hk i hi hr]
      rfl
theorem bs_next {P : Nat → Nat → Int32} {N a k a0 : Nat} {x : Int32} (h : bs_in P N a k a0 x) (e9 : a0 = N) : bs_in P N a (k + 1) 0 x := by
  subst e9
  refine ⟨h.1, fun i hi hb => ?_, fun y hy => absurd hy (Nat.not_lt_zero _)⟩
  rcases mn_nr_s.mp hb with h1 | ⟨y, hy, h1, h2⟩
  · exact h.2.1 i hi h1
  · exact h.2.2 y hy hy h2 i hi h1
theorem bs_end {P : Nat → Nat → Int32} {N a r : Nat} {x : Int32} (h : bs_in P N a r 0 x) (e9 : r = N) (hN : N ≤ 8) (ha : a < N) : x = bm (mt_of (nbt P) N a) N := by
  rw [e9] at h
  apply b_ext
  intro i hi
  rw [bm_bt _ hi _ (by omega)]
  cases hx : bt x i with
  | true =>
    have h1 := h.1 i hi hx
    simp [h1.1, h1.2]
  | false =>
    by_cases e : i < N
    · cases h2 : mt_of (nbt P) N a i with
      | false => simp
      | true =>
        have h3 := h.2.1 i e (mn_nr_le (Nat.sub_le N 1) h2)
        rw [hx] at h3
        cases h3
    · simp [e]
set_option maxRecDepth 100000 in
set_option maxHeartbeats 4000000 in
/-- beatingSetAround -/
theorem t_Co_beatingSetAround {k N a : Nat} {vs : Int32} {P : Nat → Nat → Int32} (h : co_ok c ad M k N vs P) (hN : N ≤ 8) (ha : a < N) : bj_T (bw_G l D c) Y_Co_beatingSetAround 2 (0, 0, 0, 0) ad (bj_fn (bm (mt_of (nbt P) N a) N) M) [.ref (ad k), .int (nI a)] M := by
  show bj_S _ _ _ _ _ _ 0 0 0 [some (.ref (ad k)), some (.int (nI a)), none, none, none] [] M
  refine bj_iconst (v := (nI 1)) d_Co_beatingSetAround_0 (by decide) ?_
  refine bj_iload_n d_Co_beatingSetAround_1 rfl rfl ?_
  refine bj_ishl (v := ((nI 1) <<< ((nI a) &&& 31))) d_Co_beatingSetAround_2 rfl ?_
  refine bj_istore_n (L' := [some (.ref (ad k)), some (.int (nI a)), some (.int ((nI 1) <<< ((nI a) &&& 31))), none, none]) d_Co_beatingSetAround_3 rfl (by decide) rfl ?_
  refine bj_iconst (v := (nI 0)) d_Co_beatingSetAround_4 (by decide) ?_
  refine bj_istore_n (L' := [some (.ref (ad k)), some (.int (nI a)), some (.int ((nI 1) <<< ((nI a) &&& 31))), some (.int (nI 0)), none]) d_Co_beatingSetAround_5 rfl (by decide) rfl ?_
  have lp : ∀ (r : Nat), ∀ (x : Int32), ∀ (z : Option Value), (r ≤ N) → (bs_in P N a r 0 x) → bj_S (bw_G l D c) Y_Co_beatingSetAround 2 (0, 0, 0, 0) ad (bj_fn (bm (mt_of (nbt P) N a) N) M) 0 0 6 [some (.ref (ad k)), some (.int (nI a)), some (.int x), some (.int (nI r)), z] [] M := by
    intro r x z
    induction hd_lp : N - r using Nat.strongRecOn generalizing r x z with
    | ind d_lp ih_lp =>
      intro hr hs
      refine bj_iload_n d_Co_beatingSetAround_6 rfl rfl ?_
      refine bj_aload_n d_Co_beatingSetAround_7 rfl rfl ?_
      refine bj_get d_Co_beatingSetAround_8 in_Co rfl (by decide : 0 < 3) wf_Co_9 rfl h.1 rfl ?_
      refine bj_icmp_geN (tgt := 56) d_Co_beatingSetAround_11 (by decide) (by omega) (by omega) (fun h11 => ?_) (fun h11 => ?_)
      · refine bj_iload_n d_Co_beatingSetAround_56 rfl rfl ?_
        exact bj_iret d_Co_beatingSetAround_57 rfl rfl (Nat.le_refl _) (Nat.le_refl _) ⟨by rw [bs_end hs (by omega) hN ha], rfl⟩
      · refine bj_iconst (v := (nI 0)) d_Co_beatingSetAround_14 (by decide) ?_
        refine bj_istore (L' := [some (.ref (ad k)), some (.int (nI a)), some (.int x), some (.int (nI r)), some (.int (nI 0))]) d_Co_beatingSetAround_15 (by decide) rfl ?_
        have inn : ∀ (a0 : Nat), ∀ (y : Int32), (a0 ≤ N) → (bs_in P N a r a0 y) → bj_S (bw_G l D c) Y_Co_beatingSetAround 2 (0, 0, 0, 0) ad (bj_fn (bm (mt_of (nbt P) N a) N) M) 0 0 17 [some (.ref (ad k)), some (.int (nI a)), some (.int y), some (.int (nI r)), some (.int (nI a0))] [] M := by
          intro a0 y
          induction hd_in : N - a0 using Nat.strongRecOn generalizing a0 y with
          | ind d_in ih_in =>
            intro ha0 hs2
            refine bj_iload d_Co_beatingSetAround_17 rfl ?_
            refine bj_aload_n d_Co_beatingSetAround_19 rfl rfl ?_
            refine bj_get d_Co_beatingSetAround_20 in_Co rfl (by decide : 0 < 3) wf_Co_9 rfl h.1 rfl ?_
            refine bj_icmp_geN (tgt := 50) d_Co_beatingSetAround_23 (by decide) (by omega) (by omega) (fun h23 => ?_) (fun h23 => ?_)
            · refine bj_iinc (v := (nI (r + 1))) (L' := [some (.ref (ad k)), some (.int (nI a)), some (.int y), some (.int (nI (r + 1))), some (.int (nI a0))]) d_Co_beatingSetAround_50 rfl (bj_inc1 _) (by decide) rfl ?_
              refine bj_goto (tgt := 6) d_Co_beatingSetAround_53 (by decide) ?_
              exact ih_lp (N - (r + 1)) (by omega) (r + 1) y _ rfl (by omega) (bs_next hs2 (by omega))
            · refine bj_iload_n d_Co_beatingSetAround_26 rfl rfl ?_
              refine bj_iload d_Co_beatingSetAround_27 rfl ?_
              refine bj_cnF sn_Co_56 d_Co_beatingSetAround_29 (t_Of_has l D c ad M (by omega)) rfl rfl (by decide) (by decide) (by decide) (Nat.le_of_ble_eq_true rfl) rfl ?_
              refine bj_if_eq (tgt := 44) d_Co_beatingSetAround_32 (by decide) (fun h32 => ?_) (fun h32 => ?_)
              · have e := bt_n0.mp h32
                refine bj_iinc (v := (nI (a0 + 1))) (L' := [some (.ref (ad k)), some (.int (nI a)), some (.int y), some (.int (nI r)), some (.int (nI (a0 + 1)))]) d_Co_beatingSetAround_44 rfl (bj_inc1 _) (by decide) rfl ?_
                refine bj_goto (tgt := 17) d_Co_beatingSetAround_47 (by decide) ?_
                exact ih_in (N - (a0 + 1)) (by omega) (a0 + 1) _ rfl (by omega) (bs_no hs2 e)
              · have e := bt_nn h32
                refine bj_iload_n d_Co_beatingSetAround_35 rfl rfl ?_
                refine bj_aload_n d_Co_beatingSetAround_36 rfl rfl ?_
                refine bj_iload d_Co_beatingSetAround_37 rfl ?_
                refine bj_cvF sv_Co_69 d_Co_beatingSetAround_39 (t_Co_notBeatenBy l D c ad M h hN (by omega)) rfl rfl (by decide) (by decide) (by decide) (Nat.le_of_ble_eq_true rfl) rfl h.1 rfl rfl ?_
                refine bj_ior (v := (y ||| (bm (nbt P a0) N))) d_Co_beatingSetAround_42 rfl ?_
                refine bj_istore_n (L' := [some (.ref (ad k)), some (.int (nI a)), some (.int (y ||| (bm (nbt P a0) N))), some (.int (nI r)), some (.int (nI a0))]) d_Co_beatingSetAround_43 rfl (by decide) rfl ?_
                refine bj_iinc (v := (nI (a0 + 1))) (L' := [some (.ref (ad k)), some (.int (nI a)), some (.int (y ||| (bm (nbt P a0) N))), some (.int (nI r)), some (.int (nI (a0 + 1)))]) d_Co_beatingSetAround_44 rfl (bj_inc1 _) (by decide) rfl ?_
                refine bj_goto (tgt := 17) d_Co_beatingSetAround_47 (by decide) ?_
                exact ih_in (N - (a0 + 1)) (by omega) (a0 + 1) _ rfl (by omega) (bs_yes hs2 hN ha (by omega) e)
        exact inn 0 x (Nat.zero_le _) hs
  exact lp 0 _ none (Nat.zero_le _) (bs_0 hN ha)
end C4
