/-! Locks: lock, lockPairs, firstFree, lineUp (walks by gen/m_lo2.py) -/
section L2

def lk_co (co : Nat → Int32) (a b x : Nat) : Int32 := if x = a ∨ bt (co x) a = true then co x ||| (co b ||| ((nI 1) <<< ((nI b) &&& 31))) else co x
def lk_lo (lo : Nat → Int32) (a b : Nat) : Nat → Int32 := va_up lo b (lo b ||| ((nI 1) <<< ((nI a) &&& 31)))
def lk_md (co : Nat → Int32) (a b i x : Nat) : Int32 := if x < i then lk_co co a b x else co x
theorem lk_md_s {co : Nat → Int32} {a b i x : Nat} : va_up (lk_md co a b i) i (lk_co co a b i) x = lk_md co a b (i + 1) x := by
  unfold lk_md
  by_cases e : x = i
  · subst e; rw [va_up_self, if_pos (by omega)]
  · rw [va_up_ne _ _ e]
    by_cases e2 : x < i
    · rw [if_pos e2, if_pos (by omega)]
    · rw [if_neg e2, if_neg (by omega)]
theorem lk_md_n {co : Nat → Int32} {a b i x : Nat} (h : lk_co co a b i = co i) : lk_md co a b i x = lk_md co a b (i + 1) x := by
  unfold lk_md
  by_cases e : x = i
  · subst e; rw [if_neg (by omega), if_pos (by omega), h]
  · by_cases e2 : x < i
    · rw [if_pos e2, if_pos (by omega)]
    · rw [if_neg e2, if_neg (by omega)]
theorem lk_md_at {co : Nat → Int32} {a b i : Nat} : lk_md co a b i i = co i := if_neg (Nat.lt_irrefl _)
theorem lk_bit_co {co : Nat → Int32} {ld : Nat → Nat → Bool} {N a b : Nat} (hN : N ≤ 8) (ha : a < N) (hb : b < N) (h : ∀ x, x < N → ∀ y, y < 32 → bt (co x) y = ld x y) : ∀ x, x < N → ∀ y, y < 32 → bt (lk_co co a b x) y = ml_ld ld a b x y := by
  intro x hx y hy
  unfold lk_co ml_ld
  rw [h x hx a (by omega)]
  by_cases e : x = a ∨ ld x a = true
  · rw [if_pos e, b_or, b_or, bt_one' (by omega) hy, h x hx y hy, h b hb y hy]
    have e2 : (x == a || ld x a) = true := by
      rw [Bool.or_eq_true, beq_iff_eq]; exact e
    rw [e2, Bool.true_and, Bool.or_comm (ld b y) _]
    rfl
  · rw [if_neg e, h x hx y hy]
    have e2 : (x == a || ld x a) = false := by
      rw [Bool.eq_false_iff]; intro q
      rw [Bool.or_eq_true, beq_iff_eq] at q; exact e q
    rw [e2, Bool.false_and, Bool.or_false]
theorem lk_bit_lo {lo : Nat → Int32} {lk : Nat → Nat → Bool} {N a b : Nat} (hN : N ≤ 8) (ha : a < N) (h : ∀ x, x < N → ∀ y, y < 32 → bt (lo x) y = lk y x) (hb : b < N) : ∀ x, x < N → ∀ y, y < 32 → bt (lk_lo lo a b x) y = ml_lk lk a b y x := by
  intro x hx y hy
  unfold lk_lo ml_lk
  by_cases e : x = b
  · subst e
    rw [va_up_self, b_or, bt_one' (by omega) hy, h x hx y hy, beq_self_eq_true, Bool.and_true]
    rfl
  · rw [va_up_ne _ _ e, h x hx y hy, beq_eq_false_iff_ne.mpr e, Bool.and_false, Bool.or_false]
def q_lock (c : Nat → ClassId) (ad : Nat → Nat) (M : bj_M) (k N : Nat) (lo co U V : Nat → Int32) (pn a b : Nat) : bj_R → bj_M → Prop := bj_ret (fun r M' => r = none ∧ lo_ok c ad M' k N (lk_lo lo a b) (lk_co co a b) U V pn ∧ lo_fr k M M')
/-- what is locked over each -/
def lk_is (N : Nat) (lo : Nat → Int32) (lk : Nat → Nat → Bool) : Prop := ∀ x, x < N → ∀ y, y < 32 → bt (lo x) y = lk y x
def so_lk (e : Nat → Nat) (pn : Nat) : Nat → Nat → Bool := (ml_run (fun i => e i / 8) (fun i => e i % 8) pn).1
def so_ld (e : Nat → Nat) (pn : Nat) : Nat → Nat → Bool := (ml_run (fun i => e i / 8) (fun i => e i % 8) pn).2
def q_pairs (c : Nat → ClassId) (ad : Nat → Nat) (M : bj_M) (k N : Nat) (p : Nat → Nat → Nat) (ps : Nat → Nat) : bj_R → bj_M → Prop := bj_ret (fun r M' => r = none ∧ (∃ lo co U V e pn, pn ≤ N * N ∧ so_all p ps N e pn ∧ lo_ok c ad M' k N lo co U V pn ∧ lk_is N lo (so_lk e pn)) ∧ lo_fr k M M')
theorem so_skip {e : Nat → Nat} {i : Nat} (h : so_ld e i (e i % 8) (e i / 8) = true) : so_lk e (i + 1) = so_lk e i ∧ so_ld e (i + 1) = so_ld e i := by
  unfold so_lk so_ld at *
  rw [ml_run, if_pos h]
  exact ⟨rfl, rfl⟩
theorem so_take {e : Nat → Nat} {i : Nat} (h : so_ld e i (e i % 8) (e i / 8) = false) : so_lk e (i + 1) = ml_lk (so_lk e i) (e i / 8) (e i % 8) ∧ so_ld e (i + 1) = ml_ld (so_ld e i) (e i / 8) (e i % 8) := by
  unfold so_lk so_ld at *
  rw [ml_run, if_neg (by rw [h]; decide)]
  exact ⟨rfl, rfl⟩
theorem ff_bits : ∀ N, N < 9 → ∀ y, y < 32 → bt (((nI 1) <<< ((nI N) &&& 31)) - nI 1) y = decide (y < N) := by decide +kernel
theorem ff_out {x : Int32} {a y : Nat} (ha : a < 32) (hy : y < 32) : bt (x &&& (((nI 1) <<< ((nI a) &&& 31)) ^^^ (-1))) y = (bt x y && !(y == a)) := by
  rw [b_and, b_xor, b_m1 y hy, bt_one' ha hy, Bool.xor_true]
  rfl
def ff_q (lo : Nat → Int32) (dw : Nat → Nat) (x : Int32) (i : Nat) : Bool := bt x (dw i) && decide (lo (dw i) &&& x = 0)
theorem ff_same {lo : Nat → Int32} {lk : Nat → Nat → Bool} {dw : Nat → Nat} {N j : Nat} {x : Int32} (hN : N ≤ 8) (hd : ∀ i, i < N → dw i < N) (hl : lk_is N lo lk) (hx : ∀ y, y < 32 → bt x y = ln_left lk dw N j y) : ft (ff_q lo dw x) N = ft (ln_q lk dw N (ln_left lk dw N j)) N := ft_to (fun i hi => by
  have hdi := hd i hi
  unfold ff_q ln_q
  rw [hx _ (by omega)]
  congr 1
  refine decide_eq_decide.mpr ⟨fun h b hb hL => ?_, fun h => ?_⟩
  · have h1 : bt (lo (dw i) &&& x) b = false := by rw [h]; exact b_0 _
    rw [b_and, hl _ hdi b (by omega), hx b (by omega), hL, Bool.and_true] at h1
    exact h1
  · refine b_ext (fun y hy => ?_)
    rw [b_0, b_and, hl _ hdi y hy, hx y hy]
    cases e : ln_left lk dw N j y with
    | false => exact Bool.and_false _
    | true =>
      rw [h y (ln_left_in j y e) e]
      rfl)
variable (l : Launch) (D : va_G) (c : Nat → ClassId) (ad : Nat → Nat) (M : bj_M)
set_option maxRecDepth 100000 in
set_option maxHeartbeats 4000000 in
/-- lock -/
theorem t_Lo_lock {k N pn a b : Nat} {lo co U V : Nat → Int32} (h : lo_ok c ad M k N lo co U V pn) (hN : N ≤ 8) (ha : a < N) (hb : b < N) : bj_T (bw_G l D c) Y_Lo_lock 1 (0, 0, 0, 0) ad (q_lock c ad M k N lo co U V pn a b) [.ref (ad k), .int (nI a), .int (nI b)] M := by
  show bj_S _ _ _ _ _ _ 0 0 0 [some (.ref (ad k)), some (.int (nI a)), some (.int (nI b)), none, none] [] M
  refine bj_aload_n d_Lo_lock_0 rfl rfl ?_
  refine bj_get d_Lo_lock_1 in_Lo rfl (by decide : 1 < 6) wf_Lo_15 rfl h.1 rfl ?_
  refine bj_iload_n d_Lo_lock_4 rfl rfl ?_
  refine bj_dup2 d_Lo_lock_5 rfl rfl ?_
  refine bv_iald d_Lo_lock_6 0 rfl h.2.1 (by omega) (by omega) rfl ?_
  refine bj_iconst (v := (nI 1)) d_Lo_lock_7 (by decide) ?_
  refine bj_iload_n d_Lo_lock_8 rfl rfl ?_
  refine bj_ishl (v := ((nI 1) <<< ((nI a) &&& 31))) d_Lo_lock_9 rfl ?_
  refine bj_ior (v := ((lo b) ||| ((nI 1) <<< ((nI a) &&& 31)))) d_Lo_lock_10 rfl ?_
  refine bv_iast d_Lo_lock_11 0 rfl h.2.1 (by omega) (by omega) (fun N1 hN1 hO1 => ?_)
  have h3 := h.p1 hN1 hO1
  refine bj_aload_n d_Lo_lock_12 rfl rfl ?_
  refine bj_get d_Lo_lock_13 in_Lo rfl (by decide : 2 < 6) wf_Lo_19 rfl h3.1 rfl ?_
  refine bj_iload_n d_Lo_lock_16 rfl rfl ?_
  refine bv_iald d_Lo_lock_17 0 rfl h3.2.2.1 (by omega) (by omega) rfl ?_
  refine bj_iconst (v := (nI 1)) d_Lo_lock_18 (by decide) ?_
  refine bj_iload_n d_Lo_lock_19 rfl rfl ?_
  refine bj_ishl (v := ((nI 1) <<< ((nI b) &&& 31))) d_Lo_lock_20 rfl ?_
  refine bj_ior (v := ((co b) ||| ((nI 1) <<< ((nI b) &&& 31)))) d_Lo_lock_21 rfl ?_
  refine bj_istore_n (L' := [some (.ref (ad k)), some (.int (nI a)), some (.int (nI b)), some (.int ((co b) ||| ((nI 1) <<< ((nI b) &&& 31)))), none]) d_Lo_lock_22 rfl (by decide) rfl ?_
  refine bj_iconst (v := (nI 0)) d_Lo_lock_23 (by decide) ?_
  refine bj_istore (L' := [some (.ref (ad k)), some (.int (nI a)), some (.int (nI b)), some (.int ((co b) ||| ((nI 1) <<< ((nI b) &&& 31)))), some (.int (nI 0))]) d_Lo_lock_24 (by decide) rfl ?_
  have lp : ∀ (i : Nat), ∀ (M2 : bj_M), (i ≤ N) → (lo_ok c ad M2 k N (lk_lo lo a b) (lk_md co a b i) U V pn) → (lo_fr k M M2) → bj_S (bw_G l D c) Y_Lo_lock 1 (0, 0, 0, 0) ad (q_lock c ad M k N lo co U V pn a b) 0 0 26 [some (.ref (ad k)), some (.int (nI a)), some (.int (nI b)), some (.int (co b ||| ((nI 1) <<< ((nI b) &&& 31)))), some (.int (nI i))] [] M2 := by
    intro i M2
    induction hd_lp : N - i using Nat.strongRecOn generalizing i M2 with
    | ind d_lp ih_lp =>
      intro hi h4 hf
      refine bj_iload d_Lo_lock_26 rfl ?_
      refine bj_aload_n d_Lo_lock_28 rfl rfl ?_
      refine bj_get d_Lo_lock_29 in_Lo rfl (by decide : 0 < 6) wf_Lo_9 rfl h4.1 rfl ?_
      refine bj_icmp_geN (tgt := 72) d_Lo_lock_32 (by decide) (by omega) (by omega) (fun h32 => ?_) (fun h32 => ?_)
      · exact bj_vret d_Lo_lock_72 rfl (Nat.le_refl _) (Nat.le_refl _) ⟨rfl, ⟨h4.1, h4.2.1, h4.2.2.1.to (fun x hx => if_pos (by omega)), h4.2.2.2⟩, hf⟩
      · refine bj_iload d_Lo_lock_35 rfl ?_
        refine bj_iload_n d_Lo_lock_37 rfl rfl ?_
        refine bj_icmp_eqN (tgt := 55) d_Lo_lock_38 (by decide) (by omega) (by omega) (fun h38 => ?_) (fun h38 => ?_)
        · have hz : i = a ∨ bt (co i) a = true := Or.inl h38
          refine bj_aload_n d_Lo_lock_55 rfl rfl ?_
          refine bj_get d_Lo_lock_56 in_Lo rfl (by decide : 2 < 6) wf_Lo_19 rfl h4.1 rfl ?_
          refine bj_iload d_Lo_lock_59 rfl ?_
          refine bj_dup2 d_Lo_lock_61 rfl rfl ?_
          refine bv_iald d_Lo_lock_62 0 rfl h4.2.2.1 (by omega) (by omega) rfl ?_
          refine bj_iload_n d_Lo_lock_63 rfl rfl ?_
          refine bj_ior (v := (lk_co co a b i)) d_Lo_lock_64 (by rw [lk_md_at]; exact (if_pos hz).symm) ?_
          refine bv_iast d_Lo_lock_65 0 rfl h4.2.2.1 (by omega) (by omega) (fun N1 hN1 hO1 => ?_)
          refine bj_iinc (v := (nI (i + 1))) (L' := [some (.ref (ad k)), some (.int (nI a)), some (.int (nI b)), some (.int (co b ||| ((nI 1) <<< ((nI b) &&& 31)))), some (.int (nI (i + 1)))]) d_Lo_lock_66 rfl (bj_inc1 _) (by decide) rfl ?_
          refine bj_goto (tgt := 26) d_Lo_lock_69 (by decide) ?_
          exact ih_lp (N - (i + 1)) (by omega) (i + 1) N1 rfl (by omega) (h4.p2 (hN1.to (fun x _ => lk_md_s)) hO1) (hf.at (by omega) hO1)
        · refine bj_aload_n d_Lo_lock_41 rfl rfl ?_
          refine bj_get d_Lo_lock_42 in_Lo rfl (by decide : 2 < 6) wf_Lo_19 rfl h4.1 rfl ?_
          refine bj_iload d_Lo_lock_45 rfl ?_
          refine bv_iald d_Lo_lock_47 0 rfl h4.2.2.1 (by omega) (by omega) rfl ?_
          refine bj_iload_n d_Lo_lock_48 rfl rfl ?_
          refine bj_cnF sn_Lo_41 d_Lo_lock_49 (t_Of_has l D c ad _ (by omega)) rfl rfl (by decide) (by decide) (by decide) (Nat.le_of_ble_eq_true rfl) rfl ?_
          refine bj_if_eq (tgt := 66) d_Lo_lock_52 (by decide) (fun h52 => ?_) (fun h52 => ?_)
          · rw [lk_md_at] at h52
            have hz : ¬ (i = a ∨ bt (co i) a = true) := fun q => by
              rcases q with q | q
              · exact h38 q
              · rw [q] at h52; exact absurd h52 (by decide)
            refine bj_iinc (v := (nI (i + 1))) (L' := [some (.ref (ad k)), some (.int (nI a)), some (.int (nI b)), some (.int (co b ||| ((nI 1) <<< ((nI b) &&& 31)))), some (.int (nI (i + 1)))]) d_Lo_lock_66 rfl (bj_inc1 _) (by decide) rfl ?_
            refine bj_goto (tgt := 26) d_Lo_lock_69 (by decide) ?_
            exact ih_lp (N - (i + 1)) (by omega) (i + 1) M2 rfl (by omega) ⟨h4.1, h4.2.1, h4.2.2.1.to (fun x _ => lk_md_n (if_neg hz)), h4.2.2.2⟩ hf
          · rw [lk_md_at] at h52
            have hz : i = a ∨ bt (co i) a = true := Or.inr (bt_nn h52)
            refine bj_aload_n d_Lo_lock_55 rfl rfl ?_
            refine bj_get d_Lo_lock_56 in_Lo rfl (by decide : 2 < 6) wf_Lo_19 rfl h4.1 rfl ?_
            refine bj_iload d_Lo_lock_59 rfl ?_
            refine bj_dup2 d_Lo_lock_61 rfl rfl ?_
            refine bv_iald d_Lo_lock_62 0 rfl h4.2.2.1 (by omega) (by omega) rfl ?_
            refine bj_iload_n d_Lo_lock_63 rfl rfl ?_
            refine bj_ior (v := (lk_co co a b i)) d_Lo_lock_64 (by rw [lk_md_at]; exact (if_pos hz).symm) ?_
            refine bv_iast d_Lo_lock_65 0 rfl h4.2.2.1 (by omega) (by omega) (fun N1 hN1 hO1 => ?_)
            refine bj_iinc (v := (nI (i + 1))) (L' := [some (.ref (ad k)), some (.int (nI a)), some (.int (nI b)), some (.int (co b ||| ((nI 1) <<< ((nI b) &&& 31)))), some (.int (nI (i + 1)))]) d_Lo_lock_66 rfl (bj_inc1 _) (by decide) rfl ?_
            refine bj_goto (tgt := 26) d_Lo_lock_69 (by decide) ?_
            exact ih_lp (N - (i + 1)) (by omega) (i + 1) N1 rfl (by omega) (h4.p2 (hN1.to (fun x _ => lk_md_s)) hO1) (hf.at (by omega) hO1)
  exact lp 0 N1 (Nat.zero_le _) ⟨h3.1, h3.2.1, h3.2.2.1.to (fun x _ => (if_neg (Nat.not_lt_zero _)).symm), h3.2.2.2⟩ (lo_fr.rf.at (by omega) hO1)
set_option maxRecDepth 100000 in
set_option maxHeartbeats 4000000 in
/-- lockPairs -/
theorem t_Lo_lockPairs {k N k2 kd pn : Nat} {lo co U V : Nat → Int32} {vs : Int32} {P : Nat → Nat → Int32} {p : Nat → Nat → Nat} (h : lo_ok c ad M k N lo co U V pn) (hN : N ≤ 8) (h2 : co_ok c ad M k2 N vs P) (hP : ∀ a b, a < N → b < N → P a b = nI (p a b)) (hp : ∀ a b, a < N → b < N → p a b < 2 ^ 31) {dw ps : Nat → Nat} (hd : bv_I (c 0) M kd N (fun i => nI (dw i))) (hpm : pm_ok N dw ps) (hk : k2 + 10 ≤ k) (hkd : kd < k) : bj_T (bw_G l D c) Y_Lo_lockPairs 4 (0, 0, 0, 0) ad (q_pairs c ad M k N p ps) [.ref (ad k), .ref (ad k2), .ref (ad kd)] M := by
  show bj_S _ _ _ _ _ _ 0 0 0 [some (.ref (ad k)), some (.ref (ad k2)), some (.ref (ad kd)), none] [] M
  have hnn := nn_le hN
  refine bj_aload_n d_Lo_lockPairs_0 rfl rfl ?_
  refine bj_get d_Lo_lockPairs_1 in_Lo rfl (by decide : 1 < 6) wf_Lo_15 rfl h.1 rfl ?_
  refine bj_iconst (v := (nI 0)) d_Lo_lockPairs_4 (by decide) ?_
  refine bj_csR ss_Lo_31 d_Lo_lockPairs_5 (t_Ar_fill l D c ad M h.2.1 (by omega)) rfl rfl (by decide) (by decide) (by decide) (Nat.le_of_ble_eq_true rfl) rfl (fun v1 N1 hq1 => ?_)
  obtain ⟨rfl, hF1, hO1⟩ := hq1
  show bj_S (bw_G l D c) Y_Lo_lockPairs 4 (0, 0, 0, 0) ad (q_pairs c ad M k N p ps) 0 0 8 [some (.ref (ad k)), some (.ref (ad k2)), some (.ref (ad kd)), none] [] N1
  have h3 := h.p1 hF1 hO1
  refine bj_aload_n d_Lo_lockPairs_8 rfl rfl ?_
  refine bj_get d_Lo_lockPairs_9 in_Lo rfl (by decide : 2 < 6) wf_Lo_19 rfl h3.1 rfl ?_
  refine bj_iconst (v := (nI 0)) d_Lo_lockPairs_12 (by decide) ?_
  refine bj_csR ss_Lo_31 d_Lo_lockPairs_13 (t_Ar_fill l D c ad N1 h3.2.2.1 (by omega)) rfl rfl (by decide) (by decide) (by decide) (Nat.le_of_ble_eq_true rfl) rfl (fun v2 N2 hq2 => ?_)
  obtain ⟨rfl, hF2, hO2⟩ := hq2
  show bj_S (bw_G l D c) Y_Lo_lockPairs 4 (0, 0, 0, 0) ad (q_pairs c ad M k N p ps) 0 0 16 [some (.ref (ad k)), some (.ref (ad k2)), some (.ref (ad kd)), none] [] N2
  have h4 := h3.p2 hF2 hO2
  have hf4 : lo_fr k M N2 := (lo_fr.rf.at (by omega) hO1).at (by omega) hO2
  refine bj_aload_n d_Lo_lockPairs_16 rfl rfl ?_
  refine bj_aload_n d_Lo_lockPairs_17 rfl rfl ?_
  refine bj_aload_n d_Lo_lockPairs_18 rfl rfl ?_
  refine bj_cvR sv_Lo_37 d_Lo_lockPairs_19 (t_Lo_sortPairs l D c ad N2 h4 hN (h2.in (fun q q1 q2 => hf4 q (by omega))) hP hp (hd.in (hf4 kd (by omega))) hpm hk hkd) rfl rfl (by decide) (by decide) (by decide) (Nat.le_of_ble_eq_true rfl) rfl h4.1 rfl rfl (fun v3 N3 hq3 => ?_)
  obtain ⟨rfl, ⟨U5, V5, e, pn5, hpn5, hs5, h5, he5⟩, hf5⟩ := hq3
  show bj_S (bw_G l D c) Y_Lo_lockPairs 4 (0, 0, 0, 0) ad (q_pairs c ad M k N p ps) 0 0 22 [some (.ref (ad k)), some (.ref (ad k2)), some (.ref (ad kd)), none] [] N3
  refine bj_iconst (v := (nI 0)) d_Lo_lockPairs_22 (by decide) ?_
  refine bj_istore_n (L' := [some (.ref (ad k)), some (.ref (ad k2)), some (.ref (ad kd)), some (.int (nI 0))]) d_Lo_lockPairs_23 rfl (by decide) rfl ?_
  have lp : ∀ (i : Nat), ∀ (M6 : bj_M), ∀ (lo6 : Nat → Int32), ∀ (co6 : Nat → Int32), (i ≤ pn5) → (lo_ok c ad M6 k N lo6 co6 U5 V5 pn5) → (lk_is N lo6 (so_lk e i)) → (∀ x, x < N → ∀ y, y < 32 → bt (co6 x) y = so_ld e i x y) → (lo_fr k M M6) → bj_S (bw_G l D c) Y_Lo_lockPairs 4 (0, 0, 0, 0) ad (q_pairs c ad M k N p ps) 0 0 24 [some (.ref (ad k)), some (.ref (ad k2)), some (.ref (ad kd)), some (.int (nI i))] [] M6 := by
    intro i M6 lo6 co6
    induction hd_lp : pn5 - i using Nat.strongRecOn generalizing i M6 lo6 co6 with
    | ind d_lp ih_lp =>
      intro hi h6 hl hc hf
      refine bj_iload_n d_Lo_lockPairs_24 rfl rfl ?_
      refine bj_aload_n d_Lo_lockPairs_25 rfl rfl ?_
      refine bj_get d_Lo_lockPairs_26 in_Lo rfl (by decide : 5 < 6) wf_Lo_28 rfl h6.1 rfl ?_
      refine bj_icmp_geN (tgt := 77) d_Lo_lockPairs_29 (by decide) (by omega) (by omega) (fun h29 => ?_) (fun h29 => ?_)
      · exact bj_vret d_Lo_lockPairs_77 rfl (Nat.le_refl _) (Nat.le_refl _) ⟨rfl, ⟨lo6, co6, U5, V5, e, pn5, hpn5, hs5, h6, (show i = pn5 by omega) ▸ hl⟩, hf⟩
      · have hx := hs5.2.1 i h29
        refine bj_aload_n d_Lo_lockPairs_32 rfl rfl ?_
        refine bj_get d_Lo_lockPairs_33 in_Lo rfl (by decide : 2 < 6) wf_Lo_19 rfl h6.1 rfl ?_
        refine bj_aload_n d_Lo_lockPairs_36 rfl rfl ?_
        refine bj_get d_Lo_lockPairs_37 in_Lo rfl (by decide : 4 < 6) wf_Lo_25 rfl h6.1 rfl ?_
        refine bj_iload_n d_Lo_lockPairs_40 rfl rfl ?_
        refine bv_iald (v := (nI (e i % 8))) d_Lo_lockPairs_41 0 rfl h6.2.2.2.2 (by omega) (by omega) (he5 i h29).2 ?_
        refine bv_iald d_Lo_lockPairs_42 0 rfl h6.2.2.1 (by omega) (by omega) rfl ?_
        refine bj_aload_n d_Lo_lockPairs_43 rfl rfl ?_
        refine bj_get d_Lo_lockPairs_44 in_Lo rfl (by decide : 3 < 6) wf_Lo_22 rfl h6.1 rfl ?_
        refine bj_iload_n d_Lo_lockPairs_47 rfl rfl ?_
        refine bv_iald (v := (nI (e i / 8))) d_Lo_lockPairs_48 0 rfl h6.2.2.2.1 (by omega) (by omega) (he5 i h29).1 ?_
        refine bj_cnF sn_Lo_41 d_Lo_lockPairs_49 (t_Of_has l D c ad _ (by omega)) rfl rfl (by decide) (by decide) (by decide) (Nat.le_of_ble_eq_true rfl) rfl ?_
        refine bj_if_ne (tgt := 71) d_Lo_lockPairs_52 (by decide) (fun h52 => ?_) (fun h52 => ?_)
        · have hz := bt_nn h52
          rw [hc _ hx.2.1 _ (by omega)] at hz
          obtain ⟨hz1, hz2⟩ := so_skip hz
          refine bj_iinc (v := (nI (i + 1))) (L' := [some (.ref (ad k)), some (.ref (ad k2)), some (.ref (ad kd)), some (.int (nI (i + 1)))]) d_Lo_lockPairs_71 rfl (bj_inc1 _) (by decide) rfl ?_
          refine bj_goto (tgt := 24) d_Lo_lockPairs_74 (by decide) ?_
          exact ih_lp (pn5 - (i + 1)) (by omega) (i + 1) M6 lo6 co6 rfl (by omega) h6 (by rw [hz1]; exact hl) (by rw [hz2]; exact hc) hf
        · have hz := bt_n0.mp h52
          rw [hc _ hx.2.1 _ (by omega)] at hz
          obtain ⟨hz1, hz2⟩ := so_take hz
          refine bj_aload_n d_Lo_lockPairs_55 rfl rfl ?_
          refine bj_aload_n d_Lo_lockPairs_56 rfl rfl ?_
          refine bj_get d_Lo_lockPairs_57 in_Lo rfl (by decide : 3 < 6) wf_Lo_22 rfl h6.1 rfl ?_
          refine bj_iload_n d_Lo_lockPairs_60 rfl rfl ?_
          refine bv_iald (v := (nI (e i / 8))) d_Lo_lockPairs_61 0 rfl h6.2.2.2.1 (by omega) (by omega) (he5 i h29).1 ?_
          refine bj_aload_n d_Lo_lockPairs_62 rfl rfl ?_
          refine bj_get d_Lo_lockPairs_63 in_Lo rfl (by decide : 4 < 6) wf_Lo_25 rfl h6.1 rfl ?_
          refine bj_iload_n d_Lo_lockPairs_66 rfl rfl ?_
          refine bv_iald (v := (nI (e i % 8))) d_Lo_lockPairs_67 0 rfl h6.2.2.2.2 (by omega) (by omega) (he5 i h29).2 ?_
          refine bj_cvR sv_Lo_45 d_Lo_lockPairs_68 (t_Lo_lock l D c ad M6 h6 hN hx.1 hx.2.1) rfl rfl (by decide) (by decide) (by decide) (Nat.le_of_ble_eq_true rfl) rfl h6.1 rfl rfl (fun v1 N1 hq1 => ?_)
          obtain ⟨rfl, h7, hf7⟩ := hq1
          show bj_S (bw_G l D c) Y_Lo_lockPairs 4 (0, 0, 0, 0) ad (q_pairs c ad M k N p ps) 0 0 71 [some (.ref (ad k)), some (.ref (ad k2)), some (.ref (ad kd)), some (.int (nI i))] [] N1
          refine bj_iinc (v := (nI (i + 1))) (L' := [some (.ref (ad k)), some (.ref (ad k2)), some (.ref (ad kd)), some (.int (nI (i + 1)))]) d_Lo_lockPairs_71 rfl (bj_inc1 _) (by decide) rfl ?_
          refine bj_goto (tgt := 24) d_Lo_lockPairs_74 (by decide) ?_
          exact ih_lp (pn5 - (i + 1)) (by omega) (i + 1) N1 _ _ rfl (by omega) h7 (by rw [hz1]; exact lk_bit_lo hN hx.1 hl hx.2.1) (by rw [hz2]; exact lk_bit_co hN hx.1 hx.2.1 hc) (hf.tr hf7)
  exact lp 0 N3 _ _ (Nat.zero_le _) h5 (fun x _ y _ => b_0 y) (fun x _ y _ => b_0 y) (hf4.tr hf5)
theorem ff_y {lo : Nat → Int32} {dw : Nat → Nat} {x : Int32} {i : Nat} (h1 : bt x (dw i) = true) (h2 : lo (dw i) &&& x = 0) : ff_q lo dw x i = true := by
  unfold ff_q
  rw [h1, decide_eq_true h2]
  rfl
theorem ff_n1 {lo : Nat → Int32} {dw : Nat → Nat} {x : Int32} {i : Nat} (h1 : bt x (dw i) = false) : ff_q lo dw x i = false := by
  unfold ff_q
  rw [h1]
  rfl
theorem ff_n2 {lo : Nat → Int32} {dw : Nat → Nat} {x : Int32} {i : Nat} (h2 : ¬ (lo (dw i) &&& x) = 0) : ff_q lo dw x i = false := by
  unfold ff_q
  rw [decide_eq_false h2]
  exact Bool.and_false _
set_option maxRecDepth 100000 in
set_option maxHeartbeats 4000000 in
/-- firstFree -/
theorem t_Lo_firstFree {k N pn kd : Nat} {lo co U V : Nat → Int32} (h : lo_ok c ad M k N lo co U V pn) (hN : N ≤ 8) {dw : Nat → Nat} {x : Int32} (hd : bv_I (c 0) M kd N (fun i => nI (dw i))) (hdw : ∀ i, i < N → dw i < N) : bj_T (bw_G l D c) Y_Lo_firstFree 1 (0, 0, 0, 0) ad (bj_fn (oI ((ft (ff_q lo dw x) N).map dw)) M) [.ref (ad k), .ref (ad kd), .int x] M := by
  show bj_S _ _ _ _ _ _ 0 0 0 [some (.ref (ad k)), some (.ref (ad kd)), some (.int x), none] [] M
  refine bj_iconst (v := (nI 0)) d_Lo_firstFree_0 (by decide) ?_
  refine bj_istore_n (L' := [some (.ref (ad k)), some (.ref (ad kd)), some (.int x), some (.int (nI 0))]) d_Lo_firstFree_1 rfl (by decide) rfl ?_
  have lp : ∀ (i : Nat), (i ≤ N) → (∀ j, j < i → ff_q lo dw x j = false) → bj_S (bw_G l D c) Y_Lo_firstFree 1 (0, 0, 0, 0) ad (bj_fn (oI ((ft (ff_q lo dw x) N).map dw)) M) 0 0 2 [some (.ref (ad k)), some (.ref (ad kd)), some (.int x), some (.int (nI i))] [] M := by
    intro i
    induction hd_lp : N - i using Nat.strongRecOn generalizing i with
    | ind d_lp ih_lp =>
      intro hi hq
      refine bj_iload_n d_Lo_firstFree_2 rfl rfl ?_
      refine bj_aload_n d_Lo_firstFree_3 rfl rfl ?_
      refine bj_get d_Lo_firstFree_4 in_Lo rfl (by decide : 0 < 6) wf_Lo_9 rfl h.1 rfl ?_
      refine bj_icmp_geN (tgt := 43) d_Lo_firstFree_7 (by decide) (by omega) (by omega) (fun h7 => ?_) (fun h7 => ?_)
      · refine bj_iconst (v := (-1)) d_Lo_firstFree_43 (by decide) ?_
        exact bj_iret d_Lo_firstFree_44 rfl rfl (Nat.le_refl _) (Nat.le_refl _) ⟨by rw [ft_none.mpr (fun j hj => hq j (by omega))]; rfl, rfl⟩
      · have hdi := hdw i h7
        refine bj_iload_n d_Lo_firstFree_10 rfl rfl ?_
        refine bj_aload_n d_Lo_firstFree_11 rfl rfl ?_
        refine bj_iload_n d_Lo_firstFree_12 rfl rfl ?_
        refine bv_iald d_Lo_firstFree_13 0 rfl hd (by omega) (by omega) rfl ?_
        refine bj_cnF sn_Lo_41 d_Lo_firstFree_14 (t_Of_has l D c ad _ (by omega)) rfl rfl (by decide) (by decide) (by decide) (Nat.le_of_ble_eq_true rfl) rfl ?_
        refine bj_if_eq (tgt := 37) d_Lo_firstFree_17 (by decide) (fun h17 => ?_) (fun h17 => ?_)
        · have hz := ff_n1 (lo := lo) (bt_n0.mp h17)
          refine bj_iinc (v := (nI (i + 1))) (L' := [some (.ref (ad k)), some (.ref (ad kd)), some (.int x), some (.int (nI (i + 1)))]) d_Lo_firstFree_37 rfl (bj_inc1 _) (by decide) rfl ?_
          refine bj_goto (tgt := 2) d_Lo_firstFree_40 (by decide) ?_
          exact ih_lp (N - (i + 1)) (by omega) (i + 1) rfl (by omega) (fun j hj => by
            rcases Nat.lt_or_ge j i with q | q
            · exact hq j q
            · rw [show j = i by omega]; exact hz)
        · refine bj_aload_n d_Lo_firstFree_20 rfl rfl ?_
          refine bj_get d_Lo_firstFree_21 in_Lo rfl (by decide : 1 < 6) wf_Lo_15 rfl h.1 rfl ?_
          refine bj_aload_n d_Lo_firstFree_24 rfl rfl ?_
          refine bj_iload_n d_Lo_firstFree_25 rfl rfl ?_
          refine bv_iald d_Lo_firstFree_26 0 rfl hd (by omega) (by omega) rfl ?_
          refine bv_iald d_Lo_firstFree_27 0 rfl h.2.1 (by omega) (by omega) rfl ?_
          refine bj_iload_n d_Lo_firstFree_28 rfl rfl ?_
          refine bj_iand (v := ((lo (dw i)) &&& x)) d_Lo_firstFree_29 rfl ?_
          refine bj_if_ne (tgt := 37) d_Lo_firstFree_30 (by decide) (fun h30 => ?_) (fun h30 => ?_)
          · have hz := ff_n2 h30
            refine bj_iinc (v := (nI (i + 1))) (L' := [some (.ref (ad k)), some (.ref (ad kd)), some (.int x), some (.int (nI (i + 1)))]) d_Lo_firstFree_37 rfl (bj_inc1 _) (by decide) rfl ?_
            refine bj_goto (tgt := 2) d_Lo_firstFree_40 (by decide) ?_
            exact ih_lp (N - (i + 1)) (by omega) (i + 1) rfl (by omega) (fun j hj => by
              rcases Nat.lt_or_ge j i with q | q
              · exact hq j q
              · rw [show j = i by omega]; exact hz)
          · refine bj_aload_n d_Lo_firstFree_33 rfl rfl ?_
            refine bj_iload_n d_Lo_firstFree_34 rfl rfl ?_
            refine bv_iald d_Lo_firstFree_35 0 rfl hd (by omega) (by omega) rfl ?_
            exact bj_iret d_Lo_firstFree_36 rfl rfl (Nat.le_refl _) (Nat.le_refl _) ⟨by rw [ft_eq.mpr ⟨h7, ff_y (bt_nn h17) h30, hq⟩]; rfl, rfl⟩
  exact lp 0 (Nat.zero_le _) (fun j hj => absurd hj (Nat.not_lt_zero _))
set_option maxRecDepth 100000 in
set_option maxHeartbeats 4000000 in
/-- lineUp -/
theorem t_Lo_lineUp {k N pn kd i : Nat} {lo co U V : Nat → Int32} (h : lo_ok c ad M k N lo co U V pn) (hN : N ≤ 8) {dw : Nat → Nat} {lk : Nat → Nat → Bool} (hd : bv_I (c 0) M kd N (fun i => nI (dw i))) (hdw : ∀ i, i < N → dw i < N) (hl : lk_is N lo lk) (hi : i < N) (hfr : ∀ j, j < N → ∃ i, i < N ∧ ft (ln_q lk dw N (ln_left lk dw N j)) N = some i ∧ ln_at lk dw N j = dw i) : bj_T (bw_G l D c) Y_Lo_lineUp 2 (0, 0, 0, 0) ad (bj_fn (nI (ln_at lk dw N i)) M) [.ref (ad k), .ref (ad kd), .int (nI i)] M := by
  show bj_S _ _ _ _ _ _ 0 0 0 [some (.ref (ad k)), some (.ref (ad kd)), some (.int (nI i)), none, none, none] [] M
  refine bj_iconst (v := (nI 1)) d_Lo_lineUp_0 (by decide) ?_
  refine bj_aload_n d_Lo_lineUp_1 rfl rfl ?_
  refine bj_get d_Lo_lineUp_2 in_Lo rfl (by decide : 0 < 6) wf_Lo_9 rfl h.1 rfl ?_
  refine bj_ishl (v := ((nI 1) <<< ((nI N) &&& 31))) d_Lo_lineUp_5 rfl ?_
  refine bj_iconst (v := (nI 1)) d_Lo_lineUp_6 (by decide) ?_
  refine bj_isub (v := (((nI 1) <<< ((nI N) &&& 31)) - nI 1)) d_Lo_lineUp_7 rfl ?_
  refine bj_istore_n (L' := [some (.ref (ad k)), some (.ref (ad kd)), some (.int (nI i)), some (.int (((nI 1) <<< ((nI N) &&& 31)) - nI 1)), none, none]) d_Lo_lineUp_8 rfl (by decide) rfl ?_
  refine bj_iconst (v := (-1)) d_Lo_lineUp_9 (by decide) ?_
  refine bj_istore (L' := [some (.ref (ad k)), some (.ref (ad kd)), some (.int (nI i)), some (.int (((nI 1) <<< ((nI N) &&& 31)) - nI 1)), some (.int (-1)), none]) d_Lo_lineUp_10 (by decide) rfl ?_
  refine bj_iconst (v := (nI 0)) d_Lo_lineUp_12 (by decide) ?_
  refine bj_istore (L' := [some (.ref (ad k)), some (.ref (ad kd)), some (.int (nI i)), some (.int (((nI 1) <<< ((nI N) &&& 31)) - nI 1)), some (.int (-1)), some (.int (nI 0))]) d_Lo_lineUp_13 (by decide) rfl ?_
  have lp : ∀ (j : Nat), ∀ (x : Int32), ∀ (y : Int32), (j ≤ i + 1) → (∀ z, z < 32 → bt x z = ln_left lk dw N j z) → (0 < j → y = nI (ln_at lk dw N (j - 1))) → bj_S (bw_G l D c) Y_Lo_lineUp 2 (0, 0, 0, 0) ad (bj_fn (nI (ln_at lk dw N i)) M) 0 0 15 [some (.ref (ad k)), some (.ref (ad kd)), some (.int (nI i)), some (.int x), some (.int y), some (.int (nI j))] [] M := by
    intro j x y
    induction hd_lp : i + 1 - j using Nat.strongRecOn generalizing j x y with
    | ind d_lp ih_lp =>
      intro hj hx hy
      refine bj_iload d_Lo_lineUp_15 rfl ?_
      refine bj_iload_n d_Lo_lineUp_17 rfl rfl ?_
      refine bj_icmp_gtN (tgt := 44) d_Lo_lineUp_18 (by decide) (by omega) (by omega) (fun h18 => ?_) (fun h18 => ?_)
      · refine bj_iload d_Lo_lineUp_44 rfl ?_
        exact bj_iret d_Lo_lineUp_46 rfl rfl (Nat.le_refl _) (Nat.le_refl _) ⟨by rw [hy (by omega), show j - 1 = i by omega], rfl⟩
      · refine bj_aload_n d_Lo_lineUp_21 rfl rfl ?_
        refine bj_aload_n d_Lo_lineUp_22 rfl rfl ?_
        refine bj_iload_n d_Lo_lineUp_23 rfl rfl ?_
        obtain ⟨i9, hi9, hft, hat⟩ := hfr j (by omega)
        refine bj_cvF sv_Lo_67 d_Lo_lineUp_24 (t_Lo_firstFree l D c ad M h hN hd hdw) rfl rfl (by decide) (by decide) (by decide) (Nat.le_of_ble_eq_true rfl) rfl h.1 rfl rfl ?_
        rw [ff_same hN hdw hl hx, hft]
        show bj_S (bw_G l D c) Y_Lo_lineUp 2 (0, 0, 0, 0) ad (bj_fn (nI (ln_at lk dw N i)) M) 0 0 27 [some (.ref (ad k)), some (.ref (ad kd)), some (.int (nI i)), some (.int x), some (.int y), some (.int (nI j))] [.int (nI (dw i9))] M
        rw [← hat]
        have hlt : ln_at lk dw N j < N := by rw [hat]; exact hdw i9 hi9
        refine bj_istore (L' := [some (.ref (ad k)), some (.ref (ad kd)), some (.int (nI i)), some (.int x), some (.int (nI (ln_at lk dw N j))), some (.int (nI j))]) d_Lo_lineUp_27 (by decide) rfl ?_
        refine bj_iload_n d_Lo_lineUp_29 rfl rfl ?_
        refine bj_iconst (v := (nI 1)) d_Lo_lineUp_30 (by decide) ?_
        refine bj_iload d_Lo_lineUp_31 rfl ?_
        refine bj_ishl (v := ((nI 1) <<< ((nI (ln_at lk dw N j)) &&& 31))) d_Lo_lineUp_33 rfl ?_
        refine bj_iconst (v := (-1)) d_Lo_lineUp_34 (by decide) ?_
        refine bj_ixor (v := (((nI 1) <<< ((nI (ln_at lk dw N j)) &&& 31)) ^^^ (-1))) d_Lo_lineUp_35 rfl ?_
        refine bj_iand (v := (x &&& (((nI 1) <<< ((nI (ln_at lk dw N j)) &&& 31)) ^^^ (-1)))) d_Lo_lineUp_36 rfl ?_
        refine bj_istore_n (L' := [some (.ref (ad k)), some (.ref (ad kd)), some (.int (nI i)), some (.int (x &&& (((nI 1) <<< ((nI (ln_at lk dw N j)) &&& 31)) ^^^ (-1)))), some (.int (nI (ln_at lk dw N j))), some (.int (nI j))]) d_Lo_lineUp_37 rfl (by decide) rfl ?_
        refine bj_iinc (v := (nI (j + 1))) (L' := [some (.ref (ad k)), some (.ref (ad kd)), some (.int (nI i)), some (.int (x &&& (((nI 1) <<< ((nI (ln_at lk dw N j)) &&& 31)) ^^^ (-1)))), some (.int (nI (ln_at lk dw N j))), some (.int (nI (j + 1)))]) d_Lo_lineUp_38 rfl (bj_inc1 _) (by decide) rfl ?_
        refine bj_goto (tgt := 15) d_Lo_lineUp_41 (by decide) ?_
        exact ih_lp (i + 1 - (j + 1)) (by omega) (j + 1) _ _ rfl (by omega) (fun z hz => by rw [ff_out (by omega) hz, hx z hz]; rfl) (fun _ => rfl)
  exact lp 0 _ _ (Nat.zero_le _) (fun z hz => ff_bits N (by omega) z hz) (fun q => absurd q (Nat.lt_irrefl _))
end L2
