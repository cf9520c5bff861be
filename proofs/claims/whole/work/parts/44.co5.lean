/-! Count.isHeldIn, isWay (walks by gen/m_co5.py) -/
section C5
/-- a post: whether φ holds, the cells as they were -/
def q_b (M : bj_M) (φ : Prop) : bj_R → bj_M → Prop := bj_ret (fun v M' => ∃ r : Bool, v = some (.int (bt_n r)) ∧ (r = true ↔ φ) ∧ M' = M)
theorem qb_t {M : bj_M} {φ : Prop} (h : φ) : q_b M φ (.inl (some (.int (nI 1)))) M := ⟨true, rfl, ⟨fun _ => h, fun _ => rfl⟩, rfl⟩
theorem qb_f {M : bj_M} {φ : Prop} (h : ¬ φ) : q_b M φ (.inl (some (.int (nI 0)))) M := ⟨false, rfl, ⟨fun e => (by cases e), fun e => absurd e h⟩, rfl⟩
def ush (x : Int32) (k : Nat) : Int32 := (x.toUInt32 >>> ((nI k).toUInt32 &&& Int32.toUInt32 31)).toInt32
theorem ush_bt (x : Int32) {k : Nat} (hk : k < 32) (i : Nat) : bt (ush x k) i = bt x (k + i) := b_ushr k hk x i
theorem ush_0 (x : Int32) {k : Nat} (hk : k < 32) : ush x k = 0 ↔ ∀ i, k ≤ i → i < 32 → bt x i = false := by
  constructor
  · intro h i h1 h2
    have h3 := ush_bt x hk (i - k)
    rw [h, b_0, show k + (i - k) = i by omega] at h3
    exact h3.symm
  · intro h
    apply b_ext
    intro i hi
    rw [ush_bt x hk, b_0]
    rcases Nat.lt_or_ge (k + i) 32 with h1 | h1
    · exact h _ (by omega) h1
    · exact b_big h1
theorem ush_n (x : Int32) {k : Nat} (hk : k < 32) : (ush x k).toBitVec.toNat = x.toBitVec.toNat / 2 ^ k := pk_ushr x (nI k) k (s_u k hk)
theorem ush_nb (x : Int32) {i : Nat} (hi : i < 8) : nb (ush x (4 * i)) 0 = nb x i := by
  unfold nb
  rw [ush_n x (by omega)]
  simp
theorem ush_s (x : Int32) {i : Nat} (hi : i + 1 < 8) : ush (ush x (4 * i)) 4 = ush x (4 * (i + 1)) := by
  apply b_ext
  intro j hj
  rw [ush_bt _ (by omega), ush_bt _ (by omega), ush_bt _ (by omega)]
  congr 1
  omega
theorem ush_z (w : Int32) : ∀ d i, i + d = 8 → (w.toBitVec.toNat / 2 ^ (4 * i) = 0 ↔ ∀ m, i ≤ m → m < 8 → nb w m = 0)
  | 0, i, h => by
    have e : i = 8 := by omega
    subst e
    have := w.toBitVec.isLt
    constructor
    · intro _ m h1 h2; omega
    · intro _; omega
  | d + 1, i, h => by
    have ih := ush_z w d (i + 1) (by omega)
    have e : w.toBitVec.toNat / 2 ^ (4 * (i + 1)) = w.toBitVec.toNat / 2 ^ (4 * i) / 16 := by
      rw [Nat.div_div_eq_div_mul, show 4 * (i + 1) = 4 * i + 4 by omega, Nat.pow_add]
    rw [e] at ih
    constructor
    · intro h0 m h1 h2
      by_cases e2 : m = i
      · subst e2
        unfold nb
        rw [h0]
      · exact ih.mp (by rw [h0]) m (by omega) h2
    · intro h0
      have h1 := ih.mpr (fun m h1 h2 => h0 m (by omega) h2)
      have h2 := h0 i (Nat.le_refl _) (by omega)
      unfold nb at h2
      omega
theorem ush_zero (w : Int32) {i : Nat} (hi : i < 8) : ush w (4 * i) = 0 ↔ ∀ m, i ≤ m → m < 8 → nb w m = 0 := by
  rw [← ush_z w (8 - i) i (by omega), ← ush_n w (by omega)]
  constructor
  · intro h; rw [h]; rfl
  · intro h
    apply Int32.toBitVec_inj.mp
    apply BitVec.eq_of_toNat_eq
    rw [h]; rfl
/-- no direct above s leads out of the set, which is one of candidates -/
def hd_all (P : Nat → Nat → Int32) (N : Nat) (x s : Int32) : Prop := (∀ i, N ≤ i → i < 32 → bt x i = false) ∧ ∀ a b, a < N → b < N → bt x a = true → bt x b = false → dir P a b ≤ s
def hd_ok (P : Nat → Nat → Int32) (N : Nat) (x s : Int32) (a0 b0 : Nat) : Prop := ∀ a b, a < N → b < N → (a < a0 ∨ (a = a0 ∧ b < b0)) → bt x a = true → bt x b = false → dir P a b ≤ s
theorem hd_step {P : Nat → Nat → Int32} {N a0 b0 : Nat} {x s : Int32} (h : hd_ok P N x s a0 b0) (hx : bt x a0 = true → bt x b0 = false → dir P a0 b0 ≤ s) : hd_ok P N x s a0 (b0 + 1) := by
  intro a b ha hb hab h1 h2
  by_cases e : a = a0 ∧ b = b0
  · obtain ⟨rfl, rfl⟩ := e
    exact hx h1 h2
  · exact h a b ha hb (by omega) h1 h2
theorem hd_next {P : Nat → Nat → Int32} {N a0 b0 : Nat} {x s : Int32} (h : hd_ok P N x s a0 b0) (e : N ≤ b0) : hd_ok P N x s (a0 + 1) 0 := fun a b ha hb hab h1 h2 => h a b ha hb (by omega) h1 h2
/-- w tells a way from a to b of which no step is below s -/
def wy (P : Nat → Nat → Int32) (N a b : Nat) (s w : Int32) : Prop := ∃ m, 1 ≤ m ∧ m ≤ 8 ∧ (∀ j, m ≤ j → j < 8 → nb w j = 0) ∧ nb w 0 = a + 1 ∧ nb w (m - 1) = b + 1 ∧ ∀ j, j + 1 < m → 1 ≤ nb w (j + 1) ∧ nb w (j + 1) ≤ N ∧ s ≤ dir P (nb w j - 1) (nb w (j + 1) - 1)
/-- the way as far as place i -/
def wy_in (P : Nat → Nat → Int32) (N a : Nat) (s w : Int32) (i p : Nat) (x : Int32) : Prop := 1 ≤ i ∧ i ≤ 8 ∧ nb w 0 = a + 1 ∧ nb w (i - 1) = p + 1 ∧ p < N ∧ (i < 8 → x = ush w (4 * i)) ∧ ∀ j, j + 1 < i → 1 ≤ nb w (j + 1) ∧ nb w (j + 1) ≤ N ∧ s ≤ dir P (nb w j - 1) (nb w (j + 1) - 1)
theorem wy_nz {P : Nat → Nat → Int32} {N a i p : Nat} {s w x : Int32} (h : wy_in P N a s w i p x) : ∀ j, j < i → nb w j ≠ 0 := by
  obtain ⟨h1, h2, h3, h4, h5, h6, h7⟩ := h
  intro j hj
  cases j with
  | zero => omega
  | succ j => have := h7 j (by omega); omega
/-- at its end -/
theorem wy_end {P : Nat → Nat → Int32} {N a b i p : Nat} {s w x : Int32} (h : wy_in P N a s w i p x) (hz : ∀ m, i ≤ m → m < 8 → nb w m = 0) : wy P N a b s w ↔ p = b := by
  have hnz := wy_nz h
  obtain ⟨h1, h2, h3, h4, h5, h6, h7⟩ := h
  constructor
  · rintro ⟨m, m1, m2, m3, m4, m5, m6⟩
    have e : m = i := by
      rcases Nat.lt_trichotomy m i with h8 | h8 | h8
      · exact absurd (m3 m (Nat.le_refl _) (by omega)) (hnz m h8)
      · exact h8
      · have h9 := m6 (i - 1) (by omega)
        rw [show i - 1 + 1 = i by omega] at h9
        have := hz i (Nat.le_refl _) (by omega)
        omega
    subst e
    omega
  · intro e
    subst e
    exact ⟨i, h1, h2, hz, h3, h4, h7⟩
/-- a step that isn't one -/
theorem wy_bad {P : Nat → Nat → Int32} {N a b i p : Nat} {s w x : Int32} (h : wy_in P N a s w i p x) (hi : i < 8) (hx : x ≠ 0) (hb : ¬ (1 ≤ nb w i ∧ nb w i ≤ N ∧ s ≤ dir P p (nb w i - 1))) : ¬ wy P N a b s w := by
  obtain ⟨h1, h2, h3, h4, h5, h6, h7⟩ := h
  rintro ⟨m, m1, m2, m3, m4, m5, m6⟩
  have e : i < m := by
    refine Classical.byContradiction fun hn => hx ?_
    rw [h6 hi, ush_zero w hi]
    exact fun j hj => m3 j (by omega)
  have h9 := m6 (i - 1) (by omega)
  rw [show i - 1 + 1 = i by omega, h4] at h9
  exact hb h9
theorem wy_step {P : Nat → Nat → Int32} {N a i p : Nat} {s w x : Int32} (h : wy_in P N a s w i p x) (hi : i < 8) (h1 : 1 ≤ nb w i) (h2 : nb w i - 1 < N) (h3 : s ≤ dir P p (nb w i - 1)) : wy_in P N a s w (i + 1) (nb w i - 1) (ush x 4) := by
  obtain ⟨g1, g2, g3, g4, g5, g6, g7⟩ := h
  refine ⟨by omega, by omega, g3, ?_, h2, fun h8 => ?_, fun j hj => ?_⟩
  · rw [show i + 1 - 1 = i by omega]; omega
  · rw [g6 hi]; exact ush_s w h8
  · by_cases e : j + 1 = i
    · subst e
      refine ⟨h1, by omega, ?_⟩
      rw [show j + 1 - 1 = j by omega] at g4
      rw [show nb w j - 1 = p by omega]
      exact h3
    · exact g7 j (by omega)
variable (l : Launch) (D : va_G) (c : Nat → ClassId) (ad : Nat → Nat) (M : bj_M)
set_option maxRecDepth 100000 in
set_option maxHeartbeats 4000000 in
/-- isHeldIn -/
theorem t_Co_isHeldIn {k N : Nat} {vs x s : Int32} {P : Nat → Nat → Int32} (h : co_ok c ad M k N vs P) (hN : N ≤ 8) : bj_T (bw_G l D c) Y_Co_isHeldIn 1 (0, 0, 0, 0) ad (q_b M (hd_all P N x s)) [.ref (ad k), .int x, .int s] M := by
  show bj_S _ _ _ _ _ _ 0 0 0 [some (.ref (ad k)), some (.int x), some (.int s), none, none] [] M
  refine bj_iload_n d_Co_isHeldIn_0 rfl rfl ?_
  refine bj_aload_n d_Co_isHeldIn_1 rfl rfl ?_
  refine bj_get d_Co_isHeldIn_2 in_Co rfl (by decide : 0 < 3) wf_Co_9 rfl h.1 rfl ?_
  refine bj_iushr (v := (ush x N)) d_Co_isHeldIn_5 rfl ?_
  refine bj_if_eq (tgt := 11) d_Co_isHeldIn_6 (by decide) (fun h6 => ?_) (fun h6 => ?_)
  · have hz := (ush_0 x (by omega)).mp h6
    refine bj_iconst (v := (nI 0)) d_Co_isHeldIn_11 (by decide) ?_
    refine bj_istore_n (L' := [some (.ref (ad k)), some (.int x), some (.int s), some (.int (nI 0)), none]) d_Co_isHeldIn_12 rfl (by decide) rfl ?_
    have lp : ∀ (a0 : Nat), ∀ (z : Option Value), (a0 ≤ N) → (hd_ok P N x s a0 0) → bj_S (bw_G l D c) Y_Co_isHeldIn 1 (0, 0, 0, 0) ad (q_b M (hd_all P N x s)) 0 0 13 [some (.ref (ad k)), some (.int x), some (.int s), some (.int (nI a0)), z] [] M := by
      intro a0 z
      induction hd_lp : N - a0 using Nat.strongRecOn generalizing a0 z with
      | ind d_lp ih_lp =>
        intro ha0 hs
        refine bj_iload_n d_Co_isHeldIn_13 rfl rfl ?_
        refine bj_aload_n d_Co_isHeldIn_14 rfl rfl ?_
        refine bj_get d_Co_isHeldIn_15 in_Co rfl (by decide : 0 < 3) wf_Co_9 rfl h.1 rfl ?_
        refine bj_icmp_geN (tgt := 75) d_Co_isHeldIn_18 (by decide) (by omega) (by omega) (fun h18 => ?_) (fun h18 => ?_)
        · refine bj_iconst (v := (nI 1)) d_Co_isHeldIn_75 (by decide) ?_
          exact bj_iret d_Co_isHeldIn_76 rfl rfl (Nat.le_refl _) (Nat.le_refl _) (qb_t ⟨hz, fun a b ha hb => hs a b ha hb (by omega)⟩)
        · refine bj_iconst (v := (nI 0)) d_Co_isHeldIn_21 (by decide) ?_
          refine bj_istore (L' := [some (.ref (ad k)), some (.int x), some (.int s), some (.int (nI a0)), some (.int (nI 0))]) d_Co_isHeldIn_22 (by decide) rfl ?_
          have inn : ∀ (b0 : Nat), (b0 ≤ N) → (hd_ok P N x s a0 b0) → bj_S (bw_G l D c) Y_Co_isHeldIn 1 (0, 0, 0, 0) ad (q_b M (hd_all P N x s)) 0 0 24 [some (.ref (ad k)), some (.int x), some (.int s), some (.int (nI a0)), some (.int (nI b0))] [] M := by
            intro b0
            induction hd_inn : N - b0 using Nat.strongRecOn generalizing b0 with
            | ind d_inn ih_inn =>
              intro hb0 hs2
              refine bj_iload d_Co_isHeldIn_24 rfl ?_
              refine bj_aload_n d_Co_isHeldIn_26 rfl rfl ?_
              refine bj_get d_Co_isHeldIn_27 in_Co rfl (by decide : 0 < 3) wf_Co_9 rfl h.1 rfl ?_
              refine bj_icmp_geN (tgt := 69) d_Co_isHeldIn_30 (by decide) (by omega) (by omega) (fun h30 => ?_) (fun h30 => ?_)
              · refine bj_iinc (v := (nI (a0 + 1))) (L' := [some (.ref (ad k)), some (.int x), some (.int s), some (.int (nI (a0 + 1))), some (.int (nI b0))]) d_Co_isHeldIn_69 rfl (bj_inc1 _) (by decide) rfl ?_
                refine bj_goto (tgt := 13) d_Co_isHeldIn_72 (by decide) ?_
                exact ih_lp (N - (a0 + 1)) (by omega) (a0 + 1) _ rfl (by omega) (hd_next hs2 (by omega))
              · refine bj_iload_n d_Co_isHeldIn_33 rfl rfl ?_
                refine bj_iload_n d_Co_isHeldIn_34 rfl rfl ?_
                refine bj_cnF sn_Co_56 d_Co_isHeldIn_35 (t_Of_has l D c ad M (by omega)) rfl rfl (by decide) (by decide) (by decide) (Nat.le_of_ble_eq_true rfl) rfl ?_
                refine bj_if_eq (tgt := 63) d_Co_isHeldIn_38 (by decide) (fun h38 => ?_) (fun h38 => ?_)
                · have e38 := bt_n0.mp h38
                  refine bj_iinc (v := (nI (b0 + 1))) (L' := [some (.ref (ad k)), some (.int x), some (.int s), some (.int (nI a0)), some (.int (nI (b0 + 1)))]) d_Co_isHeldIn_63 rfl (bj_inc1 _) (by decide) rfl ?_
                  refine bj_goto (tgt := 24) d_Co_isHeldIn_66 (by decide) ?_
                  exact ih_inn (N - (b0 + 1)) (by omega) (b0 + 1) rfl (by omega) (hd_step hs2 (by intro q1 q2; first | (rw [e38] at q1; cases q1; done) | (rw [e47] at q2; cases q2; done) | exact h58))
                · have e38 := bt_nn h38
                  refine bj_iload_n d_Co_isHeldIn_41 rfl rfl ?_
                  refine bj_iload d_Co_isHeldIn_42 rfl ?_
                  refine bj_cnF sn_Co_56 d_Co_isHeldIn_44 (t_Of_has l D c ad M (by omega)) rfl rfl (by decide) (by decide) (by decide) (Nat.le_of_ble_eq_true rfl) rfl ?_
                  refine bj_if_ne (tgt := 63) d_Co_isHeldIn_47 (by decide) (fun h47 => ?_) (fun h47 => ?_)
                  · have e47 := bt_nn h47
                    refine bj_iinc (v := (nI (b0 + 1))) (L' := [some (.ref (ad k)), some (.int x), some (.int s), some (.int (nI a0)), some (.int (nI (b0 + 1)))]) d_Co_isHeldIn_63 rfl (bj_inc1 _) (by decide) rfl ?_
                    refine bj_goto (tgt := 24) d_Co_isHeldIn_66 (by decide) ?_
                    exact ih_inn (N - (b0 + 1)) (by omega) (b0 + 1) rfl (by omega) (hd_step hs2 (by intro q1 q2; first | (rw [e38] at q1; cases q1; done) | (rw [e47] at q2; cases q2; done) | exact h58))
                  · have e47 := bt_n0.mp h47
                    refine bj_aload_n d_Co_isHeldIn_50 rfl rfl ?_
                    refine bj_iload_n d_Co_isHeldIn_51 rfl rfl ?_
                    refine bj_iload d_Co_isHeldIn_52 rfl ?_
                    refine bj_cvF sv_Co_53 d_Co_isHeldIn_54 (t_Co_direct l D c ad M h hN (by omega) (by omega)) rfl rfl (by decide) (by decide) (by decide) (Nat.le_of_ble_eq_true rfl) rfl h.1 rfl rfl ?_
                    refine bj_iload_n d_Co_isHeldIn_57 rfl rfl ?_
                    refine bj_icmp_le (tgt := 63) d_Co_isHeldIn_58 (by decide) (fun h58 => ?_) (fun h58 => ?_)
                    · refine bj_iinc (v := (nI (b0 + 1))) (L' := [some (.ref (ad k)), some (.int x), some (.int s), some (.int (nI a0)), some (.int (nI (b0 + 1)))]) d_Co_isHeldIn_63 rfl (bj_inc1 _) (by decide) rfl ?_
                      refine bj_goto (tgt := 24) d_Co_isHeldIn_66 (by decide) ?_
                      exact ih_inn (N - (b0 + 1)) (by omega) (b0 + 1) rfl (by omega) (hd_step hs2 (by intro q1 q2; first | (rw [e38] at q1; cases q1; done) | (rw [e47] at q2; cases q2; done) | exact h58))
                    · refine bj_iconst (v := (nI 0)) d_Co_isHeldIn_61 (by decide) ?_
                      exact bj_iret d_Co_isHeldIn_62 rfl rfl (Nat.le_refl _) (Nat.le_refl _) (qb_f (fun q => h58 (q.2 a0 b0 (by omega) (by omega) e38 e47)))
          exact inn 0 (Nat.zero_le _) hs
    exact lp 0 none (Nat.zero_le _) (fun a b _ _ hab => absurd hab (by omega))
  · refine bj_iconst (v := (nI 0)) d_Co_isHeldIn_9 (by decide) ?_
    exact bj_iret d_Co_isHeldIn_10 rfl rfl (Nat.le_refl _) (Nat.le_refl _) (qb_f (fun q => h6 ((ush_0 x (by omega)).mpr q.1)))
set_option maxRecDepth 100000 in
set_option maxHeartbeats 4000000 in
/-- isWay -/
theorem t_Co_isWay {k N a b : Nat} {vs s w : Int32} {P : Nat → Nat → Int32} (h : co_ok c ad M k N vs P) (hN : N ≤ 8) (ha : a < N) (hb : b < N) : bj_T (bw_G l D c) Y_Co_isWay 1 (0, 0, 0, 0) ad (q_b M (wy P N a b s w)) [.ref (ad k), .int (nI a), .int (nI b), .int s, .int w] M := by
  show bj_S _ _ _ _ _ _ 0 0 0 [some (.ref (ad k)), some (.int (nI a)), some (.int (nI b)), some (.int s), some (.int w), none, none, none, none] [] M
  refine bj_iload d_Co_isWay_0 rfl ?_
  refine bj_iconst (v := (nI 0)) d_Co_isWay_2 (by decide) ?_
  refine bj_cnF sn_Co_49 d_Co_isWay_3 (t_Of_nibble l D c ad M (by decide)) rfl rfl (by decide) (by decide) (by decide) (Nat.le_of_ble_eq_true rfl) rfl ?_
  refine bj_iload_n d_Co_isWay_6 rfl rfl ?_
  refine bj_iconst (v := (nI 1)) d_Co_isWay_7 (by decide) ?_
  refine bj_iadd (v := (nI (a + 1))) d_Co_isWay_8 (nI_add _ _) ?_
  refine bj_icmp_eqN (tgt := 14) d_Co_isWay_9 (by decide) (by have := nb_lt w 0; omega) (by have := nb_lt w 0; omega) (fun h9 => ?_) (fun h9 => ?_)
  · refine bj_iload_n d_Co_isWay_14 rfl rfl ?_
    refine bj_istore (L' := [some (.ref (ad k)), some (.int (nI a)), some (.int (nI b)), some (.int s), some (.int w), some (.int (nI a)), none, none, none]) d_Co_isWay_15 (by decide) rfl ?_
    refine bj_iload d_Co_isWay_17 rfl ?_
    refine bj_iconst (v := (nI 4)) d_Co_isWay_19 (by decide) ?_
    refine bj_iushr (v := (ush w 4)) d_Co_isWay_20 rfl ?_
    refine bj_istore (L' := [some (.ref (ad k)), some (.int (nI a)), some (.int (nI b)), some (.int s), some (.int w), some (.int (nI a)), some (.int (ush w 4)), none, none]) d_Co_isWay_21 (by decide) rfl ?_
    refine bj_iconst (v := (nI 1)) d_Co_isWay_23 (by decide) ?_
    refine bj_istore (L' := [some (.ref (ad k)), some (.int (nI a)), some (.int (nI b)), some (.int s), some (.int w), some (.int (nI a)), some (.int (ush w 4)), some (.int (nI 1)), none]) d_Co_isWay_24 (by decide) rfl ?_
    have lp : ∀ (i : Nat), ∀ (p : Nat), ∀ (x : Int32), ∀ (z : Option Value), (wy_in P N a s w i p x) → bj_S (bw_G l D c) Y_Co_isWay 1 (0, 0, 0, 0) ad (q_b M (wy P N a b s w)) 0 0 26 [some (.ref (ad k)), some (.int (nI a)), some (.int (nI b)), some (.int s), some (.int w), some (.int (nI p)), some (.int x), some (.int (nI i)), z] [] M := by
      intro i p x z
      induction hd_lp : 8 - i using Nat.strongRecOn generalizing i p x z with
      | ind d_lp ih_lp =>
        intro hi2
        have hi1 := hi2.2.1
        have hi5 := hi2.2.2.2.2.1
        refine bj_iload d_Co_isWay_26 rfl ?_
        refine bj_bipush (v := (nI 8)) d_Co_isWay_28 (by decide) ?_
        refine bj_icmp_geN (tgt := 92) d_Co_isWay_30 (by decide) (by have := nb_lt w i; omega) (by have := nb_lt w i; omega) (fun h30 => ?_) (fun h30 => ?_)
        · have hz : ∀ m, i ≤ m → m < 8 → nb w m = 0 := fun m h8 h9 => by omega
          refine bj_iload d_Co_isWay_92 rfl ?_
          refine bj_iload_n d_Co_isWay_94 rfl rfl ?_
          refine bj_icmp_neN (tgt := 102) d_Co_isWay_95 (by decide) (by have := nb_lt w i; omega) (by have := nb_lt w i; omega) (fun h95 => ?_) (fun h95 => ?_)
          · refine bj_iconst (v := (nI 0)) d_Co_isWay_102 (by decide) ?_
            exact bj_iret d_Co_isWay_103 rfl rfl (Nat.le_refl _) (Nat.le_refl _) (qb_f (fun q => h95 ((wy_end hi2 hz).mp q)))
          · refine bj_iconst (v := (nI 1)) d_Co_isWay_98 (by decide) ?_
            refine bj_goto (tgt := 103) d_Co_isWay_99 (by decide) ?_
            exact bj_iret d_Co_isWay_103 rfl rfl (Nat.le_refl _) (Nat.le_refl _) (qb_t ((wy_end hi2 hz).mpr (by omega)))
        · refine bj_iload d_Co_isWay_33 rfl ?_
          refine bj_if_eq (tgt := 92) d_Co_isWay_35 (by decide) (fun h35 => ?_) (fun h35 => ?_)
          · have hz := (ush_zero w h30).mp ((hi2.2.2.2.2.2.1 h30).symm.trans h35)
            refine bj_iload d_Co_isWay_92 rfl ?_
            refine bj_iload_n d_Co_isWay_94 rfl rfl ?_
            refine bj_icmp_neN (tgt := 102) d_Co_isWay_95 (by decide) (by have := nb_lt w i; omega) (by have := nb_lt w i; omega) (fun h95 => ?_) (fun h95 => ?_)
            · refine bj_iconst (v := (nI 0)) d_Co_isWay_102 (by decide) ?_
              exact bj_iret d_Co_isWay_103 rfl rfl (Nat.le_refl _) (Nat.le_refl _) (qb_f (fun q => h95 ((wy_end hi2 hz).mp q)))
            · refine bj_iconst (v := (nI 1)) d_Co_isWay_98 (by decide) ?_
              refine bj_goto (tgt := 103) d_Co_isWay_99 (by decide) ?_
              exact bj_iret d_Co_isWay_103 rfl rfl (Nat.le_refl _) (Nat.le_refl _) (qb_t ((wy_end hi2 hz).mpr (by omega)))
          · refine bj_iload d_Co_isWay_38 rfl ?_
            refine bj_iconst (v := (nI 0)) d_Co_isWay_40 (by decide) ?_
            have e9 : nb x 0 = nb w i := by rw [hi2.2.2.2.2.2.1 h30]; exact ush_nb w h30
            refine bj_cnF sn_Co_49 d_Co_isWay_41 (t_Of_nibble (w := x) (i := 0) l D c ad M (by decide)) rfl rfl (by decide) (by decide) (by decide) (Nat.le_of_ble_eq_true rfl) rfl ?_
            rw [e9]
            refine bj_iconst (v := (nI 1)) d_Co_isWay_44 (by decide) ?_
            rcases Nat.eq_zero_or_pos (nb w i) with z0 | z0
            · refine bj_isub (v := -1) d_Co_isWay_45 (by rw [z0]; decide) ?_
              refine bj_istore (L' := [some (.ref (ad k)), some (.int (nI a)), some (.int (nI b)), some (.int s), some (.int w), some (.int (nI p)), some (.int x), some (.int (nI i)), some (.int (-1))]) d_Co_isWay_46 (by decide) rfl ?_
              refine bj_iload d_Co_isWay_48 rfl ?_
              refine bj_if_lt (tgt := 74) d_Co_isWay_50 (by decide) (fun h50 => ?_) (fun h50 => ?_)
              · refine bj_iconst (v := (nI 0)) d_Co_isWay_74 (by decide) ?_
                exact bj_iret d_Co_isWay_75 rfl rfl (Nat.le_refl _) (Nat.le_refl _) (qb_f (wy_bad hi2 h30 h35 (by omega)))
              · exact absurd (by decide) h50
            · refine bj_isub (v := nI (nb w i - 1)) d_Co_isWay_45 (pk_sub z0) ?_
              refine bj_istore (L' := [some (.ref (ad k)), some (.int (nI a)), some (.int (nI b)), some (.int s), some (.int w), some (.int (nI p)), some (.int x), some (.int (nI i)), some (.int (nI (nb w i - 1)))]) d_Co_isWay_46 (by decide) rfl ?_
              refine bj_iload d_Co_isWay_48 rfl ?_
              refine bj_if_ltN (tgt := 74) d_Co_isWay_50 (by decide) (by have := nb_lt w i; omega) ?_
              refine bj_iload d_Co_isWay_53 rfl ?_
              refine bj_aload_n d_Co_isWay_55 rfl rfl ?_
              refine bj_get d_Co_isWay_56 in_Co rfl (by decide : 0 < 3) wf_Co_9 rfl h.1 rfl ?_
              refine bj_icmp_geN (tgt := 74) d_Co_isWay_59 (by decide) (by have := nb_lt w i; omega) (by have := nb_lt w i; omega) (fun h59 => ?_) (fun h59 => ?_)
              · refine bj_iconst (v := (nI 0)) d_Co_isWay_74 (by decide) ?_
                exact bj_iret d_Co_isWay_75 rfl rfl (Nat.le_refl _) (Nat.le_refl _) (qb_f (wy_bad hi2 h30 h35 (by first | omega | exact fun q => h71 q.2.2)))
              · refine bj_aload_n d_Co_isWay_62 rfl rfl ?_
                refine bj_iload d_Co_isWay_63 rfl ?_
                refine bj_iload d_Co_isWay_65 rfl ?_
                refine bj_cvF sv_Co_53 d_Co_isWay_67 (t_Co_direct l D c ad M h hN hi2.2.2.2.2.1 (by omega)) rfl rfl (by decide) (by decide) (by decide) (Nat.le_of_ble_eq_true rfl) rfl h.1 rfl rfl ?_
                refine bj_iload_n d_Co_isWay_70 rfl rfl ?_
                refine bj_icmp_ge (tgt := 76) d_Co_isWay_71 (by decide) (fun h71 => ?_) (fun h71 => ?_)
                · refine bj_iload d_Co_isWay_76 rfl ?_
                  refine bj_istore (L' := [some (.ref (ad k)), some (.int (nI a)), some (.int (nI b)), some (.int s), some (.int w), some (.int (nI (nb w i - 1))), some (.int x), some (.int (nI i)), some (.int (nI (nb w i - 1)))]) d_Co_isWay_78 (by decide) rfl ?_
                  refine bj_iload d_Co_isWay_80 rfl ?_
                  refine bj_iconst (v := (nI 4)) d_Co_isWay_82 (by decide) ?_
                  refine bj_iushr (v := (ush x 4)) d_Co_isWay_83 rfl ?_
                  refine bj_istore (L' := [some (.ref (ad k)), some (.int (nI a)), some (.int (nI b)), some (.int s), some (.int w), some (.int (nI (nb w i - 1))), some (.int (ush x 4)), some (.int (nI i)), some (.int (nI (nb w i - 1)))]) d_Co_isWay_84 (by decide) rfl ?_
                  refine bj_iinc (v := (nI (i + 1))) (L' := [some (.ref (ad k)), some (.int (nI a)), some (.int (nI b)), some (.int s), some (.int w), some (.int (nI (nb w i - 1))), some (.int (ush x 4)), some (.int (nI (i + 1))), some (.int (nI (nb w i - 1)))]) d_Co_isWay_86 rfl (bj_inc1 _) (by decide) rfl ?_
                  refine bj_goto (tgt := 26) d_Co_isWay_89 (by decide) ?_
                  exact ih_lp (8 - (i + 1)) (by omega) (i + 1) (nb w i - 1) (ush x 4) _ rfl (wy_step hi2 h30 z0 (by omega) h71)
                · refine bj_iconst (v := (nI 0)) d_Co_isWay_74 (by decide) ?_
                  exact bj_iret d_Co_isWay_75 rfl rfl (Nat.le_refl _) (Nat.le_refl _) (qb_f (wy_bad hi2 h30 h35 (by first | omega | exact fun q => h71 q.2.2)))
    exact lp 1 a (ush w 4) none ⟨by decide, by decide, h9, h9, ha, fun _ => rfl, fun j hj => absurd hj (by omega)⟩
  · refine bj_iconst (v := (nI 0)) d_Co_isWay_12 (by decide) ?_
    exact bj_iret d_Co_isWay_13 rfl rfl (Nat.le_refl _) (Nat.le_refl _) (qb_f (fun ⟨m, _, _, _, q, _⟩ => h9 q))
end C5
