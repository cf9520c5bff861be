/-! the reference: isWay, proves (walks by gen/m_mo5.py) -/
section M5

theorem wyn {P : Nat → Nat → Int32} {N a b n : Nat} {s w : Int32} (hab : a ≠ b) (hn : ∀ j, j < n → 0 < nb w j) (h8 : n ≤ 8) (hx : n = 8 ∨ nb w n = 0) : wy P N a b s w ↔ (2 ≤ n ∧ (∀ j, n ≤ j → j < 8 → nb w j = 0) ∧ nb w 0 = a + 1 ∧ nb w (n - 1) = b + 1 ∧ ∀ j, j + 1 < n → nb w (j + 1) ≤ N ∧ s ≤ dir P (nb w j - 1) (nb w (j + 1) - 1)) := by
  constructor
  · rintro ⟨m, m1, m2, m3, m4, m5, m6⟩
    have e : m = n := by
      rcases Nat.lt_trichotomy m n with q | q | q
      · have h1 := m3 m (Nat.le_refl _) (by omega)
        have h2 := hn m q
        omega
      · exact q
      · have h1 : nb w n = 0 := by
          rcases hx with r | r
          · omega
          · exact r
        rcases Nat.eq_zero_or_pos n with r | r
        · rw [r] at h1; omega
        · have h2 := (m6 (n - 1) (by omega)).1
          rw [show n - 1 + 1 = n by omega] at h2
          omega
    subst e
    refine ⟨?_, m3, m4, m5, fun j hj => (m6 j hj).2⟩
    rcases Nat.lt_or_ge m 2 with q | q
    · exfalso
      rw [show m = 1 by omega] at m5
      have : nb w 0 = b + 1 := m5
      omega
    · exact q
  · rintro ⟨g1, g2, g3, g4, g5⟩
    exact ⟨n, by omega, h8, g2, g3, g4, fun j hj => ⟨hn (j + 1) hj, (g5 j hj).1, (g5 j hj).2⟩⟩
/-- a step of the way, as the reference sees it -/
def wst (p : Nat → Nat → Nat) (N : Nat) (s w : Int32) (j : Nat) : Prop := 0 < drn (pz N p) (nb w j - 1) (nb w (j + 1) - 1) ∧ ¬ nI (drn (pz N p) (nb w j - 1) (nb w (j + 1) - 1)) < s
def wba (N a b n : Nat) (w : Int32) : Prop := (nb w 0 - 1 = a ∧ nb w (n - 1) - 1 = b) ∧ ∀ j, j < n → nb w j ≤ N
theorem wyf {p : Nat → Nat → Nat} {N a b n : Nat} {s w : Int32} (hab : a ≠ b) (hs : 0 < s) (hn : ∀ j, j < n → 0 < nb w j) (h8 : n ≤ 8) (hx : n = 8 ∨ nb w n = 0) (h2 : 2 ≤ n) (hz : ∀ j, n ≤ j → j < 8 → nb w j = 0) (hp : ∀ a b, a < N → b < N → p a b < 2 ^ 31) (ha : a < N) : (wba N a b n w ∧ ∀ j, j + 1 < n → wst p N s w j) ↔ wy (fun a b => nI (p a b)) N a b s w := by
  rw [wyn hab hn h8 hx]
  have key : ∀ j, j + 1 < n → nb w j ≤ N → nb w (j + 1) ≤ N → (wst p N s w j ↔ s ≤ dir (fun a b => nI (p a b)) (nb w j - 1) (nb w (j + 1) - 1)) := by
    intro j hj g1 g2
    have q1 := hn j (by omega)
    have q2 := hn (j + 1) hj
    unfold wst
    rw [drn_pz_in (by omega) (by omega), dir_nI (p := p) (N := N) (fun _ _ _ _ => rfl) hp (by omega) (by omega)]
    constructor
    · rintro ⟨-, r⟩
      exact Int32.not_lt.mp r
    · intro r
      refine ⟨?_, Int32.not_lt.mpr r⟩
      rcases Nat.eq_zero_or_pos (drn p (nb w j - 1) (nb w (j + 1) - 1)) with e | e
      · rw [e] at r
        exact absurd (Int32.lt_of_lt_of_le hs r) (by decide)
      · exact e
  constructor
  · rintro ⟨⟨⟨g1, g2⟩, g3⟩, g4⟩
    have q1 := hn 0 (by omega)
    have q2 := hn (n - 1) (by omega)
    exact ⟨h2, hz, by omega, by omega, fun j hj => ⟨g3 (j + 1) hj, (key j hj (g3 j (by omega)) (g3 (j + 1) hj)).mp (g4 j hj)⟩⟩
  · rintro ⟨-, -, g3, g4, g5⟩
    have hle : ∀ j, j < n → nb w j ≤ N := fun j hj => by
      cases j with
      | zero => omega
      | succ j => exact (g5 j hj).1
    exact ⟨⟨⟨by omega, by omega⟩, hle⟩, fun j hj => (key j hj (hle j (by omega)) (hle (j + 1) hj)).mpr (g5 j hj).2⟩
theorem nb0 (w : Int32) : w &&& nI 15 = nI (nb w 0) := by
  rw [pk_and w (m := nI 15) 4 (by decide)]
  unfold nb
  simp
/-- a set of candidates only -/
theorem set_rg {N : Nat} {x : Int32} (hN : N ≤ 8) : (¬ x < 0 ∧ ¬ (nI 1) <<< ((nI N) &&& 31) ≤ x) ↔ ∀ i, N ≤ i → i < 32 → bt x i = false := by
  have hp : ∀ N, N < 9 → (nI 1) <<< ((nI N) &&& 31) = nI (2 ^ N) := by decide +kernel
  have h256 : 2 ^ N ≤ 256 := Nat.pow_le_pow_right (by decide) hN
  rw [hp N (by omega)]
  constructor
  · rintro ⟨h1, h2⟩ i h3 h4
    obtain ⟨m, hm, rfl⟩ := nI_of h1
    have hlt : m < 2 ^ N := by
      rcases Nat.lt_or_ge m (2 ^ N) with q | q
      · exact q
      · exact absurd ((nI_leI (by omega) hm).mpr q) h2
    have e : bt (nI m) i = m.testBit i := by
      show (nI m).toBitVec.getLsbD i = _
      rw [BitVec.getLsbD, pk_tn (by omega)]
    rw [e]
    exact Nat.testBit_lt_two_pow (Nat.lt_of_lt_of_le hlt (Nat.pow_le_pow_right (by decide) h3))
  · intro h
    have h1 : x.toBitVec.toNat < 2 ^ N := by
      apply Nat.lt_pow_two_of_testBit
      intro i hi
      rcases Nat.lt_or_ge i 32 with q | q
      · exact h i hi q
      · exact Nat.testBit_lt_two_pow (Nat.lt_of_lt_of_le x.toBitVec.isLt (Nat.pow_le_pow_right (by decide) q))
    have e : x = nI x.toBitVec.toNat := by
      apply Int32.toBitVec_inj.mp
      apply BitVec.eq_of_toNat_eq
      rw [pk_tn (by omega)]
    rw [e]
    exact ⟨nI_pos (by omega), fun q => by
      have := (nI_leI (by omega) (by omega)).mp q
      omega⟩
/-- no step above s leads out, as far as k -/
def hdk (p : Nat → Nat → Nat) (N : Nat) (x s : Int32) (k : Nat) : Prop := ∀ j, j < k → bt x (j / 8) = true → bt x (j % 8) = false → ¬ s < nI (drn (pz N p) (j / 8) (j % 8))
theorem hdk_e {p : Nat → Nat → Nat} {N : Nat} {x s : Int32} (hN : N ≤ 8) (hp : ∀ a b, a < N → b < N → p a b < 2 ^ 31) (hb : ∀ i, N ≤ i → i < 32 → bt x i = false) (h0 : 0 ≤ s) : hdk p N x s 64 ↔ hd_all (fun a b => nI (p a b)) N x s := by
  constructor
  · intro h
    refine ⟨hb, fun a b ha hb9 h1 h2 => ?_⟩
    have := h (8 * a + b) (by omega)
    rw [show (8 * a + b) / 8 = a by omega, show (8 * a + b) % 8 = b by omega, drn_pz_in ha hb9] at this
    rw [dir_nI (p := p) (N := N) (fun _ _ _ _ => rfl) hp ha hb9]
    exact Int32.not_lt.mp (this h1 h2)
  · rintro ⟨-, h⟩ j hj h1 h2
    by_cases e : j / 8 < N ∧ j % 8 < N
    · have := h _ _ e.1 e.2 h1 h2
      rw [dir_nI (p := p) (N := N) (fun _ _ _ _ => rfl) hp e.1 e.2] at this
      rw [drn_pz_in e.1 e.2]
      exact Int32.not_lt.mpr this
    · rw [drn_pz, if_neg e]
      exact Int32.not_lt.mpr h0
variable (l : Launch) (D : va_G) (c : Nat → ClassId) (ad : Nat → Nat) (M : bj_M)
set_option maxRecDepth 100000 in
set_option maxHeartbeats 4000000 in
/-- isWay -/
theorem t_Mo_isWay {N op : Nat} {cd li : Int32} {se : Bool} {dw sg sz : Nat → Nat} {rk : Nat → Nat → Int32} {tm : Nat → Nat → Nat} (hm0 : mo_ok c ad M N cd se op li dw sg sz rk tm) (hN : N ≤ 8) {p : Nat → Nat → Nat} {a b : Nat} {s w : Int32} (hcn : cn_ok c M N p) (hp : ∀ a b, a < N → b < N → p a b < 2 ^ 31) (hz31 : ∀ a b, drn (pz N p) a b < 2 ^ 31) (ha : a < N) (hb9 : b < N) (hab : a ≠ b) (hs : 0 < s) : bj_T (bw_G l D c) Y_Mo_isWay 0 (0, 0, 0, 0) ad (q_b M (wy (fun a b => nI (p a b)) N a b s w)) [.ref (ad 80), .int (nI a), .int (nI b), .int s, .int w] M := by
  show bj_S _ _ _ _ _ _ 0 0 0 [some (.ref (ad 80)), some (.int (nI a)), some (.int (nI b)), some (.int s), some (.int w), none, none, none, none, none] [] M
  refine bj_iconst (v := (nI 0)) d_Mo_isWay_0 (by decide) ?_
  refine bj_istore (L' := [some (.ref (ad 80)), some (.int (nI a)), some (.int (nI b)), some (.int s), some (.int w), some (.int (nI 0)), none, none, none, none]) d_Mo_isWay_1 (by decide) rfl ?_
  have l1 : ∀ (n : Nat), (n ≤ 8) → (∀ j, j < n → 0 < nb w j) → bj_S (bw_G l D c) Y_Mo_isWay 0 (0, 0, 0, 0) ad (q_b M (wy (fun a b => nI (p a b)) N a b s w)) 0 0 3 [some (.ref (ad 80)), some (.int (nI a)), some (.int (nI b)), some (.int s), some (.int w), some (.int (nI n)), none, none, none, none] [] M := by
    intro n
    induction hd_l1 : 8 - n using Nat.strongRecOn generalizing n with
    | ind d_l1 ih_l1 =>
      intro h8 hn
      refine bj_iload d_Mo_isWay_3 rfl ?_
      refine bj_bipush (v := (nI 8)) d_Mo_isWay_5 (by decide) ?_
      refine bj_icmp_geN (tgt := 29) d_Mo_isWay_7 (by decide) (by first | omega | exact Nat.lt_trans (nb_lt w _) (by decide) | exact hz31 _ _ | exact Nat.lt_of_le_of_lt (Nat.sub_le _ _) (Nat.lt_trans (nb_lt w _) (by decide))) (by first | omega | exact Nat.lt_trans (nb_lt w _) (by decide) | exact hz31 _ _ | exact Nat.lt_of_le_of_lt (Nat.sub_le _ _) (Nat.lt_trans (nb_lt w _) (by decide))) (fun h7 => ?_) (fun h7 => ?_)
      · have hxn : n = 8 ∨ nb w n = 0 := by first | exact Or.inl (by omega) | exact Or.inr (by omega)
        refine bj_iload d_Mo_isWay_29 rfl ?_
        refine bj_iconst (v := (nI 2)) d_Mo_isWay_31 (by decide) ?_
        refine bj_icmp_ltN (tgt := 52) d_Mo_isWay_32 (by decide) (by first | omega | exact Nat.lt_trans (nb_lt w _) (by decide) | exact hz31 _ _ | exact Nat.lt_of_le_of_lt (Nat.sub_le _ _) (Nat.lt_trans (nb_lt w _) (by decide))) (by first | omega | exact Nat.lt_trans (nb_lt w _) (by decide) | exact hz31 _ _ | exact Nat.lt_of_le_of_lt (Nat.sub_le _ _) (Nat.lt_trans (nb_lt w _) (by decide))) (fun h32 => ?_) (fun h32 => ?_)
        · refine bj_iconst (v := (nI 0)) d_Mo_isWay_52 (by decide) ?_
          exact bj_iret d_Mo_isWay_53 rfl rfl (Nat.le_refl _) (Nat.le_refl _) (qb_f (fun q => by obtain ⟨q1, q2, -⟩ := (wyn hab hn h8 hxn).mp q; first | omega | exact h49 ((ush_zero w (by omega)).mpr q2)))
        · refine bj_iload d_Mo_isWay_35 rfl ?_
          refine bj_bipush (v := (nI 8)) d_Mo_isWay_37 (by decide) ?_
          refine bj_icmp_geN (tgt := 54) d_Mo_isWay_39 (by decide) (by first | omega | exact Nat.lt_trans (nb_lt w _) (by decide) | exact hz31 _ _ | exact Nat.lt_of_le_of_lt (Nat.sub_le _ _) (Nat.lt_trans (nb_lt w _) (by decide))) (by first | omega | exact Nat.lt_trans (nb_lt w _) (by decide) | exact hz31 _ _ | exact Nat.lt_of_le_of_lt (Nat.sub_le _ _) (Nat.lt_trans (nb_lt w _) (by decide))) (fun h39 => ?_) (fun h39 => ?_)
          · have hzz : ∀ j, n ≤ j → j < 8 → nb w j = 0 := by first | (intro j h1 h2; omega) | exact (ush_zero w (by omega)).mp h49
            have hq0 := hn 0 (by omega)
            have hq1 := hn (n - 1) (by omega)
            refine bj_iload d_Mo_isWay_54 rfl ?_
            refine bj_bipush (v := (nI 15)) d_Mo_isWay_56 (by decide) ?_
            refine bj_iand (v := (nI (nb w 0))) d_Mo_isWay_58 (nb0 w) ?_
            refine bj_iconst (v := (nI 1)) d_Mo_isWay_59 (by decide) ?_
            refine bj_isub (v := (nI ((nb w 0) - 1))) d_Mo_isWay_60 (pk_sub (by omega)) ?_
            refine bj_iload_n d_Mo_isWay_61 rfl rfl ?_
            refine bj_icmp_neN (tgt := 87) d_Mo_isWay_62 (by decide) (by first | omega | exact Nat.lt_trans (nb_lt w _) (by decide) | exact hz31 _ _ | exact Nat.lt_of_le_of_lt (Nat.sub_le _ _) (Nat.lt_trans (nb_lt w _) (by decide))) (by first | omega | exact Nat.lt_trans (nb_lt w _) (by decide) | exact hz31 _ _ | exact Nat.lt_of_le_of_lt (Nat.sub_le _ _) (Nat.lt_trans (nb_lt w _) (by decide))) (fun h62 => ?_) (fun h62 => ?_)
            · refine bj_iconst (v := (nI 0)) d_Mo_isWay_87 (by decide) ?_
              refine bj_istore (L' := [some (.ref (ad 80)), some (.int (nI a)), some (.int (nI b)), some (.int s), some (.int w), some (.int (nI n)), some (.int (nI 0)), none, none, none]) d_Mo_isWay_88 (by decide) rfl ?_
              refine bj_iconst (v := (nI 0)) d_Mo_isWay_90 (by decide) ?_
              refine bj_istore (L' := [some (.ref (ad 80)), some (.int (nI a)), some (.int (nI b)), some (.int s), some (.int w), some (.int (nI n)), some (.int (nI 0)), some (.int (nI 0)), none, none]) d_Mo_isWay_91 (by decide) rfl ?_
              have l2 : ∀ (i : Nat), ∀ (g : Bool), (i ≤ n) → (g = true ↔ ((nb w 0 - 1 = a ∧ nb w (n - 1) - 1 = b) ∧ ∀ j, j < i → nb w j ≤ N)) → bj_S (bw_G l D c) Y_Mo_isWay 0 (0, 0, 0, 0) ad (q_b M (wy (fun a b => nI (p a b)) N a b s w)) 0 0 93 [some (.ref (ad 80)), some (.int (nI a)), some (.int (nI b)), some (.int s), some (.int w), some (.int (nI n)), some (.int (bt_n g)), some (.int (nI i)), none, none] [] M := by
                intro i g
                induction hd_l2 : 8 - i using Nat.strongRecOn generalizing i g with
                | ind d_l2 ih_l2 =>
                  intro hi hg
                  refine bj_iload d_Mo_isWay_93 rfl ?_
                  refine bj_iload d_Mo_isWay_95 rfl ?_
                  refine bj_icmp_geN (tgt := 135) d_Mo_isWay_97 (by decide) (by first | omega | exact Nat.lt_trans (nb_lt w _) (by decide) | exact hz31 _ _ | exact Nat.lt_of_le_of_lt (Nat.sub_le _ _) (Nat.lt_trans (nb_lt w _) (by decide))) (by first | omega | exact Nat.lt_trans (nb_lt w _) (by decide) | exact hz31 _ _ | exact Nat.lt_of_le_of_lt (Nat.sub_le _ _) (Nat.lt_trans (nb_lt w _) (by decide))) (fun h97 => ?_) (fun h97 => ?_)
                  · refine bj_iconst (v := (nI 0)) d_Mo_isWay_135 (by decide) ?_
                    refine bj_istore (L' := [some (.ref (ad 80)), some (.int (nI a)), some (.int (nI b)), some (.int s), some (.int w), some (.int (nI n)), some (.int (bt_n g)), some (.int (nI 0)), none, none]) d_Mo_isWay_136 (by decide) rfl ?_
                    have l3 : ∀ (i : Nat), ∀ (g : Bool), ∀ (z8 : Option Value), ∀ (z9 : Option Value), (i + 1 ≤ n) → (g = true ↔ (wba N a b n w ∧ ∀ j, j < i → wst p N s w j)) → bj_S (bw_G l D c) Y_Mo_isWay 0 (0, 0, 0, 0) ad (q_b M (wy (fun a b => nI (p a b)) N a b s w)) 0 0 138 [some (.ref (ad 80)), some (.int (nI a)), some (.int (nI b)), some (.int s), some (.int w), some (.int (nI n)), some (.int (bt_n g)), some (.int (nI i)), z8, z9] [] M := by
                      intro i g z8 z9
                      induction hd_l3 : 8 - i using Nat.strongRecOn generalizing i g z8 z9 with
                      | ind d_l3 ih_l3 =>
                        intro hi hg
                        refine bj_iload d_Mo_isWay_138 rfl ?_
                        refine bj_iconst (v := (nI 1)) d_Mo_isWay_140 (by decide) ?_
                        refine bj_iadd (v := (nI (i + 1))) d_Mo_isWay_141 (nI_add _ _) ?_
                        refine bj_iload d_Mo_isWay_142 rfl ?_
                        refine bj_icmp_geN (tgt := 228) d_Mo_isWay_144 (by decide) (by first | omega | exact Nat.lt_trans (nb_lt w _) (by decide) | exact hz31 _ _ | exact Nat.lt_of_le_of_lt (Nat.sub_le _ _) (Nat.lt_trans (nb_lt w _) (by decide))) (by first | omega | exact Nat.lt_trans (nb_lt w _) (by decide) | exact hz31 _ _ | exact Nat.lt_of_le_of_lt (Nat.sub_le _ _) (Nat.lt_trans (nb_lt w _) (by decide))) (fun h144 => ?_) (fun h144 => ?_)
                        · refine bj_iload d_Mo_isWay_228 rfl ?_
                          exact bj_iret d_Mo_isWay_230 rfl nar_bt (Nat.le_refl _) (Nat.le_refl _) ⟨g, rfl, (by first | exact hg.trans (Iff.trans ⟨fun q => ⟨q.1, fun j hj => q.2 j (by omega)⟩, fun q => ⟨q.1, fun j hj => q.2 j (by omega)⟩⟩ (wyf hab hs hn h8 hxn (by omega) hzz hp ha)) | exact ⟨fun e => (by rw [bt_n0.mp h149] at e; cases e), fun q => hg.mpr ((fun q => ⟨q.1, fun j hj => q.2 j (by omega)⟩) ((wyf hab hs hn h8 hxn (by omega) hzz hp ha).mpr q))⟩), rfl⟩
                        · refine bj_iload d_Mo_isWay_147 rfl ?_
                          refine bj_if_eq (tgt := 228) d_Mo_isWay_149 (by decide) (fun h149 => ?_) (fun h149 => ?_)
                          · refine bj_iload d_Mo_isWay_228 rfl ?_
                            exact bj_iret d_Mo_isWay_230 rfl nar_bt (Nat.le_refl _) (Nat.le_refl _) ⟨g, rfl, (by first | exact hg.trans (Iff.trans ⟨fun q => ⟨q.1, fun j hj => q.2 j (by omega)⟩, fun q => ⟨q.1, fun j hj => q.2 j (by omega)⟩⟩ (wyf hab hs hn h8 hxn (by omega) hzz hp ha)) | exact ⟨fun e => (by rw [bt_n0.mp h149] at e; cases e), fun q => hg.mpr ((fun q => ⟨q.1, fun j hj => q.2 j (by omega)⟩) ((wyf hab hs hn h8 hxn (by omega) hzz hp ha).mpr q))⟩), rfl⟩
                          · have hwb := (hg.mp (bt_nn h149)).1
                            have hk1 := hwb.2 i (by omega)
                            have hk2 := hwb.2 (i + 1) (by omega)
                            have hp1 := hn i (by omega)
                            have hp2 := hn (i + 1) (by omega)
                            refine bj_iload d_Mo_isWay_152 rfl ?_
                            refine bj_iconst (v := (nI 4)) d_Mo_isWay_154 (by decide) ?_
                            refine bj_iload d_Mo_isWay_155 rfl ?_
                            refine bj_imul (v := (nI (4 * i))) d_Mo_isWay_157 (pk_mul _ _) ?_
                            refine bj_iushr (v := (w.toUInt32 >>> ((nI (4 * i)).toUInt32 &&& Int32.toUInt32 31)).toInt32) d_Mo_isWay_158 rfl ?_
                            refine bj_bipush (v := (nI 15)) d_Mo_isWay_159 (by decide) ?_
                            refine bj_iand (v := (nI (nb w i))) d_Mo_isWay_161 (nb_get w (by omega)) ?_
                            refine bj_iconst (v := (nI 1)) d_Mo_isWay_162 (by decide) ?_
                            refine bj_isub (v := (nI ((nb w i) - 1))) d_Mo_isWay_163 (pk_sub (by omega)) ?_
                            refine bj_istore (L' := [some (.ref (ad 80)), some (.int (nI a)), some (.int (nI b)), some (.int s), some (.int w), some (.int (nI n)), some (.int (bt_n g)), some (.int (nI i)), some (.int (nI ((nb w i) - 1))), z9]) d_Mo_isWay_164 (by decide) rfl ?_
                            refine bj_iload d_Mo_isWay_166 rfl ?_
                            refine bj_iconst (v := (nI 4)) d_Mo_isWay_168 (by decide) ?_
                            refine bj_iload d_Mo_isWay_169 rfl ?_
                            refine bj_iconst (v := (nI 1)) d_Mo_isWay_171 (by decide) ?_
                            refine bj_iadd (v := (nI (i + 1))) d_Mo_isWay_172 (nI_add _ _) ?_
                            refine bj_imul (v := (nI (4 * (i + 1)))) d_Mo_isWay_173 (pk_mul _ _) ?_
                            refine bj_iushr (v := (w.toUInt32 >>> ((nI (4 * (i + 1))).toUInt32 &&& Int32.toUInt32 31)).toInt32) d_Mo_isWay_174 rfl ?_
                            refine bj_bipush (v := (nI 15)) d_Mo_isWay_175 (by decide) ?_
                            refine bj_iand (v := (nI (nb w (i + 1)))) d_Mo_isWay_177 (nb_get w (by omega)) ?_
                            refine bj_iconst (v := (nI 1)) d_Mo_isWay_178 (by decide) ?_
                            refine bj_isub (v := (nI ((nb w (i + 1)) - 1))) d_Mo_isWay_179 (pk_sub (by omega)) ?_
                            refine bj_istore (L' := [some (.ref (ad 80)), some (.int (nI a)), some (.int (nI b)), some (.int s), some (.int w), some (.int (nI n)), some (.int (bt_n g)), some (.int (nI i)), some (.int (nI ((nb w i) - 1))), some (.int (nI ((nb w (i + 1)) - 1)))]) d_Mo_isWay_180 (by decide) rfl ?_
                            refine bj_aload_n d_Mo_isWay_182 rfl rfl ?_
                            refine bj_get d_Mo_isWay_183 in_Mo rfl (by decide : 10 < 17) wf_Mo_28 rfl hm0.1 rfl ?_
                            refine bj_bipush (v := (nI 8)) d_Mo_isWay_186 (by decide) ?_
                            refine bj_iload d_Mo_isWay_188 rfl ?_
                            refine bj_imul (v := (nI (8 * ((nb w i) - 1)))) d_Mo_isWay_190 (pk_mul _ _) ?_
                            refine bj_iload d_Mo_isWay_191 rfl ?_
                            refine bj_iadd (v := (nI ((8 * ((nb w i) - 1)) + ((nb w (i + 1)) - 1)))) d_Mo_isWay_193 (nI_add _ _) ?_
                            refine bv_iald (v := (nI (drn (pz N p) (nb w i - 1) (nb w (i + 1) - 1)))) d_Mo_isWay_194 0 rfl hcn.2 (by omega) (by first | omega | exact Nat.lt_trans (nb_lt w _) (by decide) | exact hz31 _ _ | exact Nat.lt_of_le_of_lt (Nat.sub_le _ _) (Nat.lt_trans (nb_lt w _) (by decide))) (by show nI _ = nI _; rw [show (8 * (nb w i - 1) + (nb w (i + 1) - 1)) / 8 = nb w i - 1 by omega, show (8 * (nb w i - 1) + (nb w (i + 1) - 1)) % 8 = nb w (i + 1) - 1 by omega]) ?_
                            refine bj_if_leN (tgt := 219) d_Mo_isWay_195 (by decide) (by first | omega | exact Nat.lt_trans (nb_lt w _) (by decide) | exact hz31 _ _ | exact Nat.lt_of_le_of_lt (Nat.sub_le _ _) (Nat.lt_trans (nb_lt w _) (by decide))) (fun h195 => ?_) (fun h195 => ?_)
                            · have hst : ¬ wst p N s w i := fun q => by have := q.1; omega
                              refine bj_iconst (v := (nI 0)) d_Mo_isWay_219 (by decide) ?_
                              refine bj_istore (L' := [some (.ref (ad 80)), some (.int (nI a)), some (.int (nI b)), some (.int s), some (.int w), some (.int (nI n)), some (.int (nI 0)), some (.int (nI i)), some (.int (nI ((nb w i) - 1))), some (.int (nI ((nb w (i + 1)) - 1)))]) d_Mo_isWay_220 (by decide) rfl ?_
                              refine bj_iinc (v := (nI (i + 1))) (L' := [some (.ref (ad 80)), some (.int (nI a)), some (.int (nI b)), some (.int s), some (.int w), some (.int (nI n)), some (.int (nI 0)), some (.int (nI (i + 1))), some (.int (nI ((nb w i) - 1))), some (.int (nI ((nb w (i + 1)) - 1)))]) d_Mo_isWay_222 rfl (bj_inc1 _) (by decide) rfl ?_
                              refine bj_goto (tgt := 138) d_Mo_isWay_225 (by decide) ?_
                              exact ih_l3 (8 - (i + 1)) (by omega) (i + 1) false _ _ rfl (by omega) ⟨fun e => (by cases e), fun q => absurd (q.2 i (by omega)) hst⟩
                            · refine bj_aload_n d_Mo_isWay_198 rfl rfl ?_
                              refine bj_get d_Mo_isWay_199 in_Mo rfl (by decide : 10 < 17) wf_Mo_28 rfl hm0.1 rfl ?_
                              refine bj_bipush (v := (nI 8)) d_Mo_isWay_202 (by decide) ?_
                              refine bj_iload d_Mo_isWay_204 rfl ?_
                              refine bj_imul (v := (nI (8 * ((nb w i) - 1)))) d_Mo_isWay_206 (pk_mul _ _) ?_
                              refine bj_iload d_Mo_isWay_207 rfl ?_
                              refine bj_iadd (v := (nI ((8 * ((nb w i) - 1)) + ((nb w (i + 1)) - 1)))) d_Mo_isWay_209 (nI_add _ _) ?_
                              refine bv_iald (v := (nI (drn (pz N p) (nb w i - 1) (nb w (i + 1) - 1)))) d_Mo_isWay_210 0 rfl hcn.2 (by omega) (by first | omega | exact Nat.lt_trans (nb_lt w _) (by decide) | exact hz31 _ _ | exact Nat.lt_of_le_of_lt (Nat.sub_le _ _) (Nat.lt_trans (nb_lt w _) (by decide))) (by show nI _ = nI _; rw [show (8 * (nb w i - 1) + (nb w (i + 1) - 1)) / 8 = nb w i - 1 by omega, show (8 * (nb w i - 1) + (nb w (i + 1) - 1)) % 8 = nb w (i + 1) - 1 by omega]) ?_
                              refine bj_iload_n d_Mo_isWay_211 rfl rfl ?_
                              refine bj_icmp_lt (tgt := 219) d_Mo_isWay_212 (by decide) (fun h212 => ?_) (fun h212 => ?_)
                              · have hst : ¬ wst p N s w i := fun q => q.2 h212
                                refine bj_iconst (v := (nI 0)) d_Mo_isWay_219 (by decide) ?_
                                refine bj_istore (L' := [some (.ref (ad 80)), some (.int (nI a)), some (.int (nI b)), some (.int s), some (.int w), some (.int (nI n)), some (.int (nI 0)), some (.int (nI i)), some (.int (nI ((nb w i) - 1))), some (.int (nI ((nb w (i + 1)) - 1)))]) d_Mo_isWay_220 (by decide) rfl ?_
                                refine bj_iinc (v := (nI (i + 1))) (L' := [some (.ref (ad 80)), some (.int (nI a)), some (.int (nI b)), some (.int s), some (.int w), some (.int (nI n)), some (.int (nI 0)), some (.int (nI (i + 1))), some (.int (nI ((nb w i) - 1))), some (.int (nI ((nb w (i + 1)) - 1)))]) d_Mo_isWay_222 rfl (bj_inc1 _) (by decide) rfl ?_
                                refine bj_goto (tgt := 138) d_Mo_isWay_225 (by decide) ?_
                                exact ih_l3 (8 - (i + 1)) (by omega) (i + 1) false _ _ rfl (by omega) ⟨fun e => (by cases e), fun q => absurd (q.2 i (by omega)) hst⟩
                              · have hst : wst p N s w i := ⟨h195, h212⟩
                                refine bj_iconst (v := (nI 1)) d_Mo_isWay_215 (by decide) ?_
                                refine bj_goto (tgt := 220) d_Mo_isWay_216 (by decide) ?_
                                refine bj_istore (L' := [some (.ref (ad 80)), some (.int (nI a)), some (.int (nI b)), some (.int s), some (.int w), some (.int (nI n)), some (.int (nI 1)), some (.int (nI i)), some (.int (nI ((nb w i) - 1))), some (.int (nI ((nb w (i + 1)) - 1)))]) d_Mo_isWay_220 (by decide) rfl ?_
                                refine bj_iinc (v := (nI (i + 1))) (L' := [some (.ref (ad 80)), some (.int (nI a)), some (.int (nI b)), some (.int s), some (.int w), some (.int (nI n)), some (.int (nI 1)), some (.int (nI (i + 1))), some (.int (nI ((nb w i) - 1))), some (.int (nI ((nb w (i + 1)) - 1)))]) d_Mo_isWay_222 rfl (bj_inc1 _) (by decide) rfl ?_
                                refine bj_goto (tgt := 138) d_Mo_isWay_225 (by decide) ?_
                                exact ih_l3 (8 - (i + 1)) (by omega) (i + 1) true _ _ rfl (by omega) ⟨fun _ => ⟨(hg.mp (bt_nn h149)).1, fun j hj => by
                                  rcases Nat.lt_or_ge j i with q | q
                                  · exact (hg.mp (bt_nn h149)).2 j q
                                  · rw [show j = i by omega]; exact hst⟩, fun _ => rfl⟩
                    exact l3 0 g _ _ (by omega) ⟨fun q => ⟨⟨(hg.mp q).1, fun j hj => (hg.mp q).2 j (by omega)⟩, fun j hj => absurd hj (Nat.not_lt_zero _)⟩, fun q => hg.mpr ⟨q.1.1, fun j hj => q.1.2 j (by omega)⟩⟩
                  · refine bj_iload d_Mo_isWay_100 rfl ?_
                    refine bj_if_eq (tgt := 126) d_Mo_isWay_102 (by decide) (fun h102 => ?_) (fun h102 => ?_)
                    · refine bj_iconst (v := (nI 0)) d_Mo_isWay_126 (by decide) ?_
                      refine bj_istore (L' := [some (.ref (ad 80)), some (.int (nI a)), some (.int (nI b)), some (.int s), some (.int w), some (.int (nI n)), some (.int (nI 0)), some (.int (nI i)), none, none]) d_Mo_isWay_127 (by decide) rfl ?_
                      refine bj_iinc (v := (nI (i + 1))) (L' := [some (.ref (ad 80)), some (.int (nI a)), some (.int (nI b)), some (.int s), some (.int w), some (.int (nI n)), some (.int (nI 0)), some (.int (nI (i + 1))), none, none]) d_Mo_isWay_129 rfl (bj_inc1 _) (by decide) rfl ?_
                      refine bj_goto (tgt := 93) d_Mo_isWay_132 (by decide) ?_
                      exact ih_l2 (8 - (i + 1)) (by omega) (i + 1) false rfl (by omega) ⟨fun e => (by cases e), fun q => by first | (have := q.2 i (by omega); omega) | (have := hg.mpr ⟨q.1, fun j hj => q.2 j (by omega)⟩; rw [this] at h102; exact absurd h102 (by decide))⟩
                    · refine bj_iload d_Mo_isWay_105 rfl ?_
                      refine bj_iconst (v := (nI 4)) d_Mo_isWay_107 (by decide) ?_
                      refine bj_iload d_Mo_isWay_108 rfl ?_
                      refine bj_imul (v := (nI (4 * i))) d_Mo_isWay_110 (pk_mul _ _) ?_
                      refine bj_iushr (v := (w.toUInt32 >>> ((nI (4 * i)).toUInt32 &&& Int32.toUInt32 31)).toInt32) d_Mo_isWay_111 rfl ?_
                      refine bj_bipush (v := (nI 15)) d_Mo_isWay_112 (by decide) ?_
                      refine bj_iand (v := (nI (nb w i))) d_Mo_isWay_114 (nb_get w (by omega)) ?_
                      refine bj_aload_n d_Mo_isWay_115 rfl rfl ?_
                      refine bj_get d_Mo_isWay_116 in_Mo rfl (by decide : 0 < 17) wf_Mo_47 rfl hm0.1 rfl ?_
                      refine bj_icmp_gtN (tgt := 126) d_Mo_isWay_119 (by decide) (by first | omega | exact Nat.lt_trans (nb_lt w _) (by decide) | exact hz31 _ _ | exact Nat.lt_of_le_of_lt (Nat.sub_le _ _) (Nat.lt_trans (nb_lt w _) (by decide))) (by first | omega | exact Nat.lt_trans (nb_lt w _) (by decide) | exact hz31 _ _ | exact Nat.lt_of_le_of_lt (Nat.sub_le _ _) (Nat.lt_trans (nb_lt w _) (by decide))) (fun h119 => ?_) (fun h119 => ?_)
                      · refine bj_iconst (v := (nI 0)) d_Mo_isWay_126 (by decide) ?_
                        refine bj_istore (L' := [some (.ref (ad 80)), some (.int (nI a)), some (.int (nI b)), some (.int s), some (.int w), some (.int (nI n)), some (.int (nI 0)), some (.int (nI i)), none, none]) d_Mo_isWay_127 (by decide) rfl ?_
                        refine bj_iinc (v := (nI (i + 1))) (L' := [some (.ref (ad 80)), some (.int (nI a)), some (.int (nI b)), some (.int s), some (.int w), some (.int (nI n)), some (.int (nI 0)), some (.int (nI (i + 1))), none, none]) d_Mo_isWay_129 rfl (bj_inc1 _) (by decide) rfl ?_
                        refine bj_goto (tgt := 93) d_Mo_isWay_132 (by decide) ?_
                        exact ih_l2 (8 - (i + 1)) (by omega) (i + 1) false rfl (by omega) ⟨fun e => (by cases e), fun q => by first | (have := q.2 i (by omega); omega) | (have := hg.mpr ⟨q.1, fun j hj => q.2 j (by omega)⟩; rw [this] at h102; exact absurd h102 (by decide))⟩
                      · refine bj_iconst (v := (nI 1)) d_Mo_isWay_122 (by decide) ?_
                        refine bj_goto (tgt := 127) d_Mo_isWay_123 (by decide) ?_
                        refine bj_istore (L' := [some (.ref (ad 80)), some (.int (nI a)), some (.int (nI b)), some (.int s), some (.int w), some (.int (nI n)), some (.int (nI 1)), some (.int (nI i)), none, none]) d_Mo_isWay_127 (by decide) rfl ?_
                        refine bj_iinc (v := (nI (i + 1))) (L' := [some (.ref (ad 80)), some (.int (nI a)), some (.int (nI b)), some (.int s), some (.int w), some (.int (nI n)), some (.int (nI 1)), some (.int (nI (i + 1))), none, none]) d_Mo_isWay_129 rfl (bj_inc1 _) (by decide) rfl ?_
                        refine bj_goto (tgt := 93) d_Mo_isWay_132 (by decide) ?_
                        exact ih_l2 (8 - (i + 1)) (by omega) (i + 1) true rfl (by omega) ⟨fun _ => ⟨(hg.mp (bt_nn h102)).1, fun j hj => by
                          rcases Nat.lt_or_ge j i with q | q
                          · exact (hg.mp (bt_nn h102)).2 j q
                          · rw [show j = i by omega]; exact h119⟩, fun _ => rfl⟩
              exact l2 0 false (Nat.zero_le _) ⟨fun e => (by cases e), fun q => by first | exact absurd q.1.1 h62 | exact absurd q.1.2 h80⟩
            · refine bj_iload d_Mo_isWay_65 rfl ?_
              refine bj_iconst (v := (nI 4)) d_Mo_isWay_67 (by decide) ?_
              refine bj_iload d_Mo_isWay_68 rfl ?_
              refine bj_iconst (v := (nI 1)) d_Mo_isWay_70 (by decide) ?_
              refine bj_isub (v := (nI (n - 1))) d_Mo_isWay_71 (pk_sub (by omega)) ?_
              refine bj_imul (v := (nI (4 * (n - 1)))) d_Mo_isWay_72 (pk_mul _ _) ?_
              refine bj_iushr (v := (w.toUInt32 >>> ((nI (4 * (n - 1))).toUInt32 &&& Int32.toUInt32 31)).toInt32) d_Mo_isWay_73 rfl ?_
              refine bj_bipush (v := (nI 15)) d_Mo_isWay_74 (by decide) ?_
              refine bj_iand (v := (nI (nb w (n - 1)))) d_Mo_isWay_76 (nb_get w (by omega)) ?_
              refine bj_iconst (v := (nI 1)) d_Mo_isWay_77 (by decide) ?_
              refine bj_isub (v := (nI ((nb w (n - 1)) - 1))) d_Mo_isWay_78 (pk_sub (by omega)) ?_
              refine bj_iload_n d_Mo_isWay_79 rfl rfl ?_
              refine bj_icmp_neN (tgt := 87) d_Mo_isWay_80 (by decide) (by first | omega | exact Nat.lt_trans (nb_lt w _) (by decide) | exact hz31 _ _ | exact Nat.lt_of_le_of_lt (Nat.sub_le _ _) (Nat.lt_trans (nb_lt w _) (by decide))) (by first | omega | exact Nat.lt_trans (nb_lt w _) (by decide) | exact hz31 _ _ | exact Nat.lt_of_le_of_lt (Nat.sub_le _ _) (Nat.lt_trans (nb_lt w _) (by decide))) (fun h80 => ?_) (fun h80 => ?_)
              · refine bj_iconst (v := (nI 0)) d_Mo_isWay_87 (by decide) ?_
                refine bj_istore (L' := [some (.ref (ad 80)), some (.int (nI a)), some (.int (nI b)), some (.int s), some (.int w), some (.int (nI n)), some (.int (nI 0)), none, none, none]) d_Mo_isWay_88 (by decide) rfl ?_
                refine bj_iconst (v := (nI 0)) d_Mo_isWay_90 (by decide) ?_
                refine bj_istore (L' := [some (.ref (ad 80)), some (.int (nI a)), some (.int (nI b)), some (.int s), some (.int w), some (.int (nI n)), some (.int (nI 0)), some (.int (nI 0)), none, none]) d_Mo_isWay_91 (by decide) rfl ?_
                have l2 : ∀ (i : Nat), ∀ (g : Bool), (i ≤ n) → (g = true ↔ ((nb w 0 - 1 = a ∧ nb w (n - 1) - 1 = b) ∧ ∀ j, j < i → nb w j ≤ N)) → bj_S (bw_G l D c) Y_Mo_isWay 0 (0, 0, 0, 0) ad (q_b M (wy (fun a b => nI (p a b)) N a b s w)) 0 0 93 [some (.ref (ad 80)), some (.int (nI a)), some (.int (nI b)), some (.int s), some (.int w), some (.int (nI n)), some (.int (bt_n g)), some (.int (nI i)), none, none] [] M := by
                  intro i g
                  induction hd_l2 : 8 - i using Nat.strongRecOn generalizing i g with
                  | ind d_l2 ih_l2 =>
                    intro hi hg
                    refine bj_iload d_Mo_isWay_93 rfl ?_
                    refine bj_iload d_Mo_isWay_95 rfl ?_
                    refine bj_icmp_geN (tgt := 135) d_Mo_isWay_97 (by decide) (by first | omega | exact Nat.lt_trans (nb_lt w _) (by decide) | exact hz31 _ _ | exact Nat.lt_of_le_of_lt (Nat.sub_le _ _) (Nat.lt_trans (nb_lt w _) (by decide))) (by first | omega | exact Nat.lt_trans (nb_lt w _) (by decide) | exact hz31 _ _ | exact Nat.lt_of_le_of_lt (Nat.sub_le _ _) (Nat.lt_trans (nb_lt w _) (by decide))) (fun h97 => ?_) (fun h97 => ?_)
                    · refine bj_iconst (v := (nI 0)) d_Mo_isWay_135 (by decide) ?_
                      refine bj_istore (L' := [some (.ref (ad 80)), some (.int (nI a)), some (.int (nI b)), some (.int s), some (.int w), some (.int (nI n)), some (.int (bt_n g)), some (.int (nI 0)), none, none]) d_Mo_isWay_136 (by decide) rfl ?_
                      have l3 : ∀ (i : Nat), ∀ (g : Bool), ∀ (z8 : Option Value), ∀ (z9 : Option Value), (i + 1 ≤ n) → (g = true ↔ (wba N a b n w ∧ ∀ j, j < i → wst p N s w j)) → bj_S (bw_G l D c) Y_Mo_isWay 0 (0, 0, 0, 0) ad (q_b M (wy (fun a b => nI (p a b)) N a b s w)) 0 0 138 [some (.ref (ad 80)), some (.int (nI a)), some (.int (nI b)), some (.int s), some (.int w), some (.int (nI n)), some (.int (bt_n g)), some (.int (nI i)), z8, z9] [] M := by
                        intro i g z8 z9
                        induction hd_l3 : 8 - i using Nat.strongRecOn generalizing i g z8 z9 with
                        | ind d_l3 ih_l3 =>
                          intro hi hg
                          refine bj_iload d_Mo_isWay_138 rfl ?_
                          refine bj_iconst (v := (nI 1)) d_Mo_isWay_140 (by decide) ?_
                          refine bj_iadd (v := (nI (i + 1))) d_Mo_isWay_141 (nI_add _ _) ?_
                          refine bj_iload d_Mo_isWay_142 rfl ?_
                          refine bj_icmp_geN (tgt := 228) d_Mo_isWay_144 (by decide) (by first | omega | exact Nat.lt_trans (nb_lt w _) (by decide) | exact hz31 _ _ | exact Nat.lt_of_le_of_lt (Nat.sub_le _ _) (Nat.lt_trans (nb_lt w _) (by decide))) (by first | omega | exact Nat.lt_trans (nb_lt w _) (by decide) | exact hz31 _ _ | exact Nat.lt_of_le_of_lt (Nat.sub_le _ _) (Nat.lt_trans (nb_lt w _) (by decide))) (fun h144 => ?_) (fun h144 => ?_)
                          · refine bj_iload d_Mo_isWay_228 rfl ?_
                            exact bj_iret d_Mo_isWay_230 rfl nar_bt (Nat.le_refl _) (Nat.le_refl _) ⟨g, rfl, (by first | exact hg.trans (Iff.trans ⟨fun q => ⟨q.1, fun j hj => q.2 j (by omega)⟩, fun q => ⟨q.1, fun j hj => q.2 j (by omega)⟩⟩ (wyf hab hs hn h8 hxn (by omega) hzz hp ha)) | exact ⟨fun e => (by rw [bt_n0.mp h149] at e; cases e), fun q => hg.mpr ((fun q => ⟨q.1, fun j hj => q.2 j (by omega)⟩) ((wyf hab hs hn h8 hxn (by omega) hzz hp ha).mpr q))⟩), rfl⟩
                          · refine bj_iload d_Mo_isWay_147 rfl ?_
                            refine bj_if_eq (tgt := 228) d_Mo_isWay_149 (by decide) (fun h149 => ?_) (fun h149 => ?_)
                            · refine bj_iload d_Mo_isWay_228 rfl ?_
                              exact bj_iret d_Mo_isWay_230 rfl nar_bt (Nat.le_refl _) (Nat.le_refl _) ⟨g, rfl, (by first | exact hg.trans (Iff.trans ⟨fun q => ⟨q.1, fun j hj => q.2 j (by omega)⟩, fun q => ⟨q.1, fun j hj => q.2 j (by omega)⟩⟩ (wyf hab hs hn h8 hxn (by omega) hzz hp ha)) | exact ⟨fun e => (by rw [bt_n0.mp h149] at e; cases e), fun q => hg.mpr ((fun q => ⟨q.1, fun j hj => q.2 j (by omega)⟩) ((wyf hab hs hn h8 hxn (by omega) hzz hp ha).mpr q))⟩), rfl⟩
                            · have hwb := (hg.mp (bt_nn h149)).1
                              have hk1 := hwb.2 i (by omega)
                              have hk2 := hwb.2 (i + 1) (by omega)
                              have hp1 := hn i (by omega)
                              have hp2 := hn (i + 1) (by omega)
                              refine bj_iload d_Mo_isWay_152 rfl ?_
                              refine bj_iconst (v := (nI 4)) d_Mo_isWay_154 (by decide) ?_
                              refine bj_iload d_Mo_isWay_155 rfl ?_
                              refine bj_imul (v := (nI (4 * i))) d_Mo_isWay_157 (pk_mul _ _) ?_
                              refine bj_iushr (v := (w.toUInt32 >>> ((nI (4 * i)).toUInt32 &&& Int32.toUInt32 31)).toInt32) d_Mo_isWay_158 rfl ?_
                              refine bj_bipush (v := (nI 15)) d_Mo_isWay_159 (by decide) ?_
                              refine bj_iand (v := (nI (nb w i))) d_Mo_isWay_161 (nb_get w (by omega)) ?_
                              refine bj_iconst (v := (nI 1)) d_Mo_isWay_162 (by decide) ?_
                              refine bj_isub (v := (nI ((nb w i) - 1))) d_Mo_isWay_163 (pk_sub (by omega)) ?_
                              refine bj_istore (L' := [some (.ref (ad 80)), some (.int (nI a)), some (.int (nI b)), some (.int s), some (.int w), some (.int (nI n)), some (.int (bt_n g)), some (.int (nI i)), some (.int (nI ((nb w i) - 1))), z9]) d_Mo_isWay_164 (by decide) rfl ?_
                              refine bj_iload d_Mo_isWay_166 rfl ?_
                              refine bj_iconst (v := (nI 4)) d_Mo_isWay_168 (by decide) ?_
                              refine bj_iload d_Mo_isWay_169 rfl ?_
                              refine bj_iconst (v := (nI 1)) d_Mo_isWay_171 (by decide) ?_
                              refine bj_iadd (v := (nI (i + 1))) d_Mo_isWay_172 (nI_add _ _) ?_
                              refine bj_imul (v := (nI (4 * (i + 1)))) d_Mo_isWay_173 (pk_mul _ _) ?_
                              refine bj_iushr (v := (w.toUInt32 >>> ((nI (4 * (i + 1))).toUInt32 &&& Int32.toUInt32 31)).toInt32) d_Mo_isWay_174 rfl ?_
                              refine bj_bipush (v := (nI 15)) d_Mo_isWay_175 (by decide) ?_
                              refine bj_iand (v := (nI (nb w (i + 1)))) d_Mo_isWay_177 (nb_get w (by omega)) ?_
                              refine bj_iconst (v := (nI 1)) d_Mo_isWay_178 (by decide) ?_
                              refine bj_isub (v := (nI ((nb w (i + 1)) - 1))) d_Mo_isWay_179 (pk_sub (by omega)) ?_
                              refine bj_istore (L' := [some (.ref (ad 80)), some (.int (nI a)), some (.int (nI b)), some (.int s), some (.int w), some (.int (nI n)), some (.int (bt_n g)), some (.int (nI i)), some (.int (nI ((nb w i) - 1))), some (.int (nI ((nb w (i + 1)) - 1)))]) d_Mo_isWay_180 (by decide) rfl ?_
                              refine bj_aload_n d_Mo_isWay_182 rfl rfl ?_
                              refine bj_get d_Mo_isWay_183 in_Mo rfl (by decide : 10 < 17) wf_Mo_28 rfl hm0.1 rfl ?_
                              refine bj_bipush (v := (nI 8)) d_Mo_isWay_186 (by decide) ?_
                              refine bj_iload d_Mo_isWay_188 rfl ?_
                              refine bj_imul (v := (nI (8 * ((nb w i) - 1)))) d_Mo_isWay_190 (pk_mul _ _) ?_
                              refine bj_iload d_Mo_isWay_191 rfl ?_
                              refine bj_iadd (v := (nI ((8 * ((nb w i) - 1)) + ((nb w (i + 1)) - 1)))) d_Mo_isWay_193 (nI_add _ _) ?_
                              refine bv_iald (v := (nI (drn (pz N p) (nb w i - 1) (nb w (i + 1) - 1)))) d_Mo_isWay_194 0 rfl hcn.2 (by omega) (by first | omega | exact Nat.lt_trans (nb_lt w _) (by decide) | exact hz31 _ _ | exact Nat.lt_of_le_of_lt (Nat.sub_le _ _) (Nat.lt_trans (nb_lt w _) (by decide))) (by show nI _ = nI _; rw [show (8 * (nb w i - 1) + (nb w (i + 1) - 1)) / 8 = nb w i - 1 by omega, show (8 * (nb w i - 1) + (nb w (i + 1) - 1)) % 8 = nb w (i + 1) - 1 by omega]) ?_
                              refine bj_if_leN (tgt := 219) d_Mo_isWay_195 (by decide) (by first | omega | exact Nat.lt_trans (nb_lt w _) (by decide) | exact hz31 _ _ | exact Nat.lt_of_le_of_lt (Nat.sub_le _ _) (Nat.lt_trans (nb_lt w _) (by decide))) (fun h195 => ?_) (fun h195 => ?_)
                              · have hst : ¬ wst p N s w i := fun q => by have := q.1; omega
                                refine bj_iconst (v := (nI 0)) d_Mo_isWay_219 (by decide) ?_
                                refine bj_istore (L' := [some (.ref (ad 80)), some (.int (nI a)), some (.int (nI b)), some (.int s), some (.int w), some (.int (nI n)), some (.int (nI 0)), some (.int (nI i)), some (.int (nI ((nb w i) - 1))), some (.int (nI ((nb w (i + 1)) - 1)))]) d_Mo_isWay_220 (by decide) rfl ?_
                                refine bj_iinc (v := (nI (i + 1))) (L' := [some (.ref (ad 80)), some (.int (nI a)), some (.int (nI b)), some (.int s), some (.int w), some (.int (nI n)), some (.int (nI 0)), some (.int (nI (i + 1))), some (.int (nI ((nb w i) - 1))), some (.int (nI ((nb w (i + 1)) - 1)))]) d_Mo_isWay_222 rfl (bj_inc1 _) (by decide) rfl ?_
                                refine bj_goto (tgt := 138) d_Mo_isWay_225 (by decide) ?_
                                exact ih_l3 (8 - (i + 1)) (by omega) (i + 1) false _ _ rfl (by omega) ⟨fun e => (by cases e), fun q => absurd (q.2 i (by omega)) hst⟩
                              · refine bj_aload_n d_Mo_isWay_198 rfl rfl ?_
                                refine bj_get d_Mo_isWay_199 in_Mo rfl (by decide : 10 < 17) wf_Mo_28 rfl hm0.1 rfl ?_
                                refine bj_bipush (v := (nI 8)) d_Mo_isWay_202 (by decide) ?_
                                refine bj_iload d_Mo_isWay_204 rfl ?_
                                refine bj_imul (v := (nI (8 * ((nb w i) - 1)))) d_Mo_isWay_206 (pk_mul _ _) ?_
                                refine bj_iload d_Mo_isWay_207 rfl ?_
                                refine bj_iadd (v := (nI ((8 * ((nb w i) - 1)) + ((nb w (i + 1)) - 1)))) d_Mo_isWay_209 (nI_add _ _) ?_
                                refine bv_iald (v := (nI (drn (pz N p) (nb w i - 1) (nb w (i + 1) - 1)))) d_Mo_isWay_210 0 rfl hcn.2 (by omega) (by first | omega | exact Nat.lt_trans (nb_lt w _) (by decide) | exact hz31 _ _ | exact Nat.lt_of_le_of_lt (Nat.sub_le _ _) (Nat.lt_trans (nb_lt w _) (by decide))) (by show nI _ = nI _; rw [show (8 * (nb w i - 1) + (nb w (i + 1) - 1)) / 8 = nb w i - 1 by omega, show (8 * (nb w i - 1) + (nb w (i + 1) - 1)) % 8 = nb w (i + 1) - 1 by omega]) ?_
                                refine bj_iload_n d_Mo_isWay_211 rfl rfl ?_
                                refine bj_icmp_lt (tgt := 219) d_Mo_isWay_212 (by decide) (fun h212 => ?_) (fun h212 => ?_)
                                · have hst : ¬ wst p N s w i := fun q => q.2 h212
                                  refine bj_iconst (v := (nI 0)) d_Mo_isWay_219 (by decide) ?_
                                  refine bj_istore (L' := [some (.ref (ad 80)), some (.int (nI a)), some (.int (nI b)), some (.int s), some (.int w), some (.int (nI n)), some (.int (nI 0)), some (.int (nI i)), some (.int (nI ((nb w i) - 1))), some (.int (nI ((nb w (i + 1)) - 1)))]) d_Mo_isWay_220 (by decide) rfl ?_
                                  refine bj_iinc (v := (nI (i + 1))) (L' := [some (.ref (ad 80)), some (.int (nI a)), some (.int (nI b)), some (.int s), some (.int w), some (.int (nI n)), some (.int (nI 0)), some (.int (nI (i + 1))), some (.int (nI ((nb w i) - 1))), some (.int (nI ((nb w (i + 1)) - 1)))]) d_Mo_isWay_222 rfl (bj_inc1 _) (by decide) rfl ?_
                                  refine bj_goto (tgt := 138) d_Mo_isWay_225 (by decide) ?_
                                  exact ih_l3 (8 - (i + 1)) (by omega) (i + 1) false _ _ rfl (by omega) ⟨fun e => (by cases e), fun q => absurd (q.2 i (by omega)) hst⟩
                                · have hst : wst p N s w i := ⟨h195, h212⟩
                                  refine bj_iconst (v := (nI 1)) d_Mo_isWay_215 (by decide) ?_
                                  refine bj_goto (tgt := 220) d_Mo_isWay_216 (by decide) ?_
                                  refine bj_istore (L' := [some (.ref (ad 80)), some (.int (nI a)), some (.int (nI b)), some (.int s), some (.int w), some (.int (nI n)), some (.int (nI 1)), some (.int (nI i)), some (.int (nI ((nb w i) - 1))), some (.int (nI ((nb w (i + 1)) - 1)))]) d_Mo_isWay_220 (by decide) rfl ?_
                                  refine bj_iinc (v := (nI (i + 1))) (L' := [some (.ref (ad 80)), some (.int (nI a)), some (.int (nI b)), some (.int s), some (.int w), some (.int (nI n)), some (.int (nI 1)), some (.int (nI (i + 1))), some (.int (nI ((nb w i) - 1))), some (.int (nI ((nb w (i + 1)) - 1)))]) d_Mo_isWay_222 rfl (bj_inc1 _) (by decide) rfl ?_
                                  refine bj_goto (tgt := 138) d_Mo_isWay_225 (by decide) ?_
                                  exact ih_l3 (8 - (i + 1)) (by omega) (i + 1) true _ _ rfl (by omega) ⟨fun _ => ⟨(hg.mp (bt_nn h149)).1, fun j hj => by
                                    rcases Nat.lt_or_ge j i with q | q
                                    · exact (hg.mp (bt_nn h149)).2 j q
                                    · rw [show j = i by omega]; exact hst⟩, fun _ => rfl⟩
                      exact l3 0 g _ _ (by omega) ⟨fun q => ⟨⟨(hg.mp q).1, fun j hj => (hg.mp q).2 j (by omega)⟩, fun j hj => absurd hj (Nat.not_lt_zero _)⟩, fun q => hg.mpr ⟨q.1.1, fun j hj => q.1.2 j (by omega)⟩⟩
                    · refine bj_iload d_Mo_isWay_100 rfl ?_
                      refine bj_if_eq (tgt := 126) d_Mo_isWay_102 (by decide) (fun h102 => ?_) (fun h102 => ?_)
                      · refine bj_iconst (v := (nI 0)) d_Mo_isWay_126 (by decide) ?_
                        refine bj_istore (L' := [some (.ref (ad 80)), some (.int (nI a)), some (.int (nI b)), some (.int s), some (.int w), some (.int (nI n)), some (.int (nI 0)), some (.int (nI i)), none, none]) d_Mo_isWay_127 (by decide) rfl ?_
                        refine bj_iinc (v := (nI (i + 1))) (L' := [some (.ref (ad 80)), some (.int (nI a)), some (.int (nI b)), some (.int s), some (.int w), some (.int (nI n)), some (.int (nI 0)), some (.int (nI (i + 1))), none, none]) d_Mo_isWay_129 rfl (bj_inc1 _) (by decide) rfl ?_
                        refine bj_goto (tgt := 93) d_Mo_isWay_132 (by decide) ?_
                        exact ih_l2 (8 - (i + 1)) (by omega) (i + 1) false rfl (by omega) ⟨fun e => (by cases e), fun q => by first | (have := q.2 i (by omega); omega) | (have := hg.mpr ⟨q.1, fun j hj => q.2 j (by omega)⟩; rw [this] at h102; exact absurd h102 (by decide))⟩
                      · refine bj_iload d_Mo_isWay_105 rfl ?_
                        refine bj_iconst (v := (nI 4)) d_Mo_isWay_107 (by decide) ?_
                        refine bj_iload d_Mo_isWay_108 rfl ?_
                        refine bj_imul (v := (nI (4 * i))) d_Mo_isWay_110 (pk_mul _ _) ?_
                        refine bj_iushr (v := (w.toUInt32 >>> ((nI (4 * i)).toUInt32 &&& Int32.toUInt32 31)).toInt32) d_Mo_isWay_111 rfl ?_
                        refine bj_bipush (v := (nI 15)) d_Mo_isWay_112 (by decide) ?_
                        refine bj_iand (v := (nI (nb w i))) d_Mo_isWay_114 (nb_get w (by omega)) ?_
                        refine bj_aload_n d_Mo_isWay_115 rfl rfl ?_
                        refine bj_get d_Mo_isWay_116 in_Mo rfl (by decide : 0 < 17) wf_Mo_47 rfl hm0.1 rfl ?_
                        refine bj_icmp_gtN (tgt := 126) d_Mo_isWay_119 (by decide) (by first | omega | exact Nat.lt_trans (nb_lt w _) (by decide) | exact hz31 _ _ | exact Nat.lt_of_le_of_lt (Nat.sub_le _ _) (Nat.lt_trans (nb_lt w _) (by decide))) (by first | omega | exact Nat.lt_trans (nb_lt w _) (by decide) | exact hz31 _ _ | exact Nat.lt_of_le_of_lt (Nat.sub_le _ _) (Nat.lt_trans (nb_lt w _) (by decide))) (fun h119 => ?_) (fun h119 => ?_)
                        · refine bj_iconst (v := (nI 0)) d_Mo_isWay_126 (by decide) ?_
                          refine bj_istore (L' := [some (.ref (ad 80)), some (.int (nI a)), some (.int (nI b)), some (.int s), some (.int w), some (.int (nI n)), some (.int (nI 0)), some (.int (nI i)), none, none]) d_Mo_isWay_127 (by decide) rfl ?_
                          refine bj_iinc (v := (nI (i + 1))) (L' := [some (.ref (ad 80)), some (.int (nI a)), some (.int (nI b)), some (.int s), some (.int w), some (.int (nI n)), some (.int (nI 0)), some (.int (nI (i + 1))), none, none]) d_Mo_isWay_129 rfl (bj_inc1 _) (by decide) rfl ?_
                          refine bj_goto (tgt := 93) d_Mo_isWay_132 (by decide) ?_
                          exact ih_l2 (8 - (i + 1)) (by omega) (i + 1) false rfl (by omega) ⟨fun e => (by cases e), fun q => by first | (have := q.2 i (by omega); omega) | (have := hg.mpr ⟨q.1, fun j hj => q.2 j (by omega)⟩; rw [this] at h102; exact absurd h102 (by decide))⟩
                        · refine bj_iconst (v := (nI 1)) d_Mo_isWay_122 (by decide) ?_
                          refine bj_goto (tgt := 127) d_Mo_isWay_123 (by decide) ?_
                          refine bj_istore (L' := [some (.ref (ad 80)), some (.int (nI a)), some (.int (nI b)), some (.int s), some (.int w), some (.int (nI n)), some (.int (nI 1)), some (.int (nI i)), none, none]) d_Mo_isWay_127 (by decide) rfl ?_
                          refine bj_iinc (v := (nI (i + 1))) (L' := [some (.ref (ad 80)), some (.int (nI a)), some (.int (nI b)), some (.int s), some (.int w), some (.int (nI n)), some (.int (nI 1)), some (.int (nI (i + 1))), none, none]) d_Mo_isWay_129 rfl (bj_inc1 _) (by decide) rfl ?_
                          refine bj_goto (tgt := 93) d_Mo_isWay_132 (by decide) ?_
                          exact ih_l2 (8 - (i + 1)) (by omega) (i + 1) true rfl (by omega) ⟨fun _ => ⟨(hg.mp (bt_nn h102)).1, fun j hj => by
                            rcases Nat.lt_or_ge j i with q | q
                            · exact (hg.mp (bt_nn h102)).2 j q
                            · rw [show j = i by omega]; exact h119⟩, fun _ => rfl⟩
                exact l2 0 false (Nat.zero_le _) ⟨fun e => (by cases e), fun q => by first | exact absurd q.1.1 h62 | exact absurd q.1.2 h80⟩
              · refine bj_iconst (v := (nI 1)) d_Mo_isWay_83 (by decide) ?_
                refine bj_goto (tgt := 88) d_Mo_isWay_84 (by decide) ?_
                refine bj_istore (L' := [some (.ref (ad 80)), some (.int (nI a)), some (.int (nI b)), some (.int s), some (.int w), some (.int (nI n)), some (.int (nI 1)), none, none, none]) d_Mo_isWay_88 (by decide) rfl ?_
                refine bj_iconst (v := (nI 0)) d_Mo_isWay_90 (by decide) ?_
                refine bj_istore (L' := [some (.ref (ad 80)), some (.int (nI a)), some (.int (nI b)), some (.int s), some (.int w), some (.int (nI n)), some (.int (nI 1)), some (.int (nI 0)), none, none]) d_Mo_isWay_91 (by decide) rfl ?_
                have l2 : ∀ (i : Nat), ∀ (g : Bool), (i ≤ n) → (g = true ↔ ((nb w 0 - 1 = a ∧ nb w (n - 1) - 1 = b) ∧ ∀ j, j < i → nb w j ≤ N)) → bj_S (bw_G l D c) Y_Mo_isWay 0 (0, 0, 0, 0) ad (q_b M (wy (fun a b => nI (p a b)) N a b s w)) 0 0 93 [some (.ref (ad 80)), some (.int (nI a)), some (.int (nI b)), some (.int s), some (.int w), some (.int (nI n)), some (.int (bt_n g)), some (.int (nI i)), none, none] [] M := by
                  intro i g
                  induction hd_l2 : 8 - i using Nat.strongRecOn generalizing i g with
                  | ind d_l2 ih_l2 =>
                    intro hi hg
                    refine bj_iload d_Mo_isWay_93 rfl ?_
                    refine bj_iload d_Mo_isWay_95 rfl ?_
                    refine bj_icmp_geN (tgt := 135) d_Mo_isWay_97 (by decide) (by first | omega | exact Nat.lt_trans (nb_lt w _) (by decide) | exact hz31 _ _ | exact Nat.lt_of_le_of_lt (Nat.sub_le _ _) (Nat.lt_trans (nb_lt w _) (by decide))) (by first | omega | exact Nat.lt_trans (nb_lt w _) (by decide) | exact hz31 _ _ | exact Nat.lt_of_le_of_lt (Nat.sub_le _ _) (Nat.lt_trans (nb_lt w _) (by decide))) (fun h97 => ?_) (fun h97 => ?_)
                    · refine bj_iconst (v := (nI 0)) d_Mo_isWay_135 (by decide) ?_
                      refine bj_istore (L' := [some (.ref (ad 80)), some (.int (nI a)), some (.int (nI b)), some (.int s), some (.int w), some (.int (nI n)), some (.int (bt_n g)), some (.int (nI 0)), none, none]) d_Mo_isWay_136 (by decide) rfl ?_
                      have l3 : ∀ (i : Nat), ∀ (g : Bool), ∀ (z8 : Option Value), ∀ (z9 : Option Value), (i + 1 ≤ n) → (g = true ↔ (wba N a b n w ∧ ∀ j, j < i → wst p N s w j)) → bj_S (bw_G l D c) Y_Mo_isWay 0 (0, 0, 0, 0) ad (q_b M (wy (fun a b => nI (p a b)) N a b s w)) 0 0 138 [some (.ref (ad 80)), some (.int (nI a)), some (.int (nI b)), some (.int s), some (.int w), some (.int (nI n)), some (.int (bt_n g)), some (.int (nI i)), z8, z9] [] M := by
                        intro i g z8 z9
                        induction hd_l3 : 8 - i using Nat.strongRecOn generalizing i g z8 z9 with
                        | ind d_l3 ih_l3 =>
                          intro hi hg
                          refine bj_iload d_Mo_isWay_138 rfl ?_
                          refine bj_iconst (v := (nI 1)) d_Mo_isWay_140 (by decide) ?_
                          refine bj_iadd (v := (nI (i + 1))) d_Mo_isWay_141 (nI_add _ _) ?_
                          refine bj_iload d_Mo_isWay_142 rfl ?_
                          refine bj_icmp_geN (tgt := 228) d_Mo_isWay_144 (by decide) (by first | omega | exact Nat.lt_trans (nb_lt w _) (by decide) | exact hz31 _ _ | exact Nat.lt_of_le_of_lt (Nat.sub_le _ _) (Nat.lt_trans (nb_lt w _) (by decide))) (by first | omega | exact Nat.lt_trans (nb_lt w _) (by decide) | exact hz31 _ _ | exact Nat.lt_of_le_of_lt (Nat.sub_le _ _) (Nat.lt_trans (nb_lt w _) (by decide))) (fun h144 => ?_) (fun h144 => ?_)
                          · refine bj_iload d_Mo_isWay_228 rfl ?_
                            exact bj_iret d_Mo_isWay_230 rfl nar_bt (Nat.le_refl _) (Nat.le_refl _) ⟨g, rfl, (by first | exact hg.trans (Iff.trans ⟨fun q => ⟨q.1, fun j hj => q.2 j (by omega)⟩, fun q => ⟨q.1, fun j hj => q.2 j (by omega)⟩⟩ (wyf hab hs hn h8 hxn (by omega) hzz hp ha)) | exact ⟨fun e => (by rw [bt_n0.mp h149] at e; cases e), fun q => hg.mpr ((fun q => ⟨q.1, fun j hj => q.2 j (by omega)⟩) ((wyf hab hs hn h8 hxn (by omega) hzz hp ha).mpr q))⟩), rfl⟩
                          · refine bj_iload d_Mo_isWay_147 rfl ?_
                            refine bj_if_eq (tgt := 228) d_Mo_isWay_149 (by decide) (fun h149 => ?_) (fun h149 => ?_)
                            · refine bj_iload d_Mo_isWay_228 rfl ?_
                              exact bj_iret d_Mo_isWay_230 rfl nar_bt (Nat.le_refl _) (Nat.le_refl _) ⟨g, rfl, (by first | exact hg.trans (Iff.trans ⟨fun q => ⟨q.1, fun j hj => q.2 j (by omega)⟩, fun q => ⟨q.1, fun j hj => q.2 j (by omega)⟩⟩ (wyf hab hs hn h8 hxn (by omega) hzz hp ha)) | exact ⟨fun e => (by rw [bt_n0.mp h149] at e; cases e), fun q => hg.mpr ((fun q => ⟨q.1, fun j hj => q.2 j (by omega)⟩) ((wyf hab hs hn h8 hxn (by omega) hzz hp ha).mpr q))⟩), rfl⟩
                            · have hwb := (hg.mp (bt_nn h149)).1
                              have hk1 := hwb.2 i (by omega)
                              have hk2 := hwb.2 (i + 1) (by omega)
                              have hp1 := hn i (by omega)
                              have hp2 := hn (i + 1) (by omega)
                              refine bj_iload d_Mo_isWay_152 rfl ?_
                              refine bj_iconst (v := (nI 4)) d_Mo_isWay_154 (by decide) ?_
                              refine bj_iload d_Mo_isWay_155 rfl ?_
                              refine bj_imul (v := (nI (4 * i))) d_Mo_isWay_157 (pk_mul _ _) ?_
                              refine bj_iushr (v := (w.toUInt32 >>> ((nI (4 * i)).toUInt32 &&& Int32.toUInt32 31)).toInt32) d_Mo_isWay_158 rfl ?_
                              refine bj_bipush (v := (nI 15)) d_Mo_isWay_159 (by decide) ?_
                              refine bj_iand (v := (nI (nb w i))) d_Mo_isWay_161 (nb_get w (by omega)) ?_
                              refine bj_iconst (v := (nI 1)) d_Mo_isWay_162 (by decide) ?_
                              refine bj_isub (v := (nI ((nb w i) - 1))) d_Mo_isWay_163 (pk_sub (by omega)) ?_
                              refine bj_istore (L' := [some (.ref (ad 80)), some (.int (nI a)), some (.int (nI b)), some (.int s), some (.int w), some (.int (nI n)), some (.int (bt_n g)), some (.int (nI i)), some (.int (nI ((nb w i) - 1))), z9]) d_Mo_isWay_164 (by decide) rfl ?_
                              refine bj_iload d_Mo_isWay_166 rfl ?_
                              refine bj_iconst (v := (nI 4)) d_Mo_isWay_168 (by decide) ?_
                              refine bj_iload d_Mo_isWay_169 rfl ?_
                              refine bj_iconst (v := (nI 1)) d_Mo_isWay_171 (by decide) ?_
                              refine bj_iadd (v := (nI (i + 1))) d_Mo_isWay_172 (nI_add _ _) ?_
                              refine bj_imul (v := (nI (4 * (i + 1)))) d_Mo_isWay_173 (pk_mul _ _) ?_
                              refine bj_iushr (v := (w.toUInt32 >>> ((nI (4 * (i + 1))).toUInt32 &&& Int32.toUInt32 31)).toInt32) d_Mo_isWay_174 rfl ?_
                              refine bj_bipush (v := (nI 15)) d_Mo_isWay_175 (by decide) ?_
                              refine bj_iand (v := (nI (nb w (i + 1)))) d_Mo_isWay_177 (nb_get w (by omega)) ?_
                              refine bj_iconst (v := (nI 1)) d_Mo_isWay_178 (by decide) ?_
                              refine bj_isub (v := (nI ((nb w (i + 1)) - 1))) d_Mo_isWay_179 (pk_sub (by omega)) ?_
                              refine bj_istore (L' := [some (.ref (ad 80)), some (.int (nI a)), some (.int (nI b)), some (.int s), some (.int w), some (.int (nI n)), some (.int (bt_n g)), some (.int (nI i)), some (.int (nI ((nb w i) - 1))), some (.int (nI ((nb w (i + 1)) - 1)))]) d_Mo_isWay_180 (by decide) rfl ?_
                              refine bj_aload_n d_Mo_isWay_182 rfl rfl ?_
                              refine bj_get d_Mo_isWay_183 in_Mo rfl (by decide : 10 < 17) wf_Mo_28 rfl hm0.1 rfl ?_
                              refine bj_bipush (v := (nI 8)) d_Mo_isWay_186 (by decide) ?_
                              refine bj_iload d_Mo_isWay_188 rfl ?_
                              refine bj_imul (v := (nI (8 * ((nb w i) - 1)))) d_Mo_isWay_190 (pk_mul _ _) ?_
                              refine bj_iload d_Mo_isWay_191 rfl ?_
                              refine bj_iadd (v := (nI ((8 * ((nb w i) - 1)) + ((nb w (i + 1)) - 1)))) d_Mo_isWay_193 (nI_add _ _) ?_
                              refine bv_iald (v := (nI (drn (pz N p) (nb w i - 1) (nb w (i + 1) - 1)))) d_Mo_isWay_194 0 rfl hcn.2 (by omega) (by first | omega | exact Nat.lt_trans (nb_lt w _) (by decide) | exact hz31 _ _ | exact Nat.lt_of_le_of_lt (Nat.sub_le _ _) (Nat.lt_trans (nb_lt w _) (by decide))) (by show nI _ = nI _; rw [show (8 * (nb w i - 1) + (nb w (i + 1) - 1)) / 8 = nb w i - 1 by omega, show (8 * (nb w i - 1) + (nb w (i + 1) - 1)) % 8 = nb w (i + 1) - 1 by omega]) ?_
                              refine bj_if_leN (tgt := 219) d_Mo_isWay_195 (by decide) (by first | omega | exact Nat.lt_trans (nb_lt w _) (by decide) | exact hz31 _ _ | exact Nat.lt_of_le_of_lt (Nat.sub_le _ _) (Nat.lt_trans (nb_lt w _) (by decide))) (fun h195 => ?_) (fun h195 => ?_)
                              · have hst : ¬ wst p N s w i := fun q => by have := q.1; omega
                                refine bj_iconst (v := (nI 0)) d_Mo_isWay_219 (by decide) ?_
                                refine bj_istore (L' := [some (.ref (ad 80)), some (.int (nI a)), some (.int (nI b)), some (.int s), some (.int w), some (.int (nI n)), some (.int (nI 0)), some (.int (nI i)), some (.int (nI ((nb w i) - 1))), some (.int (nI ((nb w (i + 1)) - 1)))]) d_Mo_isWay_220 (by decide) rfl ?_
                                refine bj_iinc (v := (nI (i + 1))) (L' := [some (.ref (ad 80)), some (.int (nI a)), some (.int (nI b)), some (.int s), some (.int w), some (.int (nI n)), some (.int (nI 0)), some (.int (nI (i + 1))), some (.int (nI ((nb w i) - 1))), some (.int (nI ((nb w (i + 1)) - 1)))]) d_Mo_isWay_222 rfl (bj_inc1 _) (by decide) rfl ?_
                                refine bj_goto (tgt := 138) d_Mo_isWay_225 (by decide) ?_
                                exact ih_l3 (8 - (i + 1)) (by omega) (i + 1) false _ _ rfl (by omega) ⟨fun e => (by cases e), fun q => absurd (q.2 i (by omega)) hst⟩
                              · refine bj_aload_n d_Mo_isWay_198 rfl rfl ?_
                                refine bj_get d_Mo_isWay_199 in_Mo rfl (by decide : 10 < 17) wf_Mo_28 rfl hm0.1 rfl ?_
                                refine bj_bipush (v := (nI 8)) d_Mo_isWay_202 (by decide) ?_
                                refine bj_iload d_Mo_isWay_204 rfl ?_
                                refine bj_imul (v := (nI (8 * ((nb w i) - 1)))) d_Mo_isWay_206 (pk_mul _ _) ?_
                                refine bj_iload d_Mo_isWay_207 rfl ?_
                                refine bj_iadd (v := (nI ((8 * ((nb w i) - 1)) + ((nb w (i + 1)) - 1)))) d_Mo_isWay_209 (nI_add _ _) ?_
                                refine bv_iald (v := (nI (drn (pz N p) (nb w i - 1) (nb w (i + 1) - 1)))) d_Mo_isWay_210 0 rfl hcn.2 (by omega) (by first | omega | exact Nat.lt_trans (nb_lt w _) (by decide) | exact hz31 _ _ | exact Nat.lt_of_le_of_lt (Nat.sub_le _ _) (Nat.lt_trans (nb_lt w _) (by decide))) (by show nI _ = nI _; rw [show (8 * (nb w i - 1) + (nb w (i + 1) - 1)) / 8 = nb w i - 1 by omega, show (8 * (nb w i - 1) + (nb w (i + 1) - 1)) % 8 = nb w (i + 1) - 1 by omega]) ?_
                                refine bj_iload_n d_Mo_isWay_211 rfl rfl ?_
                                refine bj_icmp_lt (tgt := 219) d_Mo_isWay_212 (by decide) (fun h212 => ?_) (fun h212 => ?_)
                                · have hst : ¬ wst p N s w i := fun q => q.2 h212
                                  refine bj_iconst (v := (nI 0)) d_Mo_isWay_219 (by decide) ?_
                                  refine bj_istore (L' := [some (.ref (ad 80)), some (.int (nI a)), some (.int (nI b)), some (.int s), some (.int w), some (.int (nI n)), some (.int (nI 0)), some (.int (nI i)), some (.int (nI ((nb w i) - 1))), some (.int (nI ((nb w (i + 1)) - 1)))]) d_Mo_isWay_220 (by decide) rfl ?_
                                  refine bj_iinc (v := (nI (i + 1))) (L' := [some (.ref (ad 80)), some (.int (nI a)), some (.int (nI b)), some (.int s), some (.int w), some (.int (nI n)), some (.int (nI 0)), some (.int (nI (i + 1))), some (.int (nI ((nb w i) - 1))), some (.int (nI ((nb w (i + 1)) - 1)))]) d_Mo_isWay_222 rfl (bj_inc1 _) (by decide) rfl ?_
                                  refine bj_goto (tgt := 138) d_Mo_isWay_225 (by decide) ?_
                                  exact ih_l3 (8 - (i + 1)) (by omega) (i + 1) false _ _ rfl (by omega) ⟨fun e => (by cases e), fun q => absurd (q.2 i (by omega)) hst⟩
                                · have hst : wst p N s w i := ⟨h195, h212⟩
                                  refine bj_iconst (v := (nI 1)) d_Mo_isWay_215 (by decide) ?_
                                  refine bj_goto (tgt := 220) d_Mo_isWay_216 (by decide) ?_
                                  refine bj_istore (L' := [some (.ref (ad 80)), some (.int (nI a)), some (.int (nI b)), some (.int s), some (.int w), some (.int (nI n)), some (.int (nI 1)), some (.int (nI i)), some (.int (nI ((nb w i) - 1))), some (.int (nI ((nb w (i + 1)) - 1)))]) d_Mo_isWay_220 (by decide) rfl ?_
                                  refine bj_iinc (v := (nI (i + 1))) (L' := [some (.ref (ad 80)), some (.int (nI a)), some (.int (nI b)), some (.int s), some (.int w), some (.int (nI n)), some (.int (nI 1)), some (.int (nI (i + 1))), some (.int (nI ((nb w i) - 1))), some (.int (nI ((nb w (i + 1)) - 1)))]) d_Mo_isWay_222 rfl (bj_inc1 _) (by decide) rfl ?_
                                  refine bj_goto (tgt := 138) d_Mo_isWay_225 (by decide) ?_
                                  exact ih_l3 (8 - (i + 1)) (by omega) (i + 1) true _ _ rfl (by omega) ⟨fun _ => ⟨(hg.mp (bt_nn h149)).1, fun j hj => by
                                    rcases Nat.lt_or_ge j i with q | q
                                    · exact (hg.mp (bt_nn h149)).2 j q
                                    · rw [show j = i by omega]; exact hst⟩, fun _ => rfl⟩
                      exact l3 0 g _ _ (by omega) ⟨fun q => ⟨⟨(hg.mp q).1, fun j hj => (hg.mp q).2 j (by omega)⟩, fun j hj => absurd hj (Nat.not_lt_zero _)⟩, fun q => hg.mpr ⟨q.1.1, fun j hj => q.1.2 j (by omega)⟩⟩
                    · refine bj_iload d_Mo_isWay_100 rfl ?_
                      refine bj_if_eq (tgt := 126) d_Mo_isWay_102 (by decide) (fun h102 => ?_) (fun h102 => ?_)
                      · refine bj_iconst (v := (nI 0)) d_Mo_isWay_126 (by decide) ?_
                        refine bj_istore (L' := [some (.ref (ad 80)), some (.int (nI a)), some (.int (nI b)), some (.int s), some (.int w), some (.int (nI n)), some (.int (nI 0)), some (.int (nI i)), none, none]) d_Mo_isWay_127 (by decide) rfl ?_
                        refine bj_iinc (v := (nI (i + 1))) (L' := [some (.ref (ad 80)), some (.int (nI a)), some (.int (nI b)), some (.int s), some (.int w), some (.int (nI n)), some (.int (nI 0)), some (.int (nI (i + 1))), none, none]) d_Mo_isWay_129 rfl (bj_inc1 _) (by decide) rfl ?_
                        refine bj_goto (tgt := 93) d_Mo_isWay_132 (by decide) ?_
                        exact ih_l2 (8 - (i + 1)) (by omega) (i + 1) false rfl (by omega) ⟨fun e => (by cases e), fun q => by first | (have := q.2 i (by omega); omega) | (have := hg.mpr ⟨q.1, fun j hj => q.2 j (by omega)⟩; rw [this] at h102; exact absurd h102 (by decide))⟩
                      · refine bj_iload d_Mo_isWay_105 rfl ?_
                        refine bj_iconst (v := (nI 4)) d_Mo_isWay_107 (by decide) ?_
                        refine bj_iload d_Mo_isWay_108 rfl ?_
                        refine bj_imul (v := (nI (4 * i))) d_Mo_isWay_110 (pk_mul _ _) ?_
                        refine bj_iushr (v := (w.toUInt32 >>> ((nI (4 * i)).toUInt32 &&& Int32.toUInt32 31)).toInt32) d_Mo_isWay_111 rfl ?_
                        refine bj_bipush (v := (nI 15)) d_Mo_isWay_112 (by decide) ?_
                        refine bj_iand (v := (nI (nb w i))) d_Mo_isWay_114 (nb_get w (by omega)) ?_
                        refine bj_aload_n d_Mo_isWay_115 rfl rfl ?_
                        refine bj_get d_Mo_isWay_116 in_Mo rfl (by decide : 0 < 17) wf_Mo_47 rfl hm0.1 rfl ?_
                        refine bj_icmp_gtN (tgt := 126) d_Mo_isWay_119 (by decide) (by first | omega | exact Nat.lt_trans (nb_lt w _) (by decide) | exact hz31 _ _ | exact Nat.lt_of_le_of_lt (Nat.sub_le _ _) (Nat.lt_trans (nb_lt w _) (by decide))) (by first | omega | exact Nat.lt_trans (nb_lt w _) (by decide) | exact hz31 _ _ | exact Nat.lt_of_le_of_lt (Nat.sub_le _ _) (Nat.lt_trans (nb_lt w _) (by decide))) (fun h119 => ?_) (fun h119 => ?_)
                        · refine bj_iconst (v := (nI 0)) d_Mo_isWay_126 (by decide) ?_
                          refine bj_istore (L' := [some (.ref (ad 80)), some (.int (nI a)), some (.int (nI b)), some (.int s), some (.int w), some (.int (nI n)), some (.int (nI 0)), some (.int (nI i)), none, none]) d_Mo_isWay_127 (by decide) rfl ?_
                          refine bj_iinc (v := (nI (i + 1))) (L' := [some (.ref (ad 80)), some (.int (nI a)), some (.int (nI b)), some (.int s), some (.int w), some (.int (nI n)), some (.int (nI 0)), some (.int (nI (i + 1))), none, none]) d_Mo_isWay_129 rfl (bj_inc1 _) (by decide) rfl ?_
                          refine bj_goto (tgt := 93) d_Mo_isWay_132 (by decide) ?_
                          exact ih_l2 (8 - (i + 1)) (by omega) (i + 1) false rfl (by omega) ⟨fun e => (by cases e), fun q => by first | (have := q.2 i (by omega); omega) | (have := hg.mpr ⟨q.1, fun j hj => q.2 j (by omega)⟩; rw [this] at h102; exact absurd h102 (by decide))⟩
                        · refine bj_iconst (v := (nI 1)) d_Mo_isWay_122 (by decide) ?_
                          refine bj_goto (tgt := 127) d_Mo_isWay_123 (by decide) ?_
                          refine bj_istore (L' := [some (.ref (ad 80)), some (.int (nI a)), some (.int (nI b)), some (.int s), some (.int w), some (.int (nI n)), some (.int (nI 1)), some (.int (nI i)), none, none]) d_Mo_isWay_127 (by decide) rfl ?_
                          refine bj_iinc (v := (nI (i + 1))) (L' := [some (.ref (ad 80)), some (.int (nI a)), some (.int (nI b)), some (.int s), some (.int w), some (.int (nI n)), some (.int (nI 1)), some (.int (nI (i + 1))), none, none]) d_Mo_isWay_129 rfl (bj_inc1 _) (by decide) rfl ?_
                          refine bj_goto (tgt := 93) d_Mo_isWay_132 (by decide) ?_
                          exact ih_l2 (8 - (i + 1)) (by omega) (i + 1) true rfl (by omega) ⟨fun _ => ⟨(hg.mp (bt_nn h102)).1, fun j hj => by
                            rcases Nat.lt_or_ge j i with q | q
                            · exact (hg.mp (bt_nn h102)).2 j q
                            · rw [show j = i by omega]; exact h119⟩, fun _ => rfl⟩
                exact l2 0 true (Nat.zero_le _) ⟨fun _ => ⟨⟨h62, h80⟩, fun j hj => absurd hj (Nat.not_lt_zero _)⟩, fun _ => rfl⟩
          · refine bj_iload d_Mo_isWay_42 rfl ?_
            refine bj_iconst (v := (nI 4)) d_Mo_isWay_44 (by decide) ?_
            refine bj_iload d_Mo_isWay_45 rfl ?_
            refine bj_imul (v := (nI (4 * n))) d_Mo_isWay_47 (pk_mul _ _) ?_
            refine bj_iushr (v := (ush w (4 * n))) d_Mo_isWay_48 rfl ?_
            refine bj_if_eq (tgt := 54) d_Mo_isWay_49 (by decide) (fun h49 => ?_) (fun h49 => ?_)
            · have hzz : ∀ j, n ≤ j → j < 8 → nb w j = 0 := by first | (intro j h1 h2; omega) | exact (ush_zero w (by omega)).mp h49
              have hq0 := hn 0 (by omega)
              have hq1 := hn (n - 1) (by omega)
              refine bj_iload d_Mo_isWay_54 rfl ?_
              refine bj_bipush (v := (nI 15)) d_Mo_isWay_56 (by decide) ?_
              refine bj_iand (v := (nI (nb w 0))) d_Mo_isWay_58 (nb0 w) ?_
              refine bj_iconst (v := (nI 1)) d_Mo_isWay_59 (by decide) ?_
              refine bj_isub (v := (nI ((nb w 0) - 1))) d_Mo_isWay_60 (pk_sub (by omega)) ?_
              refine bj_iload_n d_Mo_isWay_61 rfl rfl ?_
              refine bj_icmp_neN (tgt := 87) d_Mo_isWay_62 (by decide) (by first | omega | exact Nat.lt_trans (nb_lt w _) (by decide) | exact hz31 _ _ | exact Nat.lt_of_le_of_lt (Nat.sub_le _ _) (Nat.lt_trans (nb_lt w _) (by decide))) (by first | omega | exact Nat.lt_trans (nb_lt w _) (by decide) | exact hz31 _ _ | exact Nat.lt_of_le_of_lt (Nat.sub_le _ _) (Nat.lt_trans (nb_lt w _) (by decide))) (fun h62 => ?_) (fun h62 => ?_)
              · refine bj_iconst (v := (nI 0)) d_Mo_isWay_87 (by decide) ?_
                refine bj_istore (L' := [some (.ref (ad 80)), some (.int (nI a)), some (.int (nI b)), some (.int s), some (.int w), some (.int (nI n)), some (.int (nI 0)), none, none, none]) d_Mo_isWay_88 (by decide) rfl ?_
                refine bj_iconst (v := (nI 0)) d_Mo_isWay_90 (by decide) ?_
                refine bj_istore (L' := [some (.ref (ad 80)), some (.int (nI a)), some (.int (nI b)), some (.int s), some (.int w), some (.int (nI n)), some (.int (nI 0)), some (.int (nI 0)), none, none]) d_Mo_isWay_91 (by decide) rfl ?_
                have l2 : ∀ (i : Nat), ∀ (g : Bool), (i ≤ n) → (g = true ↔ ((nb w 0 - 1 = a ∧ nb w (n - 1) - 1 = b) ∧ ∀ j, j < i → nb w j ≤ N)) → bj_S (bw_G l D c) Y_Mo_isWay 0 (0, 0, 0, 0) ad (q_b M (wy (fun a b => nI (p a b)) N a b s w)) 0 0 93 [some (.ref (ad 80)), some (.int (nI a)), some (.int (nI b)), some (.int s), some (.int w), some (.int (nI n)), some (.int (bt_n g)), some (.int (nI i)), none, none] [] M := by
                  intro i g
                  induction hd_l2 : 8 - i using Nat.strongRecOn generalizing i g with
                  | ind d_l2 ih_l2 =>
                    intro hi hg
                    refine bj_iload d_Mo_isWay_93 rfl ?_
                    refine bj_iload d_Mo_isWay_95 rfl ?_
                    refine bj_icmp_geN (tgt := 135) d_Mo_isWay_97 (by decide) (by first | omega | exact Nat.lt_trans (nb_lt w _) (by decide) | exact hz31 _ _ | exact Nat.lt_of_le_of_lt (Nat.sub_le _ _) (Nat.lt_trans (nb_lt w _) (by decide))) (by first | omega | exact Nat.lt_trans (nb_lt w _) (by decide) | exact hz31 _ _ | exact Nat.lt_of_le_of_lt (Nat.sub_le _ _) (Nat.lt_trans (nb_lt w _) (by decide))) (fun h97 => ?_) (fun h97 => ?_)
                    · refine bj_iconst (v := (nI 0)) d_Mo_isWay_135 (by decide) ?_
                      refine bj_istore (L' := [some (.ref (ad 80)), some (.int (nI a)), some (.int (nI b)), some (.int s), some (.int w), some (.int (nI n)), some (.int (bt_n g)), some (.int (nI 0)), none, none]) d_Mo_isWay_136 (by decide) rfl ?_
                      have l3 : ∀ (i : Nat), ∀ (g : Bool), ∀ (z8 : Option Value), ∀ (z9 : Option Value), (i + 1 ≤ n) → (g = true ↔ (wba N a b n w ∧ ∀ j, j < i → wst p N s w j)) → bj_S (bw_G l D c) Y_Mo_isWay 0 (0, 0, 0, 0) ad (q_b M (wy (fun a b => nI (p a b)) N a b s w)) 0 0 138 [some (.ref (ad 80)), some (.int (nI a)), some (.int (nI b)), some (.int s), some (.int w), some (.int (nI n)), some (.int (bt_n g)), some (.int (nI i)), z8, z9] [] M := by
                        intro i g z8 z9
                        induction hd_l3 : 8 - i using Nat.strongRecOn generalizing i g z8 z9 with
                        | ind d_l3 ih_l3 =>
                          intro hi hg
                          refine bj_iload d_Mo_isWay_138 rfl ?_
                          refine bj_iconst (v := (nI 1)) d_Mo_isWay_140 (by decide) ?_
                          refine bj_iadd (v := (nI (i + 1))) d_Mo_isWay_141 (nI_add _ _) ?_
                          refine bj_iload d_Mo_isWay_142 rfl ?_
                          refine bj_icmp_geN (tgt := 228) d_Mo_isWay_144 (by decide) (by first | omega | exact Nat.lt_trans (nb_lt w _) (by decide) | exact hz31 _ _ | exact Nat.lt_of_le_of_lt (Nat.sub_le _ _) (Nat.lt_trans (nb_lt w _) (by decide))) (by first | omega | exact Nat.lt_trans (nb_lt w _) (by decide) | exact hz31 _ _ | exact Nat.lt_of_le_of_lt (Nat.sub_le _ _) (Nat.lt_trans (nb_lt w _) (by decide))) (fun h144 => ?_) (fun h144 => ?_)
                          · refine bj_iload d_Mo_isWay_228 rfl ?_
                            exact bj_iret d_Mo_isWay_230 rfl nar_bt (Nat.le_refl _) (Nat.le_refl _) ⟨g, rfl, (by first | exact hg.trans (Iff.trans ⟨fun q => ⟨q.1, fun j hj => q.2 j (by omega)⟩, fun q => ⟨q.1, fun j hj => q.2 j (by omega)⟩⟩ (wyf hab hs hn h8 hxn (by omega) hzz hp ha)) | exact ⟨fun e => (by rw [bt_n0.mp h149] at e; cases e), fun q => hg.mpr ((fun q => ⟨q.1, fun j hj => q.2 j (by omega)⟩) ((wyf hab hs hn h8 hxn (by omega) hzz hp ha).mpr q))⟩), rfl⟩
                          · refine bj_iload d_Mo_isWay_147 rfl ?_
                            refine bj_if_eq (tgt := 228) d_Mo_isWay_149 (by decide) (fun h149 => ?_) (fun h149 => ?_)
                            · refine bj_iload d_Mo_isWay_228 rfl ?_
                              exact bj_iret d_Mo_isWay_230 rfl nar_bt (Nat.le_refl _) (Nat.le_refl _) ⟨g, rfl, (by first | exact hg.trans (Iff.trans ⟨fun q => ⟨q.1, fun j hj => q.2 j (by omega)⟩, fun q => ⟨q.1, fun j hj => q.2 j (by omega)⟩⟩ (wyf hab hs hn h8 hxn (by omega) hzz hp ha)) | exact ⟨fun e => (by rw [bt_n0.mp h149] at e; cases e), fun q => hg.mpr ((fun q => ⟨q.1, fun j hj => q.2 j (by omega)⟩) ((wyf hab hs hn h8 hxn (by omega) hzz hp ha).mpr q))⟩), rfl⟩
                            · have hwb := (hg.mp (bt_nn h149)).1
                              have hk1 := hwb.2 i (by omega)
                              have hk2 := hwb.2 (i + 1) (by omega)
                              have hp1 := hn i (by omega)
                              have hp2 := hn (i + 1) (by omega)
                              refine bj_iload d_Mo_isWay_152 rfl ?_
                              refine bj_iconst (v := (nI 4)) d_Mo_isWay_154 (by decide) ?_
                              refine bj_iload d_Mo_isWay_155 rfl ?_
                              refine bj_imul (v := (nI (4 * i))) d_Mo_isWay_157 (pk_mul _ _) ?_
                              refine bj_iushr (v := (w.toUInt32 >>> ((nI (4 * i)).toUInt32 &&& Int32.toUInt32 31)).toInt32) d_Mo_isWay_158 rfl ?_
                              refine bj_bipush (v := (nI 15)) d_Mo_isWay_159 (by decide) ?_
                              refine bj_iand (v := (nI (nb w i))) d_Mo_isWay_161 (nb_get w (by omega)) ?_
                              refine bj_iconst (v := (nI 1)) d_Mo_isWay_162 (by decide) ?_
                              refine bj_isub (v := (nI ((nb w i) - 1))) d_Mo_isWay_163 (pk_sub (by omega)) ?_
                              refine bj_istore (L' := [some (.ref (ad 80)), some (.int (nI a)), some (.int (nI b)), some (.int s), some (.int w), some (.int (nI n)), some (.int (bt_n g)), some (.int (nI i)), some (.int (nI ((nb w i) - 1))), z9]) d_Mo_isWay_164 (by decide) rfl ?_
                              refine bj_iload d_Mo_isWay_166 rfl ?_
                              refine bj_iconst (v := (nI 4)) d_Mo_isWay_168 (by decide) ?_
                              refine bj_iload d_Mo_isWay_169 rfl ?_
                              refine bj_iconst (v := (nI 1)) d_Mo_isWay_171 (by decide) ?_
                              refine bj_iadd (v := (nI (i + 1))) d_Mo_isWay_172 (nI_add _ _) ?_
                              refine bj_imul (v := (nI (4 * (i + 1)))) d_Mo_isWay_173 (pk_mul _ _) ?_
                              refine bj_iushr (v := (w.toUInt32 >>> ((nI (4 * (i + 1))).toUInt32 &&& Int32.toUInt32 31)).toInt32) d_Mo_isWay_174 rfl ?_
                              refine bj_bipush (v := (nI 15)) d_Mo_isWay_175 (by decide) ?_
                              refine bj_iand (v := (nI (nb w (i + 1)))) d_Mo_isWay_177 (nb_get w (by omega)) ?_
                              refine bj_iconst (v := (nI 1)) d_Mo_isWay_178 (by decide) ?_
                              refine bj_isub (v := (nI ((nb w (i + 1)) - 1))) d_Mo_isWay_179 (pk_sub (by omega)) ?_
                              refine bj_istore (L' := [some (.ref (ad 80)), some (.int (nI a)), some (.int (nI b)), some (.int s), some (.int w), some (.int (nI n)), some (.int (bt_n g)), some (.int (nI i)), some (.int (nI ((nb w i) - 1))), some (.int (nI ((nb w (i + 1)) - 1)))]) d_Mo_isWay_180 (by decide) rfl ?_
                              refine bj_aload_n d_Mo_isWay_182 rfl rfl ?_
                              refine bj_get d_Mo_isWay_183 in_Mo rfl (by decide : 10 < 17) wf_Mo_28 rfl hm0.1 rfl ?_
                              refine bj_bipush (v := (nI 8)) d_Mo_isWay_186 (by decide) ?_
                              refine bj_iload d_Mo_isWay_188 rfl ?_
                              refine bj_imul (v := (nI (8 * ((nb w i) - 1)))) d_Mo_isWay_190 (pk_mul _ _) ?_
                              refine bj_iload d_Mo_isWay_191 rfl ?_
                              refine bj_iadd (v := (nI ((8 * ((nb w i) - 1)) + ((nb w (i + 1)) - 1)))) d_Mo_isWay_193 (nI_add _ _) ?_
                              refine bv_iald (v := (nI (drn (pz N p) (nb w i - 1) (nb w (i + 1) - 1)))) d_Mo_isWay_194 0 rfl hcn.2 (by omega) (by first | omega | exact Nat.lt_trans (nb_lt w _) (by decide) | exact hz31 _ _ | exact Nat.lt_of_le_of_lt (Nat.sub_le _ _) (Nat.lt_trans (nb_lt w _) (by decide))) (by show nI _ = nI _; rw [show (8 * (nb w i - 1) + (nb w (i + 1) - 1)) / 8 = nb w i - 1 by omega, show (8 * (nb w i - 1) + (nb w (i + 1) - 1)) % 8 = nb w (i + 1) - 1 by omega]) ?_
                              refine bj_if_leN (tgt := 219) d_Mo_isWay_195 (by decide) (by first | omega | exact Nat.lt_trans (nb_lt w _) (by decide) | exact hz31 _ _ | exact Nat.lt_of_le_of_lt (Nat.sub_le _ _) (Nat.lt_trans (nb_lt w _) (by decide))) (fun h195 => ?_) (fun h195 => ?_)
                              · have hst : ¬ wst p N s w i := fun q => by have := q.1; omega
                                refine bj_iconst (v := (nI 0)) d_Mo_isWay_219 (by decide) ?_
                                refine bj_istore (L' := [some (.ref (ad 80)), some (.int (nI a)), some (.int (nI b)), some (.int s), some (.int w), some (.int (nI n)), some (.int (nI 0)), some (.int (nI i)), some (.int (nI ((nb w i) - 1))), some (.int (nI ((nb w (i + 1)) - 1)))]) d_Mo_isWay_220 (by decide) rfl ?_
                                refine bj_iinc (v := (nI (i + 1))) (L' := [some (.ref (ad 80)), some (.int (nI a)), some (.int (nI b)), some (.int s), some (.int w), some (.int (nI n)), some (.int (nI 0)), some (.int (nI (i + 1))), some (.int (nI ((nb w i) - 1))), some (.int (nI ((nb w (i + 1)) - 1)))]) d_Mo_isWay_222 rfl (bj_inc1 _) (by decide) rfl ?_
                                refine bj_goto (tgt := 138) d_Mo_isWay_225 (by decide) ?_
                                exact ih_l3 (8 - (i + 1)) (by omega) (i + 1) false _ _ rfl (by omega) ⟨fun e => (by cases e), fun q => absurd (q.2 i (by omega)) hst⟩
                              · refine bj_aload_n d_Mo_isWay_198 rfl rfl ?_
                                refine bj_get d_Mo_isWay_199 in_Mo rfl (by decide : 10 < 17) wf_Mo_28 rfl hm0.1 rfl ?_
                                refine bj_bipush (v := (nI 8)) d_Mo_isWay_202 (by decide) ?_
                                refine bj_iload d_Mo_isWay_204 rfl ?_
                                refine bj_imul (v := (nI (8 * ((nb w i) - 1)))) d_Mo_isWay_206 (pk_mul _ _) ?_
                                refine bj_iload d_Mo_isWay_207 rfl ?_
                                refine bj_iadd (v := (nI ((8 * ((nb w i) - 1)) + ((nb w (i + 1)) - 1)))) d_Mo_isWay_209 (nI_add _ _) ?_
                                refine bv_iald (v := (nI (drn (pz N p) (nb w i - 1) (nb w (i + 1) - 1)))) d_Mo_isWay_210 0 rfl hcn.2 (by omega) (by first | omega | exact Nat.lt_trans (nb_lt w _) (by decide) | exact hz31 _ _ | exact Nat.lt_of_le_of_lt (Nat.sub_le _ _) (Nat.lt_trans (nb_lt w _) (by decide))) (by show nI _ = nI _; rw [show (8 * (nb w i - 1) + (nb w (i + 1) - 1)) / 8 = nb w i - 1 by omega, show (8 * (nb w i - 1) + (nb w (i + 1) - 1)) % 8 = nb w (i + 1) - 1 by omega]) ?_
                                refine bj_iload_n d_Mo_isWay_211 rfl rfl ?_
                                refine bj_icmp_lt (tgt := 219) d_Mo_isWay_212 (by decide) (fun h212 => ?_) (fun h212 => ?_)
                                · have hst : ¬ wst p N s w i := fun q => q.2 h212
                                  refine bj_iconst (v := (nI 0)) d_Mo_isWay_219 (by decide) ?_
                                  refine bj_istore (L' := [some (.ref (ad 80)), some (.int (nI a)), some (.int (nI b)), some (.int s), some (.int w), some (.int (nI n)), some (.int (nI 0)), some (.int (nI i)), some (.int (nI ((nb w i) - 1))), some (.int (nI ((nb w (i + 1)) - 1)))]) d_Mo_isWay_220 (by decide) rfl ?_
                                  refine bj_iinc (v := (nI (i + 1))) (L' := [some (.ref (ad 80)), some (.int (nI a)), some (.int (nI b)), some (.int s), some (.int w), some (.int (nI n)), some (.int (nI 0)), some (.int (nI (i + 1))), some (.int (nI ((nb w i) - 1))), some (.int (nI ((nb w (i + 1)) - 1)))]) d_Mo_isWay_222 rfl (bj_inc1 _) (by decide) rfl ?_
                                  refine bj_goto (tgt := 138) d_Mo_isWay_225 (by decide) ?_
                                  exact ih_l3 (8 - (i + 1)) (by omega) (i + 1) false _ _ rfl (by omega) ⟨fun e => (by cases e), fun q => absurd (q.2 i (by omega)) hst⟩
                                · have hst : wst p N s w i := ⟨h195, h212⟩
                                  refine bj_iconst (v := (nI 1)) d_Mo_isWay_215 (by decide) ?_
                                  refine bj_goto (tgt := 220) d_Mo_isWay_216 (by decide) ?_
                                  refine bj_istore (L' := [some (.ref (ad 80)), some (.int (nI a)), some (.int (nI b)), some (.int s), some (.int w), some (.int (nI n)), some (.int (nI 1)), some (.int (nI i)), some (.int (nI ((nb w i) - 1))), some (.int (nI ((nb w (i + 1)) - 1)))]) d_Mo_isWay_220 (by decide) rfl ?_
                                  refine bj_iinc (v := (nI (i + 1))) (L' := [some (.ref (ad 80)), some (.int (nI a)), some (.int (nI b)), some (.int s), some (.int w), some (.int (nI n)), some (.int (nI 1)), some (.int (nI (i + 1))), some (.int (nI ((nb w i) - 1))), some (.int (nI ((nb w (i + 1)) - 1)))]) d_Mo_isWay_222 rfl (bj_inc1 _) (by decide) rfl ?_
                                  refine bj_goto (tgt := 138) d_Mo_isWay_225 (by decide) ?_
                                  exact ih_l3 (8 - (i + 1)) (by omega) (i + 1) true _ _ rfl (by omega) ⟨fun _ => ⟨(hg.mp (bt_nn h149)).1, fun j hj => by
                                    rcases Nat.lt_or_ge j i with q | q
                                    · exact (hg.mp (bt_nn h149)).2 j q
                                    · rw [show j = i by omega]; exact hst⟩, fun _ => rfl⟩
                      exact l3 0 g _ _ (by omega) ⟨fun q => ⟨⟨(hg.mp q).1, fun j hj => (hg.mp q).2 j (by omega)⟩, fun j hj => absurd hj (Nat.not_lt_zero _)⟩, fun q => hg.mpr ⟨q.1.1, fun j hj => q.1.2 j (by omega)⟩⟩
                    · refine bj_iload d_Mo_isWay_100 rfl ?_
                      refine bj_if_eq (tgt := 126) d_Mo_isWay_102 (by decide) (fun h102 => ?_) (fun h102 => ?_)
                      · refine bj_iconst (v := (nI 0)) d_Mo_isWay_126 (by decide) ?_
                        refine bj_istore (L' := [some (.ref (ad 80)), some (.int (nI a)), some (.int (nI b)), some (.int s), some (.int w), some (.int (nI n)), some (.int (nI 0)), some (.int (nI i)), none, none]) d_Mo_isWay_127 (by decide) rfl ?_
                        refine bj_iinc (v := (nI (i + 1))) (L' := [some (.ref (ad 80)), some (.int (nI a)), some (.int (nI b)), some (.int s), some (.int w), some (.int (nI n)), some (.int (nI 0)), some (.int (nI (i + 1))), none, none]) d_Mo_isWay_129 rfl (bj_inc1 _) (by decide) rfl ?_
                        refine bj_goto (tgt := 93) d_Mo_isWay_132 (by decide) ?_
                        exact ih_l2 (8 - (i + 1)) (by omega) (i + 1) false rfl (by omega) ⟨fun e => (by cases e), fun q => by first | (have := q.2 i (by omega); omega) | (have := hg.mpr ⟨q.1, fun j hj => q.2 j (by omega)⟩; rw [this] at h102; exact absurd h102 (by decide))⟩
                      · refine bj_iload d_Mo_isWay_105 rfl ?_
                        refine bj_iconst (v := (nI 4)) d_Mo_isWay_107 (by decide) ?_
                        refine bj_iload d_Mo_isWay_108 rfl ?_
                        refine bj_imul (v := (nI (4 * i))) d_Mo_isWay_110 (pk_mul _ _) ?_
                        refine bj_iushr (v := (w.toUInt32 >>> ((nI (4 * i)).toUInt32 &&& Int32.toUInt32 31)).toInt32) d_Mo_isWay_111 rfl ?_
                        refine bj_bipush (v := (nI 15)) d_Mo_isWay_112 (by decide) ?_
                        refine bj_iand (v := (nI (nb w i))) d_Mo_isWay_114 (nb_get w (by omega)) ?_
                        refine bj_aload_n d_Mo_isWay_115 rfl rfl ?_
                        refine bj_get d_Mo_isWay_116 in_Mo rfl (by decide : 0 < 17) wf_Mo_47 rfl hm0.1 rfl ?_
                        refine bj_icmp_gtN (tgt := 126) d_Mo_isWay_119 (by decide) (by first | omega | exact Nat.lt_trans (nb_lt w _) (by decide) | exact hz31 _ _ | exact Nat.lt_of_le_of_lt (Nat.sub_le _ _) (Nat.lt_trans (nb_lt w _) (by decide))) (by first | omega | exact Nat.lt_trans (nb_lt w _) (by decide) | exact hz31 _ _ | exact Nat.lt_of_le_of_lt (Nat.sub_le _ _) (Nat.lt_trans (nb_lt w _) (by decide))) (fun h119 => ?_) (fun h119 => ?_)
                        · refine bj_iconst (v := (nI 0)) d_Mo_isWay_126 (by decide) ?_
                          refine bj_istore (L' := [some (.ref (ad 80)), some (.int (nI a)), some (.int (nI b)), some (.int s), some (.int w), some (.int (nI n)), some (.int (nI 0)), some (.int (nI i)), none, none]) d_Mo_isWay_127 (by decide) rfl ?_
                          refine bj_iinc (v := (nI (i + 1))) (L' := [some (.ref (ad 80)), some (.int (nI a)), some (.int (nI b)), some (.int s), some (.int w), some (.int (nI n)), some (.int (nI 0)), some (.int (nI (i + 1))), none, none]) d_Mo_isWay_129 rfl (bj_inc1 _) (by decide) rfl ?_
                          refine bj_goto (tgt := 93) d_Mo_isWay_132 (by decide) ?_
                          exact ih_l2 (8 - (i + 1)) (by omega) (i + 1) false rfl (by omega) ⟨fun e => (by cases e), fun q => by first | (have := q.2 i (by omega); omega) | (have := hg.mpr ⟨q.1, fun j hj => q.2 j (by omega)⟩; rw [this] at h102; exact absurd h102 (by decide))⟩
                        · refine bj_iconst (v := (nI 1)) d_Mo_isWay_122 (by decide) ?_
                          refine bj_goto (tgt := 127) d_Mo_isWay_123 (by decide) ?_
                          refine bj_istore (L' := [some (.ref (ad 80)), some (.int (nI a)), some (.int (nI b)), some (.int s), some (.int w), some (.int (nI n)), some (.int (nI 1)), some (.int (nI i)), none, none]) d_Mo_isWay_127 (by decide) rfl ?_
                          refine bj_iinc (v := (nI (i + 1))) (L' := [some (.ref (ad 80)), some (.int (nI a)), some (.int (nI b)), some (.int s), some (.int w), some (.int (nI n)), some (.int (nI 1)), some (.int (nI (i + 1))), none, none]) d_Mo_isWay_129 rfl (bj_inc1 _) (by decide) rfl ?_
                          refine bj_goto (tgt := 93) d_Mo_isWay_132 (by decide) ?_
                          exact ih_l2 (8 - (i + 1)) (by omega) (i + 1) true rfl (by omega) ⟨fun _ => ⟨(hg.mp (bt_nn h102)).1, fun j hj => by
                            rcases Nat.lt_or_ge j i with q | q
                            · exact (hg.mp (bt_nn h102)).2 j q
                            · rw [show j = i by omega]; exact h119⟩, fun _ => rfl⟩
                exact l2 0 false (Nat.zero_le _) ⟨fun e => (by cases e), fun q => by first | exact absurd q.1.1 h62 | exact absurd q.1.2 h80⟩
              · refine bj_iload d_Mo_isWay_65 rfl ?_
                refine bj_iconst (v := (nI 4)) d_Mo_isWay_67 (by decide) ?_
                refine bj_iload d_Mo_isWay_68 rfl ?_
                refine bj_iconst (v := (nI 1)) d_Mo_isWay_70 (by decide) ?_
                refine bj_isub (v := (nI (n - 1))) d_Mo_isWay_71 (pk_sub (by omega)) ?_
                refine bj_imul (v := (nI (4 * (n - 1)))) d_Mo_isWay_72 (pk_mul _ _) ?_
                refine bj_iushr (v := (w.toUInt32 >>> ((nI (4 * (n - 1))).toUInt32 &&& Int32.toUInt32 31)).toInt32) d_Mo_isWay_73 rfl ?_
                refine bj_bipush (v := (nI 15)) d_Mo_isWay_74 (by decide) ?_
                refine bj_iand (v := (nI (nb w (n - 1)))) d_Mo_isWay_76 (nb_get w (by omega)) ?_
                refine bj_iconst (v := (nI 1)) d_Mo_isWay_77 (by decide) ?_
                refine bj_isub (v := (nI ((nb w (n - 1)) - 1))) d_Mo_isWay_78 (pk_sub (by omega)) ?_
                refine bj_iload_n d_Mo_isWay_79 rfl rfl ?_
                refine bj_icmp_neN (tgt := 87) d_Mo_isWay_80 (by decide) (by first | omega | exact Nat.lt_trans (nb_lt w _) (by decide) | exact hz31 _ _ | exact Nat.lt_of_le_of_lt (Nat.sub_le _ _) (Nat.lt_trans (nb_lt w _) (by decide))) (by first | omega | exact Nat.lt_trans (nb_lt w _) (by decide) | exact hz31 _ _ | exact Nat.lt_of_le_of_lt (Nat.sub_le _ _) (Nat.lt_trans (nb_lt w _) (by decide))) (fun h80 => ?_) (fun h80 => ?_)
                · refine bj_iconst (v := (nI 0)) d_Mo_isWay_87 (by decide) ?_
                  refine bj_istore (L' := [some (.ref (ad 80)), some (.int (nI a)), some (.int (nI b)), some (.int s), some (.int w), some (.int (nI n)), some (.int (nI 0)), none, none, none]) d_Mo_isWay_88 (by decide) rfl ?_
                  refine bj_iconst (v := (nI 0)) d_Mo_isWay_90 (by decide) ?_
                  refine bj_istore (L' := [some (.ref (ad 80)), some (.int (nI a)), some (.int (nI b)), some (.int s), some (.int w), some (.int (nI n)), some (.int (nI 0)), some (.int (nI 0)), none, none]) d_Mo_isWay_91 (by decide) rfl ?_
                  have l2 : ∀ (i : Nat), ∀ (g : Bool), (i ≤ n) → (g = true ↔ ((nb w 0 - 1 = a ∧ nb w (n - 1) - 1 = b) ∧ ∀ j, j < i → nb w j ≤ N)) → bj_S (bw_G l D c) Y_Mo_isWay 0 (0, 0, 0, 0) ad (q_b M (wy (fun a b => nI (p a b)) N a b s w)) 0 0 93 [some (.ref (ad 80)), some (.int (nI a)), some (.int (nI b)), some (.int s), some (.int w), some (.int (nI n)), some (.int (bt_n g)), some (.int (nI i)), none, none] [] M := by
                    intro i g
                    induction hd_l2 : 8 - i using Nat.strongRecOn generalizing i g with
                    | ind d_l2 ih_l2 =>
                      intro hi hg
                      refine bj_iload d_Mo_isWay_93 rfl ?_
                      refine bj_iload d_Mo_isWay_95 rfl ?_
                      refine bj_icmp_geN (tgt := 135) d_Mo_isWay_97 (by decide) (by first | omega | exact Nat.lt_trans (nb_lt w _) (by decide) | exact hz31 _ _ | exact Nat.lt_of_le_of_lt (Nat.sub_le _ _) (Nat.lt_trans (nb_lt w _) (by decide))) (by first | omega | exact Nat.lt_trans (nb_lt w _) (by decide) | exact hz31 _ _ | exact Nat.lt_of_le_of_lt (Nat.sub_le _ _) (Nat.lt_trans (nb_lt w _) (by decide))) (fun h97 => ?_) (fun h97 => ?_)
                      · refine bj_iconst (v := (nI 0)) d_Mo_isWay_135 (by decide) ?_
                        refine bj_istore (L' := [some (.ref (ad 80)), some (.int (nI a)), some (.int (nI b)), some (.int s), some (.int w), some (.int (nI n)), some (.int (bt_n g)), some (.int (nI 0)), none, none]) d_Mo_isWay_136 (by decide) rfl ?_
                        have l3 : ∀ (i : Nat), ∀ (g : Bool), ∀ (z8 : Option Value), ∀ (z9 : Option Value), (i + 1 ≤ n) → (g = true ↔ (wba N a b n w ∧ ∀ j, j < i → wst p N s w j)) → bj_S (bw_G l D c) Y_Mo_isWay 0 (0, 0, 0, 0) ad (q_b M (wy (fun a b => nI (p a b)) N a b s w)) 0 0 138 [some (.ref (ad 80)), some (.int (nI a)), some (.int (nI b)), some (.int s), some (.int w), some (.int (nI n)), some (.int (bt_n g)), some (.int (nI i)), z8, z9] [] M := by
                          intro i g z8 z9
                          induction hd_l3 : 8 - i using Nat.strongRecOn generalizing i g z8 z9 with
                          | ind d_l3 ih_l3 =>
                            intro hi hg
                            refine bj_iload d_Mo_isWay_138 rfl ?_
                            refine bj_iconst (v := (nI 1)) d_Mo_isWay_140 (by decide) ?_
                            refine bj_iadd (v := (nI (i + 1))) d_Mo_isWay_141 (nI_add _ _) ?_
                            refine bj_iload d_Mo_isWay_142 rfl ?_
                            refine bj_icmp_geN (tgt := 228) d_Mo_isWay_144 (by decide) (by first | omega | exact Nat.lt_trans (nb_lt w _) (by decide) | exact hz31 _ _ | exact Nat.lt_of_le_of_lt (Nat.sub_le _ _) (Nat.lt_trans (nb_lt w _) (by decide))) (by first | omega | exact Nat.lt_trans (nb_lt w _) (by decide) | exact hz31 _ _ | exact Nat.lt_of_le_of_lt (Nat.sub_le _ _) (Nat.lt_trans (nb_lt w _) (by decide))) (fun h144 => ?_) (fun h144 => ?_)
                            · refine bj_iload d_Mo_isWay_228 rfl ?_
                              exact bj_iret d_Mo_isWay_230 rfl nar_bt (Nat.le_refl _) (Nat.le_refl _) ⟨g, rfl, (by first | exact hg.trans (Iff.trans ⟨fun q => ⟨q.1, fun j hj => q.2 j (by omega)⟩, fun q => ⟨q.1, fun j hj => q.2 j (by omega)⟩⟩ (wyf hab hs hn h8 hxn (by omega) hzz hp ha)) | exact ⟨fun e => (by rw [bt_n0.mp h149] at e; cases e), fun q => hg.mpr ((fun q => ⟨q.1, fun j hj => q.2 j (by omega)⟩) ((wyf hab hs hn h8 hxn (by omega) hzz hp ha).mpr q))⟩), rfl⟩
                            · refine bj_iload d_Mo_isWay_147 rfl ?_
                              refine bj_if_eq (tgt := 228) d_Mo_isWay_149 (by decide) (fun h149 => ?_) (fun h149 => ?_)
                              · refine bj_iload d_Mo_isWay_228 rfl ?_
                                exact bj_iret d_Mo_isWay_230 rfl nar_bt (Nat.le_refl _) (Nat.le_refl _) ⟨g, rfl, (by first | exact hg.trans (Iff.trans ⟨fun q => ⟨q.1, fun j hj => q.2 j (by omega)⟩, fun q => ⟨q.1, fun j hj => q.2 j (by omega)⟩⟩ (wyf hab hs hn h8 hxn (by omega) hzz hp ha)) | exact ⟨fun e => (by rw [bt_n0.mp h149] at e; cases e), fun q => hg.mpr ((fun q => ⟨q.1, fun j hj => q.2 j (by omega)⟩) ((wyf hab hs hn h8 hxn (by omega) hzz hp ha).mpr q))⟩), rfl⟩
                              · have hwb := (hg.mp (bt_nn h149)).1
                                have hk1 := hwb.2 i (by omega)
                                have hk2 := hwb.2 (i + 1) (by omega)
                                have hp1 := hn i (by omega)
                                have hp2 := hn (i + 1) (by omega)
                                refine bj_iload d_Mo_isWay_152 rfl ?_
                                refine bj_iconst (v := (nI 4)) d_Mo_isWay_154 (by decide) ?_
                                refine bj_iload d_Mo_isWay_155 rfl ?_
                                refine bj_imul (v := (nI (4 * i))) d_Mo_isWay_157 (pk_mul _ _) ?_
                                refine bj_iushr (v := (w.toUInt32 >>> ((nI (4 * i)).toUInt32 &&& Int32.toUInt32 31)).toInt32) d_Mo_isWay_158 rfl ?_
                                refine bj_bipush (v := (nI 15)) d_Mo_isWay_159 (by decide) ?_
                                refine bj_iand (v := (nI (nb w i))) d_Mo_isWay_161 (nb_get w (by omega)) ?_
                                refine bj_iconst (v := (nI 1)) d_Mo_isWay_162 (by decide) ?_
                                refine bj_isub (v := (nI ((nb w i) - 1))) d_Mo_isWay_163 (pk_sub (by omega)) ?_
                                refine bj_istore (L' := [some (.ref (ad 80)), some (.int (nI a)), some (.int (nI b)), some (.int s), some (.int w), some (.int (nI n)), some (.int (bt_n g)), some (.int (nI i)), some (.int (nI ((nb w i) - 1))), z9]) d_Mo_isWay_164 (by decide) rfl ?_
                                refine bj_iload d_Mo_isWay_166 rfl ?_
                                refine bj_iconst (v := (nI 4)) d_Mo_isWay_168 (by decide) ?_
                                refine bj_iload d_Mo_isWay_169 rfl ?_
                                refine bj_iconst (v := (nI 1)) d_Mo_isWay_171 (by decide) ?_
                                refine bj_iadd (v := (nI (i + 1))) d_Mo_isWay_172 (nI_add _ _) ?_
                                refine bj_imul (v := (nI (4 * (i + 1)))) d_Mo_isWay_173 (pk_mul _ _) ?_
                                refine bj_iushr (v := (w.toUInt32 >>> ((nI (4 * (i + 1))).toUInt32 &&& Int32.toUInt32 31)).toInt32) d_Mo_isWay_174 rfl ?_
                                refine bj_bipush (v := (nI 15)) d_Mo_isWay_175 (by decide) ?_
                                refine bj_iand (v := (nI (nb w (i + 1)))) d_Mo_isWay_177 (nb_get w (by omega)) ?_
                                refine bj_iconst (v := (nI 1)) d_Mo_isWay_178 (by decide) ?_
                                refine bj_isub (v := (nI ((nb w (i + 1)) - 1))) d_Mo_isWay_179 (pk_sub (by omega)) ?_
                                refine bj_istore (L' := [some (.ref (ad 80)), some (.int (nI a)), some (.int (nI b)), some (.int s), some (.int w), some (.int (nI n)), some (.int (bt_n g)), some (.int (nI i)), some (.int (nI ((nb w i) - 1))), some (.int (nI ((nb w (i + 1)) - 1)))]) d_Mo_isWay_180 (by decide) rfl ?_
                                refine bj_aload_n d_Mo_isWay_182 rfl rfl ?_
                                refine bj_get d_Mo_isWay_183 in_Mo rfl (by decide : 10 < 17) wf_Mo_28 rfl hm0.1 rfl ?_
                                refine bj_bipush (v := (nI 8)) d_Mo_isWay_186 (by decide) ?_
                                refine bj_iload d_Mo_isWay_188 rfl ?_
                                refine bj_imul (v := (nI (8 * ((nb w i) - 1)))) d_Mo_isWay_190 (pk_mul _ _) ?_
                                refine bj_iload d_Mo_isWay_191 rfl ?_
                                refine bj_iadd (v := (nI ((8 * ((nb w i) - 1)) + ((nb w (i + 1)) - 1)))) d_Mo_isWay_193 (nI_add _ _) ?_
                                refine bv_iald (v := (nI (drn (pz N p) (nb w i - 1) (nb w (i + 1) - 1)))) d_Mo_isWay_194 0 rfl hcn.2 (by omega) (by first | omega | exact Nat.lt_trans (nb_lt w _) (by decide) | exact hz31 _ _ | exact Nat.lt_of_le_of_lt (Nat.sub_le _ _) (Nat.lt_trans (nb_lt w _) (by decide))) (by show nI _ = nI _; rw [show (8 * (nb w i - 1) + (nb w (i + 1) - 1)) / 8 = nb w i - 1 by omega, show (8 * (nb w i - 1) + (nb w (i + 1) - 1)) % 8 = nb w (i + 1) - 1 by omega]) ?_
                                refine bj_if_leN (tgt := 219) d_Mo_isWay_195 (by decide) (by first | omega | exact Nat.lt_trans (nb_lt w _) (by decide) | exact hz31 _ _ | exact Nat.lt_of_le_of_lt (Nat.sub_le _ _) (Nat.lt_trans (nb_lt w _) (by decide))) (fun h195 => ?_) (fun h195 => ?_)
                                · have hst : ¬ wst p N s w i := fun q => by have := q.1; omega
                                  refine bj_iconst (v := (nI 0)) d_Mo_isWay_219 (by decide) ?_
                                  refine bj_istore (L' := [some (.ref (ad 80)), some (.int (nI a)), some (.int (nI b)), some (.int s), some (.int w), some (.int (nI n)), some (.int (nI 0)), some (.int (nI i)), some (.int (nI ((nb w i) - 1))), some (.int (nI ((nb w (i + 1)) - 1)))]) d_Mo_isWay_220 (by decide) rfl ?_
                                  refine bj_iinc (v := (nI (i + 1))) (L' := [some (.ref (ad 80)), some (.int (nI a)), some (.int (nI b)), some (.int s), some (.int w), some (.int (nI n)), some (.int (nI 0)), some (.int (nI (i + 1))), some (.int (nI ((nb w i) - 1))), some (.int (nI ((nb w (i + 1)) - 1)))]) d_Mo_isWay_222 rfl (bj_inc1 _) (by decide) rfl ?_
                                  refine bj_goto (tgt := 138) d_Mo_isWay_225 (by decide) ?_
                                  exact ih_l3 (8 - (i + 1)) (by omega) (i + 1) false _ _ rfl (by omega) ⟨fun e => (by cases e), fun q => absurd (q.2 i (by omega)) hst⟩
                                · refine bj_aload_n d_Mo_isWay_198 rfl rfl ?_
                                  refine bj_get d_Mo_isWay_199 in_Mo rfl (by decide : 10 < 17) wf_Mo_28 rfl hm0.1 rfl ?_
                                  refine bj_bipush (v := (nI 8)) d_Mo_isWay_202 (by decide) ?_
                                  refine bj_iload d_Mo_isWay_204 rfl ?_
                                  refine bj_imul (v := (nI (8 * ((nb w i) - 1)))) d_Mo_isWay_206 (pk_mul _ _) ?_
                                  refine bj_iload d_Mo_isWay_207 rfl ?_
                                  refine bj_iadd (v := (nI ((8 * ((nb w i) - 1)) + ((nb w (i + 1)) - 1)))) d_Mo_isWay_209 (nI_add _ _) ?_
                                  refine bv_iald (v := (nI (drn (pz N p) (nb w i - 1) (nb w (i + 1) - 1)))) d_Mo_isWay_210 0 rfl hcn.2 (by omega) (by first | omega | exact Nat.lt_trans (nb_lt w _) (by decide) | exact hz31 _ _ | exact Nat.lt_of_le_of_lt (Nat.sub_le _ _) (Nat.lt_trans (nb_lt w _) (by decide))) (by show nI _ = nI _; rw [show (8 * (nb w i - 1) + (nb w (i + 1) - 1)) / 8 = nb w i - 1 by omega, show (8 * (nb w i - 1) + (nb w (i + 1) - 1)) % 8 = nb w (i + 1) - 1 by omega]) ?_
                                  refine bj_iload_n d_Mo_isWay_211 rfl rfl ?_
                                  refine bj_icmp_lt (tgt := 219) d_Mo_isWay_212 (by decide) (fun h212 => ?_) (fun h212 => ?_)
                                  · have hst : ¬ wst p N s w i := fun q => q.2 h212
                                    refine bj_iconst (v := (nI 0)) d_Mo_isWay_219 (by decide) ?_
                                    refine bj_istore (L' := [some (.ref (ad 80)), some (.int (nI a)), some (.int (nI b)), some (.int s), some (.int w), some (.int (nI n)), some (.int (nI 0)), some (.int (nI i)), some (.int (nI ((nb w i) - 1))), some (.int (nI ((nb w (i + 1)) - 1)))]) d_Mo_isWay_220 (by decide) rfl ?_
                                    refine bj_iinc (v := (nI (i + 1))) (L' := [some (.ref (ad 80)), some (.int (nI a)), some (.int (nI b)), some (.int s), some (.int w), some (.int (nI n)), some (.int (nI 0)), some (.int (nI (i + 1))), some (.int (nI ((nb w i) - 1))), some (.int (nI ((nb w (i + 1)) - 1)))]) d_Mo_isWay_222 rfl (bj_inc1 _) (by decide) rfl ?_
                                    refine bj_goto (tgt := 138) d_Mo_isWay_225 (by decide) ?_
                                    exact ih_l3 (8 - (i + 1)) (by omega) (i + 1) false _ _ rfl (by omega) ⟨fun e => (by cases e), fun q => absurd (q.2 i (by omega)) hst⟩
                                  · have hst : wst p N s w i := ⟨h195, h212⟩
                                    refine bj_iconst (v := (nI 1)) d_Mo_isWay_215 (by decide) ?_
                                    refine bj_goto (tgt := 220) d_Mo_isWay_216 (by decide) ?_
                                    refine bj_istore (L' := [some (.ref (ad 80)), some (.int (nI a)), some (.int (nI b)), some (.int s), some (.int w), some (.int (nI n)), some (.int (nI 1)), some (.int (nI i)), some (.int (nI ((nb w i) - 1))), some (.int (nI ((nb w (i + 1)) - 1)))]) d_Mo_isWay_220 (by decide) rfl ?_
                                    refine bj_iinc (v := (nI (i + 1))) (L' := [some (.ref (ad 80)), some (.int (nI a)), some (.int (nI b)), some (.int s), some (.int w), some (.int (nI n)), some (.int (nI 1)), some (.int (nI (i + 1))), some (.int (nI ((nb w i) - 1))), some (.int (nI ((nb w (i + 1)) - 1)))]) d_Mo_isWay_222 rfl (bj_inc1 _) (by decide) rfl ?_
                                    refine bj_goto (tgt := 138) d_Mo_isWay_225 (by decide) ?_
                                    exact ih_l3 (8 - (i + 1)) (by omega) (i + 1) true _ _ rfl (by omega) ⟨fun _ => ⟨(hg.mp (bt_nn h149)).1, fun j hj => by
                                      rcases Nat.lt_or_ge j i with q | q
                                      · exact (hg.mp (bt_nn h149)).2 j q
                                      · rw [show j = i by omega]; exact hst⟩, fun _ => rfl⟩
                        exact l3 0 g _ _ (by omega) ⟨fun q => ⟨⟨(hg.mp q).1, fun j hj => (hg.mp q).2 j (by omega)⟩, fun j hj => absurd hj (Nat.not_lt_zero _)⟩, fun q => hg.mpr ⟨q.1.1, fun j hj => q.1.2 j (by omega)⟩⟩
                      · refine bj_iload d_Mo_isWay_100 rfl ?_
                        refine bj_if_eq (tgt := 126) d_Mo_isWay_102 (by decide) (fun h102 => ?_) (fun h102 => ?_)
                        · refine bj_iconst (v := (nI 0)) d_Mo_isWay_126 (by decide) ?_
                          refine bj_istore (L' := [some (.ref (ad 80)), some (.int (nI a)), some (.int (nI b)), some (.int s), some (.int w), some (.int (nI n)), some (.int (nI 0)), some (.int (nI i)), none, none]) d_Mo_isWay_127 (by decide) rfl ?_
                          refine bj_iinc (v := (nI (i + 1))) (L' := [some (.ref (ad 80)), some (.int (nI a)), some (.int (nI b)), some (.int s), some (.int w), some (.int (nI n)), some (.int (nI 0)), some (.int (nI (i + 1))), none, none]) d_Mo_isWay_129 rfl (bj_inc1 _) (by decide) rfl ?_
                          refine bj_goto (tgt := 93) d_Mo_isWay_132 (by decide) ?_
                          exact ih_l2 (8 - (i + 1)) (by omega) (i + 1) false rfl (by omega) ⟨fun e => (by cases e), fun q => by first | (have := q.2 i (by omega); omega) | (have := hg.mpr ⟨q.1, fun j hj => q.2 j (by omega)⟩; rw [this] at h102; exact absurd h102 (by decide))⟩
                        · refine bj_iload d_Mo_isWay_105 rfl ?_
                          refine bj_iconst (v := (nI 4)) d_Mo_isWay_107 (by decide) ?_
                          refine bj_iload d_Mo_isWay_108 rfl ?_
                          refine bj_imul (v := (nI (4 * i))) d_Mo_isWay_110 (pk_mul _ _) ?_
                          refine bj_iushr (v := (w.toUInt32 >>> ((nI (4 * i)).toUInt32 &&& Int32.toUInt32 31)).toInt32) d_Mo_isWay_111 rfl ?_
                          refine bj_bipush (v := (nI 15)) d_Mo_isWay_112 (by decide) ?_
                          refine bj_iand (v := (nI (nb w i))) d_Mo_isWay_114 (nb_get w (by omega)) ?_
                          refine bj_aload_n d_Mo_isWay_115 rfl rfl ?_
                          refine bj_get d_Mo_isWay_116 in_Mo rfl (by decide : 0 < 17) wf_Mo_47 rfl hm0.1 rfl ?_
                          refine bj_icmp_gtN (tgt := 126) d_Mo_isWay_119 (by decide) (by first | omega | exact Nat.lt_trans (nb_lt w _) (by decide) | exact hz31 _ _ | exact Nat.lt_of_le_of_lt (Nat.sub_le _ _) (Nat.lt_trans (nb_lt w _) (by decide))) (by first | omega | exact Nat.lt_trans (nb_lt w _) (by decide) | exact hz31 _ _ | exact Nat.lt_of_le_of_lt (Nat.sub_le _ _) (Nat.lt_trans (nb_lt w _) (by decide))) (fun h119 => ?_) (fun h119 => ?_)
                          · refine bj_iconst (v := (nI 0)) d_Mo_isWay_126 (by decide) ?_
                            refine bj_istore (L' := [some (.ref (ad 80)), some (.int (nI a)), some (.int (nI b)), some (.int s), some (.int w), some (.int (nI n)), some (.int (nI 0)), some (.int (nI i)), none, none]) d_Mo_isWay_127 (by decide) rfl ?_
                            refine bj_iinc (v := (nI (i + 1))) (L' := [some (.ref (ad 80)), some (.int (nI a)), some (.int (nI b)), some (.int s), some (.int w), some (.int (nI n)), some (.int (nI 0)), some (.int (nI (i + 1))), none, none]) d_Mo_isWay_129 rfl (bj_inc1 _) (by decide) rfl ?_
                            refine bj_goto (tgt := 93) d_Mo_isWay_132 (by decide) ?_
                            exact ih_l2 (8 - (i + 1)) (by omega) (i + 1) false rfl (by omega) ⟨fun e => (by cases e), fun q => by first | (have := q.2 i (by omega); omega) | (have := hg.mpr ⟨q.1, fun j hj => q.2 j (by omega)⟩; rw [this] at h102; exact absurd h102 (by decide))⟩
                          · refine bj_iconst (v := (nI 1)) d_Mo_isWay_122 (by decide) ?_
                            refine bj_goto (tgt := 127) d_Mo_isWay_123 (by decide) ?_
                            refine bj_istore (L' := [some (.ref (ad 80)), some (.int (nI a)), some (.int (nI b)), some (.int s), some (.int w), some (.int (nI n)), some (.int (nI 1)), some (.int (nI i)), none, none]) d_Mo_isWay_127 (by decide) rfl ?_
                            refine bj_iinc (v := (nI (i + 1))) (L' := [some (.ref (ad 80)), some (.int (nI a)), some (.int (nI b)), some (.int s), some (.int w), some (.int (nI n)), some (.int (nI 1)), some (.int (nI (i + 1))), none, none]) d_Mo_isWay_129 rfl (bj_inc1 _) (by decide) rfl ?_
                            refine bj_goto (tgt := 93) d_Mo_isWay_132 (by decide) ?_
                            exact ih_l2 (8 - (i + 1)) (by omega) (i + 1) true rfl (by omega) ⟨fun _ => ⟨(hg.mp (bt_nn h102)).1, fun j hj => by
                              rcases Nat.lt_or_ge j i with q | q
                              · exact (hg.mp (bt_nn h102)).2 j q
                              · rw [show j = i by omega]; exact h119⟩, fun _ => rfl⟩
                  exact l2 0 false (Nat.zero_le _) ⟨fun e => (by cases e), fun q => by first | exact absurd q.1.1 h62 | exact absurd q.1.2 h80⟩
                · refine bj_iconst (v := (nI 1)) d_Mo_isWay_83 (by decide) ?_
                  refine bj_goto (tgt := 88) d_Mo_isWay_84 (by decide) ?_
                  refine bj_istore (L' := [some (.ref (ad 80)), some (.int (nI a)), some (.int (nI b)), some (.int s), some (.int w), some (.int (nI n)), some (.int (nI 1)), none, none, none]) d_Mo_isWay_88 (by decide) rfl ?_
                  refine bj_iconst (v := (nI 0)) d_Mo_isWay_90 (by decide) ?_
                  refine bj_istore (L' := [some (.ref (ad 80)), some (.int (nI a)), some (.int (nI b)), some (.int s), some (.int w), some (.int (nI n)), some (.int (nI 1)), some (.int (nI 0)), none, none]) d_Mo_isWay_91 (by decide) rfl ?_
                  have l2 : ∀ (i : Nat), ∀ (g : Bool), (i ≤ n) → (g = true ↔ ((nb w 0 - 1 = a ∧ nb w (n - 1) - 1 = b) ∧ ∀ j, j < i → nb w j ≤ N)) → bj_S (bw_G l D c) Y_Mo_isWay 0 (0, 0, 0, 0) ad (q_b M (wy (fun a b => nI (p a b)) N a b s w)) 0 0 93 [some (.ref (ad 80)), some (.int (nI a)), some (.int (nI b)), some (.int s), some (.int w), some (.int (nI n)), some (.int (bt_n g)), some (.int (nI i)), none, none] [] M := by
                    intro i g
                    induction hd_l2 : 8 - i using Nat.strongRecOn generalizing i g with
                    | ind d_l2 ih_l2 =>
                      intro hi hg
                      refine bj_iload d_Mo_isWay_93 rfl ?_
                      refine bj_iload d_Mo_isWay_95 rfl ?_
                      refine bj_icmp_geN (tgt := 135) d_Mo_isWay_97 (by decide) (by first | omega | exact Nat.lt_trans (nb_lt w _) (by decide) | exact hz31 _ _ | exact Nat.lt_of_le_of_lt (Nat.sub_le _ _) (Nat.lt_trans (nb_lt w _) (by decide))) (by first | omega | exact Nat.lt_trans (nb_lt w _) (by decide) | exact hz31 _ _ | exact Nat.lt_of_le_of_lt (Nat.sub_le _ _) (Nat.lt_trans (nb_lt w _) (by decide))) (fun h97 => ?_) (fun h97 => ?_)
                      · refine bj_iconst (v := (nI 0)) d_Mo_isWay_135 (by decide) ?_
                        refine bj_istore (L' := [some (.ref (ad 80)), some (.int (nI a)), some (.int (nI b)), some (.int s), some (.int w), some (.int (nI n)), some (.int (bt_n g)), some (.int (nI 0)), none, none]) d_Mo_isWay_136 (by decide) rfl ?_
                        have l3 : ∀ (i : Nat), ∀ (g : Bool), ∀ (z8 : Option Value), ∀ (z9 : Option Value), (i + 1 ≤ n) → (g = true ↔ (wba N a b n w ∧ ∀ j, j < i → wst p N s w j)) → bj_S (bw_G l D c) Y_Mo_isWay 0 (0, 0, 0, 0) ad (q_b M (wy (fun a b => nI (p a b)) N a b s w)) 0 0 138 [some (.ref (ad 80)), some (.int (nI a)), some (.int (nI b)), some (.int s), some (.int w), some (.int (nI n)), some (.int (bt_n g)), some (.int (nI i)), z8, z9] [] M := by
                          intro i g z8 z9
                          induction hd_l3 : 8 - i using Nat.strongRecOn generalizing i g z8 z9 with
                          | ind d_l3 ih_l3 =>
                            intro hi hg
                            refine bj_iload d_Mo_isWay_138 rfl ?_
                            refine bj_iconst (v := (nI 1)) d_Mo_isWay_140 (by decide) ?_
                            refine bj_iadd (v := (nI (i + 1))) d_Mo_isWay_141 (nI_add _ _) ?_
                            refine bj_iload d_Mo_isWay_142 rfl ?_
                            refine bj_icmp_geN (tgt := 228) d_Mo_isWay_144 (by decide) (by first | omega | exact Nat.lt_trans (nb_lt w _) (by decide) | exact hz31 _ _ | exact Nat.lt_of_le_of_lt (Nat.sub_le _ _) (Nat.lt_trans (nb_lt w _) (by decide))) (by first | omega | exact Nat.lt_trans (nb_lt w _) (by decide) | exact hz31 _ _ | exact Nat.lt_of_le_of_lt (Nat.sub_le _ _) (Nat.lt_trans (nb_lt w _) (by decide))) (fun h144 => ?_) (fun h144 => ?_)
                            · refine bj_iload d_Mo_isWay_228 rfl ?_
                              exact bj_iret d_Mo_isWay_230 rfl nar_bt (Nat.le_refl _) (Nat.le_refl _) ⟨g, rfl, (by first | exact hg.trans (Iff.trans ⟨fun q => ⟨q.1, fun j hj => q.2 j (by omega)⟩, fun q => ⟨q.1, fun j hj => q.2 j (by omega)⟩⟩ (wyf hab hs hn h8 hxn (by omega) hzz hp ha)) | exact ⟨fun e => (by rw [bt_n0.mp h149] at e; cases e), fun q => hg.mpr ((fun q => ⟨q.1, fun j hj => q.2 j (by omega)⟩) ((wyf hab hs hn h8 hxn (by omega) hzz hp ha).mpr q))⟩), rfl⟩
                            · refine bj_iload d_Mo_isWay_147 rfl ?_
                              refine bj_if_eq (tgt := 228) d_Mo_isWay_149 (by decide) (fun h149 => ?_) (fun h149 => ?_)
                              · refine bj_iload d_Mo_isWay_228 rfl ?_
                                exact bj_iret d_Mo_isWay_230 rfl nar_bt (Nat.le_refl _) (Nat.le_refl _) ⟨g, rfl, (by first | exact hg.trans (Iff.trans ⟨fun q => ⟨q.1, fun j hj => q.2 j (by omega)⟩, fun q => ⟨q.1, fun j hj => q.2 j (by omega)⟩⟩ (wyf hab hs hn h8 hxn (by omega) hzz hp ha)) | exact ⟨fun e => (by rw [bt_n0.mp h149] at e; cases e), fun q => hg.mpr ((fun q => ⟨q.1, fun j hj => q.2 j (by omega)⟩) ((wyf hab hs hn h8 hxn (by omega) hzz hp ha).mpr q))⟩), rfl⟩
                              · have hwb := (hg.mp (bt_nn h149)).1
                                have hk1 := hwb.2 i (by omega)
                                have hk2 := hwb.2 (i + 1) (by omega)
                                have hp1 := hn i (by omega)
                                have hp2 := hn (i + 1) (by omega)
                                refine bj_iload d_Mo_isWay_152 rfl ?_
                                refine bj_iconst (v := (nI 4)) d_Mo_isWay_154 (by decide) ?_
                                refine bj_iload d_Mo_isWay_155 rfl ?_
                                refine bj_imul (v := (nI (4 * i))) d_Mo_isWay_157 (pk_mul _ _) ?_
                                refine bj_iushr (v := (w.toUInt32 >>> ((nI (4 * i)).toUInt32 &&& Int32.toUInt32 31)).toInt32) d_Mo_isWay_158 rfl ?_
                                refine bj_bipush (v := (nI 15)) d_Mo_isWay_159 (by decide) ?_
                                refine bj_iand (v := (nI (nb w i))) d_Mo_isWay_161 (nb_get w (by omega)) ?_
                                refine bj_iconst (v := (nI 1)) d_Mo_isWay_162 (by decide) ?_
                                refine bj_isub (v := (nI ((nb w i) - 1))) d_Mo_isWay_163 (pk_sub (by omega)) ?_
                                refine bj_istore (L' := [some (.ref (ad 80)), some (.int (nI a)), some (.int (nI b)), some (.int s), some (.int w), some (.int (nI n)), some (.int (bt_n g)), some (.int (nI i)), some (.int (nI ((nb w i) - 1))), z9]) d_Mo_isWay_164 (by decide) rfl ?_
                                refine bj_iload d_Mo_isWay_166 rfl ?_
                                refine bj_iconst (v := (nI 4)) d_Mo_isWay_168 (by decide) ?_
                                refine bj_iload d_Mo_isWay_169 rfl ?_
                                refine bj_iconst (v := (nI 1)) d_Mo_isWay_171 (by decide) ?_
                                refine bj_iadd (v := (nI (i + 1))) d_Mo_isWay_172 (nI_add _ _) ?_
                                refine bj_imul (v := (nI (4 * (i + 1)))) d_Mo_isWay_173 (pk_mul _ _) ?_
                                refine bj_iushr (v := (w.toUInt32 >>> ((nI (4 * (i + 1))).toUInt32 &&& Int32.toUInt32 31)).toInt32) d_Mo_isWay_174 rfl ?_
                                refine bj_bipush (v := (nI 15)) d_Mo_isWay_175 (by decide) ?_
                                refine bj_iand (v := (nI (nb w (i + 1)))) d_Mo_isWay_177 (nb_get w (by omega)) ?_
                                refine bj_iconst (v := (nI 1)) d_Mo_isWay_178 (by decide) ?_
                                refine bj_isub (v := (nI ((nb w (i + 1)) - 1))) d_Mo_isWay_179 (pk_sub (by omega)) ?_
                                refine bj_istore (L' := [some (.ref (ad 80)), some (.int (nI a)), some (.int (nI b)), some (.int s), some (.int w), some (.int (nI n)), some (.int (bt_n g)), some (.int (nI i)), some (.int (nI ((nb w i) - 1))), some (.int (nI ((nb w (i + 1)) - 1)))]) d_Mo_isWay_180 (by decide) rfl ?_
                                refine bj_aload_n d_Mo_isWay_182 rfl rfl ?_
                                refine bj_get d_Mo_isWay_183 in_Mo rfl (by decide : 10 < 17) wf_Mo_28 rfl hm0.1 rfl ?_
                                refine bj_bipush (v := (nI 8)) d_Mo_isWay_186 (by decide) ?_
                                refine bj_iload d_Mo_isWay_188 rfl ?_
                                refine bj_imul (v := (nI (8 * ((nb w i) - 1)))) d_Mo_isWay_190 (pk_mul _ _) ?_
                                refine bj_iload d_Mo_isWay_191 rfl ?_
                                refine bj_iadd (v := (nI ((8 * ((nb w i) - 1)) + ((nb w (i + 1)) - 1)))) d_Mo_isWay_193 (nI_add _ _) ?_
                                refine bv_iald (v := (nI (drn (pz N p) (nb w i - 1) (nb w (i + 1) - 1)))) d_Mo_isWay_194 0 rfl hcn.2 (by omega) (by first | omega | exact Nat.lt_trans (nb_lt w _) (by decide) | exact hz31 _ _ | exact Nat.lt_of_le_of_lt (Nat.sub_le _ _) (Nat.lt_trans (nb_lt w _) (by decide))) (by show nI _ = nI _; rw [show (8 * (nb w i - 1) + (nb w (i + 1) - 1)) / 8 = nb w i - 1 by omega, show (8 * (nb w i - 1) + (nb w (i + 1) - 1)) % 8 = nb w (i + 1) - 1 by omega]) ?_
                                refine bj_if_leN (tgt := 219) d_Mo_isWay_195 (by decide) (by first | omega | exact Nat.lt_trans (nb_lt w _) (by decide) | exact hz31 _ _ | exact Nat.lt_of_le_of_lt (Nat.sub_le _ _) (Nat.lt_trans (nb_lt w _) (by decide))) (fun h195 => ?_) (fun h195 => ?_)
                                · have hst : ¬ wst p N s w i := fun q => by have := q.1; omega
                                  refine bj_iconst (v := (nI 0)) d_Mo_isWay_219 (by decide) ?_
                                  refine bj_istore (L' := [some (.ref (ad 80)), some (.int (nI a)), some (.int (nI b)), some (.int s), some (.int w), some (.int (nI n)), some (.int (nI 0)), some (.int (nI i)), some (.int (nI ((nb w i) - 1))), some (.int (nI ((nb w (i + 1)) - 1)))]) d_Mo_isWay_220 (by decide) rfl ?_
                                  refine bj_iinc (v := (nI (i + 1))) (L' := [some (.ref (ad 80)), some (.int (nI a)), some (.int (nI b)), some (.int s), some (.int w), some (.int (nI n)), some (.int (nI 0)), some (.int (nI (i + 1))), some (.int (nI ((nb w i) - 1))), some (.int (nI ((nb w (i + 1)) - 1)))]) d_Mo_isWay_222 rfl (bj_inc1 _) (by decide) rfl ?_
                                  refine bj_goto (tgt := 138) d_Mo_isWay_225 (by decide) ?_
                                  exact ih_l3 (8 - (i + 1)) (by omega) (i + 1) false _ _ rfl (by omega) ⟨fun e => (by cases e), fun q => absurd (q.2 i (by omega)) hst⟩
                                · refine bj_aload_n d_Mo_isWay_198 rfl rfl ?_
                                  refine bj_get d_Mo_isWay_199 in_Mo rfl (by decide : 10 < 17) wf_Mo_28 rfl hm0.1 rfl ?_
                                  refine bj_bipush (v := (nI 8)) d_Mo_isWay_202 (by decide) ?_
                                  refine bj_iload d_Mo_isWay_204 rfl ?_
                                  refine bj_imul (v := (nI (8 * ((nb w i) - 1)))) d_Mo_isWay_206 (pk_mul _ _) ?_
                                  refine bj_iload d_Mo_isWay_207 rfl ?_
                                  refine bj_iadd (v := (nI ((8 * ((nb w i) - 1)) + ((nb w (i + 1)) - 1)))) d_Mo_isWay_209 (nI_add _ _) ?_
                                  refine bv_iald (v := (nI (drn (pz N p) (nb w i - 1) (nb w (i + 1) - 1)))) d_Mo_isWay_210 0 rfl hcn.2 (by omega) (by first | omega | exact Nat.lt_trans (nb_lt w _) (by decide) | exact hz31 _ _ | exact Nat.lt_of_le_of_lt (Nat.sub_le _ _) (Nat.lt_trans (nb_lt w _) (by decide))) (by show nI _ = nI _; rw [show (8 * (nb w i - 1) + (nb w (i + 1) - 1)) / 8 = nb w i - 1 by omega, show (8 * (nb w i - 1) + (nb w (i + 1) - 1)) % 8 = nb w (i + 1) - 1 by omega]) ?_
                                  refine bj_iload_n d_Mo_isWay_211 rfl rfl ?_
                                  refine bj_icmp_lt (tgt := 219) d_Mo_isWay_212 (by decide) (fun h212 => ?_) (fun h212 => ?_)
                                  · have hst : ¬ wst p N s w i := fun q => q.2 h212
                                    refine bj_iconst (v := (nI 0)) d_Mo_isWay_219 (by decide) ?_
                                    refine bj_istore (L' := [some (.ref (ad 80)), some (.int (nI a)), some (.int (nI b)), some (.int s), some (.int w), some (.int (nI n)), some (.int (nI 0)), some (.int (nI i)), some (.int (nI ((nb w i) - 1))), some (.int (nI ((nb w (i + 1)) - 1)))]) d_Mo_isWay_220 (by decide) rfl ?_
                                    refine bj_iinc (v := (nI (i + 1))) (L' := [some (.ref (ad 80)), some (.int (nI a)), some (.int (nI b)), some (.int s), some (.int w), some (.int (nI n)), some (.int (nI 0)), some (.int (nI (i + 1))), some (.int (nI ((nb w i) - 1))), some (.int (nI ((nb w (i + 1)) - 1)))]) d_Mo_isWay_222 rfl (bj_inc1 _) (by decide) rfl ?_
                                    refine bj_goto (tgt := 138) d_Mo_isWay_225 (by decide) ?_
                                    exact ih_l3 (8 - (i + 1)) (by omega) (i + 1) false _ _ rfl (by omega) ⟨fun e => (by cases e), fun q => absurd (q.2 i (by omega)) hst⟩
                                  · have hst : wst p N s w i := ⟨h195, h212⟩
                                    refine bj_iconst (v := (nI 1)) d_Mo_isWay_215 (by decide) ?_
                                    refine bj_goto (tgt := 220) d_Mo_isWay_216 (by decide) ?_
                                    refine bj_istore (L' := [some (.ref (ad 80)), some (.int (nI a)), some (.int (nI b)), some (.int s), some (.int w), some (.int (nI n)), some (.int (nI 1)), some (.int (nI i)), some (.int (nI ((nb w i) - 1))), some (.int (nI ((nb w (i + 1)) - 1)))]) d_Mo_isWay_220 (by decide) rfl ?_
                                    refine bj_iinc (v := (nI (i + 1))) (L' := [some (.ref (ad 80)), some (.int (nI a)), some (.int (nI b)), some (.int s), some (.int w), some (.int (nI n)), some (.int (nI 1)), some (.int (nI (i + 1))), some (.int (nI ((nb w i) - 1))), some (.int (nI ((nb w (i + 1)) - 1)))]) d_Mo_isWay_222 rfl (bj_inc1 _) (by decide) rfl ?_
                                    refine bj_goto (tgt := 138) d_Mo_isWay_225 (by decide) ?_
                                    exact ih_l3 (8 - (i + 1)) (by omega) (i + 1) true _ _ rfl (by omega) ⟨fun _ => ⟨(hg.mp (bt_nn h149)).1, fun j hj => by
                                      rcases Nat.lt_or_ge j i with q | q
                                      · exact (hg.mp (bt_nn h149)).2 j q
                                      · rw [show j = i by omega]; exact hst⟩, fun _ => rfl⟩
                        exact l3 0 g _ _ (by omega) ⟨fun q => ⟨⟨(hg.mp q).1, fun j hj => (hg.mp q).2 j (by omega)⟩, fun j hj => absurd hj (Nat.not_lt_zero _)⟩, fun q => hg.mpr ⟨q.1.1, fun j hj => q.1.2 j (by omega)⟩⟩
                      · refine bj_iload d_Mo_isWay_100 rfl ?_
                        refine bj_if_eq (tgt := 126) d_Mo_isWay_102 (by decide) (fun h102 => ?_) (fun h102 => ?_)
                        · refine bj_iconst (v := (nI 0)) d_Mo_isWay_126 (by decide) ?_
                          refine bj_istore (L' := [some (.ref (ad 80)), some (.int (nI a)), some (.int (nI b)), some (.int s), some (.int w), some (.int (nI n)), some (.int (nI 0)), some (.int (nI i)), none, none]) d_Mo_isWay_127 (by decide) rfl ?_
                          refine bj_iinc (v := (nI (i + 1))) (L' := [some (.ref (ad 80)), some (.int (nI a)), some (.int (nI b)), some (.int s), some (.int w), some (.int (nI n)), some (.int (nI 0)), some (.int (nI (i + 1))), none, none]) d_Mo_isWay_129 rfl (bj_inc1 _) (by decide) rfl ?_
                          refine bj_goto (tgt := 93) d_Mo_isWay_132 (by decide) ?_
                          exact ih_l2 (8 - (i + 1)) (by omega) (i + 1) false rfl (by omega) ⟨fun e => (by cases e), fun q => by first | (have := q.2 i (by omega); omega) | (have := hg.mpr ⟨q.1, fun j hj => q.2 j (by omega)⟩; rw [this] at h102; exact absurd h102 (by decide))⟩
                        · refine bj_iload d_Mo_isWay_105 rfl ?_
                          refine bj_iconst (v := (nI 4)) d_Mo_isWay_107 (by decide) ?_
                          refine bj_iload d_Mo_isWay_108 rfl ?_
                          refine bj_imul (v := (nI (4 * i))) d_Mo_isWay_110 (pk_mul _ _) ?_
                          refine bj_iushr (v := (w.toUInt32 >>> ((nI (4 * i)).toUInt32 &&& Int32.toUInt32 31)).toInt32) d_Mo_isWay_111 rfl ?_
                          refine bj_bipush (v := (nI 15)) d_Mo_isWay_112 (by decide) ?_
                          refine bj_iand (v := (nI (nb w i))) d_Mo_isWay_114 (nb_get w (by omega)) ?_
                          refine bj_aload_n d_Mo_isWay_115 rfl rfl ?_
                          refine bj_get d_Mo_isWay_116 in_Mo rfl (by decide : 0 < 17) wf_Mo_47 rfl hm0.1 rfl ?_
                          refine bj_icmp_gtN (tgt := 126) d_Mo_isWay_119 (by decide) (by first | omega | exact Nat.lt_trans (nb_lt w _) (by decide) | exact hz31 _ _ | exact Nat.lt_of_le_of_lt (Nat.sub_le _ _) (Nat.lt_trans (nb_lt w _) (by decide))) (by first | omega | exact Nat.lt_trans (nb_lt w _) (by decide) | exact hz31 _ _ | exact Nat.lt_of_le_of_lt (Nat.sub_le _ _) (Nat.lt_trans (nb_lt w _) (by decide))) (fun h119 => ?_) (fun h119 => ?_)
                          · refine bj_iconst (v := (nI 0)) d_Mo_isWay_126 (by decide) ?_
                            refine bj_istore (L' := [some (.ref (ad 80)), some (.int (nI a)), some (.int (nI b)), some (.int s), some (.int w), some (.int (nI n)), some (.int (nI 0)), some (.int (nI i)), none, none]) d_Mo_isWay_127 (by decide) rfl ?_
                            refine bj_iinc (v := (nI (i + 1))) (L' := [some (.ref (ad 80)), some (.int (nI a)), some (.int (nI b)), some (.int s), some (.int w), some (.int (nI n)), some (.int (nI 0)), some (.int (nI (i + 1))), none, none]) d_Mo_isWay_129 rfl (bj_inc1 _) (by decide) rfl ?_
                            refine bj_goto (tgt := 93) d_Mo_isWay_132 (by decide) ?_
                            exact ih_l2 (8 - (i + 1)) (by omega) (i + 1) false rfl (by omega) ⟨fun e => (by cases e), fun q => by first | (have := q.2 i (by omega); omega) | (have := hg.mpr ⟨q.1, fun j hj => q.2 j (by omega)⟩; rw [this] at h102; exact absurd h102 (by decide))⟩
                          · refine bj_iconst (v := (nI 1)) d_Mo_isWay_122 (by decide) ?_
                            refine bj_goto (tgt := 127) d_Mo_isWay_123 (by decide) ?_
                            refine bj_istore (L' := [some (.ref (ad 80)), some (.int (nI a)), some (.int (nI b)), some (.int s), some (.int w), some (.int (nI n)), some (.int (nI 1)), some (.int (nI i)), none, none]) d_Mo_isWay_127 (by decide) rfl ?_
                            refine bj_iinc (v := (nI (i + 1))) (L' := [some (.ref (ad 80)), some (.int (nI a)), some (.int (nI b)), some (.int s), some (.int w), some (.int (nI n)), some (.int (nI 1)), some (.int (nI (i + 1))), none, none]) d_Mo_isWay_129 rfl (bj_inc1 _) (by decide) rfl ?_
                            refine bj_goto (tgt := 93) d_Mo_isWay_132 (by decide) ?_
                            exact ih_l2 (8 - (i + 1)) (by omega) (i + 1) true rfl (by omega) ⟨fun _ => ⟨(hg.mp (bt_nn h102)).1, fun j hj => by
                              rcases Nat.lt_or_ge j i with q | q
                              · exact (hg.mp (bt_nn h102)).2 j q
                              · rw [show j = i by omega]; exact h119⟩, fun _ => rfl⟩
                  exact l2 0 true (Nat.zero_le _) ⟨fun _ => ⟨⟨h62, h80⟩, fun j hj => absurd hj (Nat.not_lt_zero _)⟩, fun _ => rfl⟩
            · refine bj_iconst (v := (nI 0)) d_Mo_isWay_52 (by decide) ?_
              exact bj_iret d_Mo_isWay_53 rfl rfl (Nat.le_refl _) (Nat.le_refl _) (qb_f (fun q => by obtain ⟨q1, q2, -⟩ := (wyn hab hn h8 hxn).mp q; first | omega | exact h49 ((ush_zero w (by omega)).mpr q2)))
      · refine bj_iload d_Mo_isWay_10 rfl ?_
        refine bj_iconst (v := (nI 4)) d_Mo_isWay_12 (by decide) ?_
        refine bj_iload d_Mo_isWay_13 rfl ?_
        refine bj_imul (v := (nI (4 * n))) d_Mo_isWay_15 (pk_mul _ _) ?_
        refine bj_iushr (v := (w.toUInt32 >>> ((nI (4 * n)).toUInt32 &&& Int32.toUInt32 31)).toInt32) d_Mo_isWay_16 rfl ?_
        refine bj_bipush (v := (nI 15)) d_Mo_isWay_17 (by decide) ?_
        refine bj_iand (v := (nI (nb w n))) d_Mo_isWay_19 (nb_get w (by omega)) ?_
        refine bj_if_leN (tgt := 29) d_Mo_isWay_20 (by decide) (by first | omega | exact Nat.lt_trans (nb_lt w _) (by decide) | exact hz31 _ _ | exact Nat.lt_of_le_of_lt (Nat.sub_le _ _) (Nat.lt_trans (nb_lt w _) (by decide))) (fun h20 => ?_) (fun h20 => ?_)
        · have hxn : n = 8 ∨ nb w n = 0 := by first | exact Or.inl (by omega) | exact Or.inr (by omega)
          refine bj_iload d_Mo_isWay_29 rfl ?_
          refine bj_iconst (v := (nI 2)) d_Mo_isWay_31 (by decide) ?_
          refine bj_icmp_ltN (tgt := 52) d_Mo_isWay_32 (by decide) (by first | omega | exact Nat.lt_trans (nb_lt w _) (by decide) | exact hz31 _ _ | exact Nat.lt_of_le_of_lt (Nat.sub_le _ _) (Nat.lt_trans (nb_lt w _) (by decide))) (by first | omega | exact Nat.lt_trans (nb_lt w _) (by decide) | exact hz31 _ _ | exact Nat.lt_of_le_of_lt (Nat.sub_le _ _) (Nat.lt_trans (nb_lt w _) (by decide))) (fun h32 => ?_) (fun h32 => ?_)
          · refine bj_iconst (v := (nI 0)) d_Mo_isWay_52 (by decide) ?_
            exact bj_iret d_Mo_isWay_53 rfl rfl (Nat.le_refl _) (Nat.le_refl _) (qb_f (fun q => by obtain ⟨q1, q2, -⟩ := (wyn hab hn h8 hxn).mp q; first | omega | exact h49 ((ush_zero w (by omega)).mpr q2)))
          · refine bj_iload d_Mo_isWay_35 rfl ?_
            refine bj_bipush (v := (nI 8)) d_Mo_isWay_37 (by decide) ?_
            refine bj_icmp_geN (tgt := 54) d_Mo_isWay_39 (by decide) (by first | omega | exact Nat.lt_trans (nb_lt w _) (by decide) | exact hz31 _ _ | exact Nat.lt_of_le_of_lt (Nat.sub_le _ _) (Nat.lt_trans (nb_lt w _) (by decide))) (by first | omega | exact Nat.lt_trans (nb_lt w _) (by decide) | exact hz31 _ _ | exact Nat.lt_of_le_of_lt (Nat.sub_le _ _) (Nat.lt_trans (nb_lt w _) (by decide))) (fun h39 => ?_) (fun h39 => ?_)
            · have hzz : ∀ j, n ≤ j → j < 8 → nb w j = 0 := by first | (intro j h1 h2; omega) | exact (ush_zero w (by omega)).mp h49
              have hq0 := hn 0 (by omega)
              have hq1 := hn (n - 1) (by omega)
              refine bj_iload d_Mo_isWay_54 rfl ?_
              refine bj_bipush (v := (nI 15)) d_Mo_isWay_56 (by decide) ?_
              refine bj_iand (v := (nI (nb w 0))) d_Mo_isWay_58 (nb0 w) ?_
              refine bj_iconst (v := (nI 1)) d_Mo_isWay_59 (by decide) ?_
              refine bj_isub (v := (nI ((nb w 0) - 1))) d_Mo_isWay_60 (pk_sub (by omega)) ?_
              refine bj_iload_n d_Mo_isWay_61 rfl rfl ?_
              refine bj_icmp_neN (tgt := 87) d_Mo_isWay_62 (by decide) (by first | omega | exact Nat.lt_trans (nb_lt w _) (by decide) | exact hz31 _ _ | exact Nat.lt_of_le_of_lt (Nat.sub_le _ _) (Nat.lt_trans (nb_lt w _) (by decide))) (by first | omega | exact Nat.lt_trans (nb_lt w _) (by decide) | exact hz31 _ _ | exact Nat.lt_of_le_of_lt (Nat.sub_le _ _) (Nat.lt_trans (nb_lt w _) (by decide))) (fun h62 => ?_) (fun h62 => ?_)
              · refine bj_iconst (v := (nI 0)) d_Mo_isWay_87 (by decide) ?_
                refine bj_istore (L' := [some (.ref (ad 80)), some (.int (nI a)), some (.int (nI b)), some (.int s), some (.int w), some (.int (nI n)), some (.int (nI 0)), none, none, none]) d_Mo_isWay_88 (by decide) rfl ?_
                refine bj_iconst (v := (nI 0)) d_Mo_isWay_90 (by decide) ?_
                refine bj_istore (L' := [some (.ref (ad 80)), some (.int (nI a)), some (.int (nI b)), some (.int s), some (.int w), some (.int (nI n)), some (.int (nI 0)), some (.int (nI 0)), none, none]) d_Mo_isWay_91 (by decide) rfl ?_
                have l2 : ∀ (i : Nat), ∀ (g : Bool), (i ≤ n) → (g = true ↔ ((nb w 0 - 1 = a ∧ nb w (n - 1) - 1 = b) ∧ ∀ j, j < i → nb w j ≤ N)) → bj_S (bw_G l D c) Y_Mo_isWay 0 (0, 0, 0, 0) ad (q_b M (wy (fun a b => nI (p a b)) N a b s w)) 0 0 93 [some (.ref (ad 80)), some (.int (nI a)), some (.int (nI b)), some (.int s), some (.int w), some (.int (nI n)), some (.int (bt_n g)), some (.int (nI i)), none, none] [] M := by
                  intro i g
                  induction hd_l2 : 8 - i using Nat.strongRecOn generalizing i g with
                  | ind d_l2 ih_l2 =>
                    intro hi hg
                    refine bj_iload d_Mo_isWay_93 rfl ?_
                    refine bj_iload d_Mo_isWay_95 rfl ?_
                    refine bj_icmp_geN (tgt := 135) d_Mo_isWay_97 (by decide) (by first | omega | exact Nat.lt_trans (nb_lt w _) (by decide) | exact hz31 _ _ | exact Nat.lt_of_le_of_lt (Nat.sub_le _ _) (Nat.lt_trans (nb_lt w _) (by decide))) (by first | omega | exact Nat.lt_trans (nb_lt w _) (by decide) | exact hz31 _ _ | exact Nat.lt_of_le_of_lt (Nat.sub_le _ _) (Nat.lt_trans (nb_lt w _) (by decide))) (fun h97 => ?_) (fun h97 => ?_)
                    · refine bj_iconst (v := (nI 0)) d_Mo_isWay_135 (by decide) ?_
                      refine bj_istore (L' := [some (.ref (ad 80)), some (.int (nI a)), some (.int (nI b)), some (.int s), some (.int w), some (.int (nI n)), some (.int (bt_n g)), some (.int (nI 0)), none, none]) d_Mo_isWay_136 (by decide) rfl ?_
                      have l3 : ∀ (i : Nat), ∀ (g : Bool), ∀ (z8 : Option Value), ∀ (z9 : Option Value), (i + 1 ≤ n) → (g = true ↔ (wba N a b n w ∧ ∀ j, j < i → wst p N s w j)) → bj_S (bw_G l D c) Y_Mo_isWay 0 (0, 0, 0, 0) ad (q_b M (wy (fun a b => nI (p a b)) N a b s w)) 0 0 138 [some (.ref (ad 80)), some (.int (nI a)), some (.int (nI b)), some (.int s), some (.int w), some (.int (nI n)), some (.int (bt_n g)), some (.int (nI i)), z8, z9] [] M := by
                        intro i g z8 z9
                        induction hd_l3 : 8 - i using Nat.strongRecOn generalizing i g z8 z9 with
                        | ind d_l3 ih_l3 =>
                          intro hi hg
                          refine bj_iload d_Mo_isWay_138 rfl ?_
                          refine bj_iconst (v := (nI 1)) d_Mo_isWay_140 (by decide) ?_
                          refine bj_iadd (v := (nI (i + 1))) d_Mo_isWay_141 (nI_add _ _) ?_
                          refine bj_iload d_Mo_isWay_142 rfl ?_
                          refine bj_icmp_geN (tgt := 228) d_Mo_isWay_144 (by decide) (by first | omega | exact Nat.lt_trans (nb_lt w _) (by decide) | exact hz31 _ _ | exact Nat.lt_of_le_of_lt (Nat.sub_le _ _) (Nat.lt_trans (nb_lt w _) (by decide))) (by first | omega | exact Nat.lt_trans (nb_lt w _) (by decide) | exact hz31 _ _ | exact Nat.lt_of_le_of_lt (Nat.sub_le _ _) (Nat.lt_trans (nb_lt w _) (by decide))) (fun h144 => ?_) (fun h144 => ?_)
                          · refine bj_iload d_Mo_isWay_228 rfl ?_
                            exact bj_iret d_Mo_isWay_230 rfl nar_bt (Nat.le_refl _) (Nat.le_refl _) ⟨g, rfl, (by first | exact hg.trans (Iff.trans ⟨fun q => ⟨q.1, fun j hj => q.2 j (by omega)⟩, fun q => ⟨q.1, fun j hj => q.2 j (by omega)⟩⟩ (wyf hab hs hn h8 hxn (by omega) hzz hp ha)) | exact ⟨fun e => (by rw [bt_n0.mp h149] at e; cases e), fun q => hg.mpr ((fun q => ⟨q.1, fun j hj => q.2 j (by omega)⟩) ((wyf hab hs hn h8 hxn (by omega) hzz hp ha).mpr q))⟩), rfl⟩
                          · refine bj_iload d_Mo_isWay_147 rfl ?_
                            refine bj_if_eq (tgt := 228) d_Mo_isWay_149 (by decide) (fun h149 => ?_) (fun h149 => ?_)
                            · refine bj_iload d_Mo_isWay_228 rfl ?_
                              exact bj_iret d_Mo_isWay_230 rfl nar_bt (Nat.le_refl _) (Nat.le_refl _) ⟨g, rfl, (by first | exact hg.trans (Iff.trans ⟨fun q => ⟨q.1, fun j hj => q.2 j (by omega)⟩, fun q => ⟨q.1, fun j hj => q.2 j (by omega)⟩⟩ (wyf hab hs hn h8 hxn (by omega) hzz hp ha)) | exact ⟨fun e => (by rw [bt_n0.mp h149] at e; cases e), fun q => hg.mpr ((fun q => ⟨q.1, fun j hj => q.2 j (by omega)⟩) ((wyf hab hs hn h8 hxn (by omega) hzz hp ha).mpr q))⟩), rfl⟩
                            · have hwb := (hg.mp (bt_nn h149)).1
                              have hk1 := hwb.2 i (by omega)
                              have hk2 := hwb.2 (i + 1) (by omega)
                              have hp1 := hn i (by omega)
                              have hp2 := hn (i + 1) (by omega)
                              refine bj_iload d_Mo_isWay_152 rfl ?_
                              refine bj_iconst (v := (nI 4)) d_Mo_isWay_154 (by decide) ?_
                              refine bj_iload d_Mo_isWay_155 rfl ?_
                              refine bj_imul (v := (nI (4 * i))) d_Mo_isWay_157 (pk_mul _ _) ?_
                              refine bj_iushr (v := (w.toUInt32 >>> ((nI (4 * i)).toUInt32 &&& Int32.toUInt32 31)).toInt32) d_Mo_isWay_158 rfl ?_
                              refine bj_bipush (v := (nI 15)) d_Mo_isWay_159 (by decide) ?_
                              refine bj_iand (v := (nI (nb w i))) d_Mo_isWay_161 (nb_get w (by omega)) ?_
                              refine bj_iconst (v := (nI 1)) d_Mo_isWay_162 (by decide) ?_
                              refine bj_isub (v := (nI ((nb w i) - 1))) d_Mo_isWay_163 (pk_sub (by omega)) ?_
                              refine bj_istore (L' := [some (.ref (ad 80)), some (.int (nI a)), some (.int (nI b)), some (.int s), some (.int w), some (.int (nI n)), some (.int (bt_n g)), some (.int (nI i)), some (.int (nI ((nb w i) - 1))), z9]) d_Mo_isWay_164 (by decide) rfl ?_
                              refine bj_iload d_Mo_isWay_166 rfl ?_
                              refine bj_iconst (v := (nI 4)) d_Mo_isWay_168 (by decide) ?_
                              refine bj_iload d_Mo_isWay_169 rfl ?_
                              refine bj_iconst (v := (nI 1)) d_Mo_isWay_171 (by decide) ?_
                              refine bj_iadd (v := (nI (i + 1))) d_Mo_isWay_172 (nI_add _ _) ?_
                              refine bj_imul (v := (nI (4 * (i + 1)))) d_Mo_isWay_173 (pk_mul _ _) ?_
                              refine bj_iushr (v := (w.toUInt32 >>> ((nI (4 * (i + 1))).toUInt32 &&& Int32.toUInt32 31)).toInt32) d_Mo_isWay_174 rfl ?_
                              refine bj_bipush (v := (nI 15)) d_Mo_isWay_175 (by decide) ?_
                              refine bj_iand (v := (nI (nb w (i + 1)))) d_Mo_isWay_177 (nb_get w (by omega)) ?_
                              refine bj_iconst (v := (nI 1)) d_Mo_isWay_178 (by decide) ?_
                              refine bj_isub (v := (nI ((nb w (i + 1)) - 1))) d_Mo_isWay_179 (pk_sub (by omega)) ?_
                              refine bj_istore (L' := [some (.ref (ad 80)), some (.int (nI a)), some (.int (nI b)), some (.int s), some (.int w), some (.int (nI n)), some (.int (bt_n g)), some (.int (nI i)), some (.int (nI ((nb w i) - 1))), some (.int (nI ((nb w (i + 1)) - 1)))]) d_Mo_isWay_180 (by decide) rfl ?_
                              refine bj_aload_n d_Mo_isWay_182 rfl rfl ?_
                              refine bj_get d_Mo_isWay_183 in_Mo rfl (by decide : 10 < 17) wf_Mo_28 rfl hm0.1 rfl ?_
                              refine bj_bipush (v := (nI 8)) d_Mo_isWay_186 (by decide) ?_
                              refine bj_iload d_Mo_isWay_188 rfl ?_
                              refine bj_imul (v := (nI (8 * ((nb w i) - 1)))) d_Mo_isWay_190 (pk_mul _ _) ?_
                              refine bj_iload d_Mo_isWay_191 rfl ?_
                              refine bj_iadd (v := (nI ((8 * ((nb w i) - 1)) + ((nb w (i + 1)) - 1)))) d_Mo_isWay_193 (nI_add _ _) ?_
                              refine bv_iald (v := (nI (drn (pz N p) (nb w i - 1) (nb w (i + 1) - 1)))) d_Mo_isWay_194 0 rfl hcn.2 (by omega) (by first | omega | exact Nat.lt_trans (nb_lt w _) (by decide) | exact hz31 _ _ | exact Nat.lt_of_le_of_lt (Nat.sub_le _ _) (Nat.lt_trans (nb_lt w _) (by decide))) (by show nI _ = nI _; rw [show (8 * (nb w i - 1) + (nb w (i + 1) - 1)) / 8 = nb w i - 1 by omega, show (8 * (nb w i - 1) + (nb w (i + 1) - 1)) % 8 = nb w (i + 1) - 1 by omega]) ?_
                              refine bj_if_leN (tgt := 219) d_Mo_isWay_195 (by decide) (by first | omega | exact Nat.lt_trans (nb_lt w _) (by decide) | exact hz31 _ _ | exact Nat.lt_of_le_of_lt (Nat.sub_le _ _) (Nat.lt_trans (nb_lt w _) (by decide))) (fun h195 => ?_) (fun h195 => ?_)
                              · have hst : ¬ wst p N s w i := fun q => by have := q.1; omega
                                refine bj_iconst (v := (nI 0)) d_Mo_isWay_219 (by decide) ?_
                                refine bj_istore (L' := [some (.ref (ad 80)), some (.int (nI a)), some (.int (nI b)), some (.int s), some (.int w), some (.int (nI n)), some (.int (nI 0)), some (.int (nI i)), some (.int (nI ((nb w i) - 1))), some (.int (nI ((nb w (i + 1)) - 1)))]) d_Mo_isWay_220 (by decide) rfl ?_
                                refine bj_iinc (v := (nI (i + 1))) (L' := [some (.ref (ad 80)), some (.int (nI a)), some (.int (nI b)), some (.int s), some (.int w), some (.int (nI n)), some (.int (nI 0)), some (.int (nI (i + 1))), some (.int (nI ((nb w i) - 1))), some (.int (nI ((nb w (i + 1)) - 1)))]) d_Mo_isWay_222 rfl (bj_inc1 _) (by decide) rfl ?_
                                refine bj_goto (tgt := 138) d_Mo_isWay_225 (by decide) ?_
                                exact ih_l3 (8 - (i + 1)) (by omega) (i + 1) false _ _ rfl (by omega) ⟨fun e => (by cases e), fun q => absurd (q.2 i (by omega)) hst⟩
                              · refine bj_aload_n d_Mo_isWay_198 rfl rfl ?_
                                refine bj_get d_Mo_isWay_199 in_Mo rfl (by decide : 10 < 17) wf_Mo_28 rfl hm0.1 rfl ?_
                                refine bj_bipush (v := (nI 8)) d_Mo_isWay_202 (by decide) ?_
                                refine bj_iload d_Mo_isWay_204 rfl ?_
                                refine bj_imul (v := (nI (8 * ((nb w i) - 1)))) d_Mo_isWay_206 (pk_mul _ _) ?_
                                refine bj_iload d_Mo_isWay_207 rfl ?_
                                refine bj_iadd (v := (nI ((8 * ((nb w i) - 1)) + ((nb w (i + 1)) - 1)))) d_Mo_isWay_209 (nI_add _ _) ?_
                                refine bv_iald (v := (nI (drn (pz N p) (nb w i - 1) (nb w (i + 1) - 1)))) d_Mo_isWay_210 0 rfl hcn.2 (by omega) (by first | omega | exact Nat.lt_trans (nb_lt w _) (by decide) | exact hz31 _ _ | exact Nat.lt_of_le_of_lt (Nat.sub_le _ _) (Nat.lt_trans (nb_lt w _) (by decide))) (by show nI _ = nI _; rw [show (8 * (nb w i - 1) + (nb w (i + 1) - 1)) / 8 = nb w i - 1 by omega, show (8 * (nb w i - 1) + (nb w (i + 1) - 1)) % 8 = nb w (i + 1) - 1 by omega]) ?_
                                refine bj_iload_n d_Mo_isWay_211 rfl rfl ?_
                                refine bj_icmp_lt (tgt := 219) d_Mo_isWay_212 (by decide) (fun h212 => ?_) (fun h212 => ?_)
                                · have hst : ¬ wst p N s w i := fun q => q.2 h212
                                  refine bj_iconst (v := (nI 0)) d_Mo_isWay_219 (by decide) ?_
                                  refine bj_istore (L' := [some (.ref (ad 80)), some (.int (nI a)), some (.int (nI b)), some (.int s), some (.int w), some (.int (nI n)), some (.int (nI 0)), some (.int (nI i)), some (.int (nI ((nb w i) - 1))), some (.int (nI ((nb w (i + 1)) - 1)))]) d_Mo_isWay_220 (by decide) rfl ?_
                                  refine bj_iinc (v := (nI (i + 1))) (L' := [some (.ref (ad 80)), some (.int (nI a)), some (.int (nI b)), some (.int s), some (.int w), some (.int (nI n)), some (.int (nI 0)), some (.int (nI (i + 1))), some (.int (nI ((nb w i) - 1))), some (.int (nI ((nb w (i + 1)) - 1)))]) d_Mo_isWay_222 rfl (bj_inc1 _) (by decide) rfl ?_
                                  refine bj_goto (tgt := 138) d_Mo_isWay_225 (by decide) ?_
                                  exact ih_l3 (8 - (i + 1)) (by omega) (i + 1) false _ _ rfl (by omega) ⟨fun e => (by cases e), fun q => absurd (q.2 i (by omega)) hst⟩
                                · have hst : wst p N s w i := ⟨h195, h212⟩
                                  refine bj_iconst (v := (nI 1)) d_Mo_isWay_215 (by decide) ?_
                                  refine bj_goto (tgt := 220) d_Mo_isWay_216 (by decide) ?_
                                  refine bj_istore (L' := [some (.ref (ad 80)), some (.int (nI a)), some (.int (nI b)), some (.int s), some (.int w), some (.int (nI n)), some (.int (nI 1)), some (.int (nI i)), some (.int (nI ((nb w i) - 1))), some (.int (nI ((nb w (i + 1)) - 1)))]) d_Mo_isWay_220 (by decide) rfl ?_
                                  refine bj_iinc (v := (nI (i + 1))) (L' := [some (.ref (ad 80)), some (.int (nI a)), some (.int (nI b)), some (.int s), some (.int w), some (.int (nI n)), some (.int (nI 1)), some (.int (nI (i + 1))), some (.int (nI ((nb w i) - 1))), some (.int (nI ((nb w (i + 1)) - 1)))]) d_Mo_isWay_222 rfl (bj_inc1 _) (by decide) rfl ?_
                                  refine bj_goto (tgt := 138) d_Mo_isWay_225 (by decide) ?_
                                  exact ih_l3 (8 - (i + 1)) (by omega) (i + 1) true _ _ rfl (by omega) ⟨fun _ => ⟨(hg.mp (bt_nn h149)).1, fun j hj => by
                                    rcases Nat.lt_or_ge j i with q | q
                                    · exact (hg.mp (bt_nn h149)).2 j q
                                    · rw [show j = i by omega]; exact hst⟩, fun _ => rfl⟩
                      exact l3 0 g _ _ (by omega) ⟨fun q => ⟨⟨(hg.mp q).1, fun j hj => (hg.mp q).2 j (by omega)⟩, fun j hj => absurd hj (Nat.not_lt_zero _)⟩, fun q => hg.mpr ⟨q.1.1, fun j hj => q.1.2 j (by omega)⟩⟩
                    · refine bj_iload d_Mo_isWay_100 rfl ?_
                      refine bj_if_eq (tgt := 126) d_Mo_isWay_102 (by decide) (fun h102 => ?_) (fun h102 => ?_)
                      · refine bj_iconst (v := (nI 0)) d_Mo_isWay_126 (by decide) ?_
                        refine bj_istore (L' := [some (.ref (ad 80)), some (.int (nI a)), some (.int (nI b)), some (.int s), some (.int w), some (.int (nI n)), some (.int (nI 0)), some (.int (nI i)), none, none]) d_Mo_isWay_127 (by decide) rfl ?_
                        refine bj_iinc (v := (nI (i + 1))) (L' := [some (.ref (ad 80)), some (.int (nI a)), some (.int (nI b)), some (.int s), some (.int w), some (.int (nI n)), some (.int (nI 0)), some (.int (nI (i + 1))), none, none]) d_Mo_isWay_129 rfl (bj_inc1 _) (by decide) rfl ?_
                        refine bj_goto (tgt := 93) d_Mo_isWay_132 (by decide) ?_
                        exact ih_l2 (8 - (i + 1)) (by omega) (i + 1) false rfl (by omega) ⟨fun e => (by cases e), fun q => by first | (have := q.2 i (by omega); omega) | (have := hg.mpr ⟨q.1, fun j hj => q.2 j (by omega)⟩; rw [this] at h102; exact absurd h102 (by decide))⟩
                      · refine bj_iload d_Mo_isWay_105 rfl ?_
                        refine bj_iconst (v := (nI 4)) d_Mo_isWay_107 (by decide) ?_
                        refine bj_iload d_Mo_isWay_108 rfl ?_
                        refine bj_imul (v := (nI (4 * i))) d_Mo_isWay_110 (pk_mul _ _) ?_
                        refine bj_iushr (v := (w.toUInt32 >>> ((nI (4 * i)).toUInt32 &&& Int32.toUInt32 31)).toInt32) d_Mo_isWay_111 rfl ?_
                        refine bj_bipush (v := (nI 15)) d_Mo_isWay_112 (by decide) ?_
                        refine bj_iand (v := (nI (nb w i))) d_Mo_isWay_114 (nb_get w (by omega)) ?_
                        refine bj_aload_n d_Mo_isWay_115 rfl rfl ?_
                        refine bj_get d_Mo_isWay_116 in_Mo rfl (by decide : 0 < 17) wf_Mo_47 rfl hm0.1 rfl ?_
                        refine bj_icmp_gtN (tgt := 126) d_Mo_isWay_119 (by decide) (by first | omega | exact Nat.lt_trans (nb_lt w _) (by decide) | exact hz31 _ _ | exact Nat.lt_of_le_of_lt (Nat.sub_le _ _) (Nat.lt_trans (nb_lt w _) (by decide))) (by first | omega | exact Nat.lt_trans (nb_lt w _) (by decide) | exact hz31 _ _ | exact Nat.lt_of_le_of_lt (Nat.sub_le _ _) (Nat.lt_trans (nb_lt w _) (by decide))) (fun h119 => ?_) (fun h119 => ?_)
                        · refine bj_iconst (v := (nI 0)) d_Mo_isWay_126 (by decide) ?_
                          refine bj_istore (L' := [some (.ref (ad 80)), some (.int (nI a)), some (.int (nI b)), some (.int s), some (.int w), some (.int (nI n)), some (.int (nI 0)), some (.int (nI i)), none, none]) d_Mo_isWay_127 (by decide) rfl ?_
                          refine bj_iinc (v := (nI (i + 1))) (L' := [some (.ref (ad 80)), some (.int (nI a)), some (.int (nI b)), some (.int s), some (.int w), some (.int (nI n)), some (.int (nI 0)), some (.int (nI (i + 1))), none, none]) d_Mo_isWay_129 rfl (bj_inc1 _) (by decide) rfl ?_
                          refine bj_goto (tgt := 93) d_Mo_isWay_132 (by decide) ?_
                          exact ih_l2 (8 - (i + 1)) (by omega) (i + 1) false rfl (by omega) ⟨fun e => (by cases e), fun q => by first | (have := q.2 i (by omega); omega) | (have := hg.mpr ⟨q.1, fun j hj => q.2 j (by omega)⟩; rw [this] at h102; exact absurd h102 (by decide))⟩
                        · refine bj_iconst (v := (nI 1)) d_Mo_isWay_122 (by decide) ?_
                          refine bj_goto (tgt := 127) d_Mo_isWay_123 (by decide) ?_
                          refine bj_istore (L' := [some (.ref (ad 80)), some (.int (nI a)), some (.int (nI b)), some (.int s), some (.int w), some (.int (nI n)), some (.int (nI 1)), some (.int (nI i)), none, none]) d_Mo_isWay_127 (by decide) rfl ?_
                          refine bj_iinc (v := (nI (i + 1))) (L' := [some (.ref (ad 80)), some (.int (nI a)), some (.int (nI b)), some (.int s), some (.int w), some (.int (nI n)), some (.int (nI 1)), some (.int (nI (i + 1))), none, none]) d_Mo_isWay_129 rfl (bj_inc1 _) (by decide) rfl ?_
                          refine bj_goto (tgt := 93) d_Mo_isWay_132 (by decide) ?_
                          exact ih_l2 (8 - (i + 1)) (by omega) (i + 1) true rfl (by omega) ⟨fun _ => ⟨(hg.mp (bt_nn h102)).1, fun j hj => by
                            rcases Nat.lt_or_ge j i with q | q
                            · exact (hg.mp (bt_nn h102)).2 j q
                            · rw [show j = i by omega]; exact h119⟩, fun _ => rfl⟩
                exact l2 0 false (Nat.zero_le _) ⟨fun e => (by cases e), fun q => by first | exact absurd q.1.1 h62 | exact absurd q.1.2 h80⟩
              · refine bj_iload d_Mo_isWay_65 rfl ?_
                refine bj_iconst (v := (nI 4)) d_Mo_isWay_67 (by decide) ?_
                refine bj_iload d_Mo_isWay_68 rfl ?_
                refine bj_iconst (v := (nI 1)) d_Mo_isWay_70 (by decide) ?_
                refine bj_isub (v := (nI (n - 1))) d_Mo_isWay_71 (pk_sub (by omega)) ?_
                refine bj_imul (v := (nI (4 * (n - 1)))) d_Mo_isWay_72 (pk_mul _ _) ?_
                refine bj_iushr (v := (w.toUInt32 >>> ((nI (4 * (n - 1))).toUInt32 &&& Int32.toUInt32 31)).toInt32) d_Mo_isWay_73 rfl ?_
                refine bj_bipush (v := (nI 15)) d_Mo_isWay_74 (by decide) ?_
                refine bj_iand (v := (nI (nb w (n - 1)))) d_Mo_isWay_76 (nb_get w (by omega)) ?_
                refine bj_iconst (v := (nI 1)) d_Mo_isWay_77 (by decide) ?_
                refine bj_isub (v := (nI ((nb w (n - 1)) - 1))) d_Mo_isWay_78 (pk_sub (by omega)) ?_
                refine bj_iload_n d_Mo_isWay_79 rfl rfl ?_
                refine bj_icmp_neN (tgt := 87) d_Mo_isWay_80 (by decide) (by first | omega | exact Nat.lt_trans (nb_lt w _) (by decide) | exact hz31 _ _ | exact Nat.lt_of_le_of_lt (Nat.sub_le _ _) (Nat.lt_trans (nb_lt w _) (by decide))) (by first | omega | exact Nat.lt_trans (nb_lt w _) (by decide) | exact hz31 _ _ | exact Nat.lt_of_le_of_lt (Nat.sub_le _ _) (Nat.lt_trans (nb_lt w _) (by decide))) (fun h80 => ?_) (fun h80 => ?_)
                · refine bj_iconst (v := (nI 0)) d_Mo_isWay_87 (by decide) ?_
                  refine bj_istore (L' := [some (.ref (ad 80)), some (.int (nI a)), some (.int (nI b)), some (.int s), some (.int w), some (.int (nI n)), some (.int (nI 0)), none, none, none]) d_Mo_isWay_88 (by decide) rfl ?_
                  refine bj_iconst (v := (nI 0)) d_Mo_isWay_90 (by decide) ?_
                  refine bj_istore (L' := [some (.ref (ad 80)), some (.int (nI a)), some (.int (nI b)), some (.int s), some (.int w), some (.int (nI n)), some (.int (nI 0)), some (.int (nI 0)), none, none]) d_Mo_isWay_91 (by decide) rfl ?_
                  have l2 : ∀ (i : Nat), ∀ (g : Bool), (i ≤ n) → (g = true ↔ ((nb w 0 - 1 = a ∧ nb w (n - 1) - 1 = b) ∧ ∀ j, j < i → nb w j ≤ N)) → bj_S (bw_G l D c) Y_Mo_isWay 0 (0, 0, 0, 0) ad (q_b M (wy (fun a b => nI (p a b)) N a b s w)) 0 0 93 [some (.ref (ad 80)), some (.int (nI a)), some (.int (nI b)), some (.int s), some (.int w), some (.int (nI n)), some (.int (bt_n g)), some (.int (nI i)), none, none] [] M := by
                    intro i g
                    induction hd_l2 : 8 - i using Nat.strongRecOn generalizing i g with
                    | ind d_l2 ih_l2 =>
                      intro hi hg
                      refine bj_iload d_Mo_isWay_93 rfl ?_
                      refine bj_iload d_Mo_isWay_95 rfl ?_
                      refine bj_icmp_geN (tgt := 135) d_Mo_isWay_97 (by decide) (by first | omega | exact Nat.lt_trans (nb_lt w _) (by decide) | exact hz31 _ _ | exact Nat.lt_of_le_of_lt (Nat.sub_le _ _) (Nat.lt_trans (nb_lt w _) (by decide))) (by first | omega | exact Nat.lt_trans (nb_lt w _) (by decide) | exact hz31 _ _ | exact Nat.lt_of_le_of_lt (Nat.sub_le _ _) (Nat.lt_trans (nb_lt w _) (by decide))) (fun h97 => ?_) (fun h97 => ?_)
                      · refine bj_iconst (v := (nI 0)) d_Mo_isWay_135 (by decide) ?_
                        refine bj_istore (L' := [some (.ref (ad 80)), some (.int (nI a)), some (.int (nI b)), some (.int s), some (.int w), some (.int (nI n)), some (.int (bt_n g)), some (.int (nI 0)), none, none]) d_Mo_isWay_136 (by decide) rfl ?_
                        have l3 : ∀ (i : Nat), ∀ (g : Bool), ∀ (z8 : Option Value), ∀ (z9 : Option Value), (i + 1 ≤ n) → (g = true ↔ (wba N a b n w ∧ ∀ j, j < i → wst p N s w j)) → bj_S (bw_G l D c) Y_Mo_isWay 0 (0, 0, 0, 0) ad (q_b M (wy (fun a b => nI (p a b)) N a b s w)) 0 0 138 [some (.ref (ad 80)), some (.int (nI a)), some (.int (nI b)), some (.int s), some (.int w), some (.int (nI n)), some (.int (bt_n g)), some (.int (nI i)), z8, z9] [] M := by
                          intro i g z8 z9
                          induction hd_l3 : 8 - i using Nat.strongRecOn generalizing i g z8 z9 with
                          | ind d_l3 ih_l3 =>
                            intro hi hg
                            refine bj_iload d_Mo_isWay_138 rfl ?_
                            refine bj_iconst (v := (nI 1)) d_Mo_isWay_140 (by decide) ?_
                            refine bj_iadd (v := (nI (i + 1))) d_Mo_isWay_141 (nI_add _ _) ?_
                            refine bj_iload d_Mo_isWay_142 rfl ?_
                            refine bj_icmp_geN (tgt := 228) d_Mo_isWay_144 (by decide) (by first | omega | exact Nat.lt_trans (nb_lt w _) (by decide) | exact hz31 _ _ | exact Nat.lt_of_le_of_lt (Nat.sub_le _ _) (Nat.lt_trans (nb_lt w _) (by decide))) (by first | omega | exact Nat.lt_trans (nb_lt w _) (by decide) | exact hz31 _ _ | exact Nat.lt_of_le_of_lt (Nat.sub_le _ _) (Nat.lt_trans (nb_lt w _) (by decide))) (fun h144 => ?_) (fun h144 => ?_)
                            · refine bj_iload d_Mo_isWay_228 rfl ?_
                              exact bj_iret d_Mo_isWay_230 rfl nar_bt (Nat.le_refl _) (Nat.le_refl _) ⟨g, rfl, (by first | exact hg.trans (Iff.trans ⟨fun q => ⟨q.1, fun j hj => q.2 j (by omega)⟩, fun q => ⟨q.1, fun j hj => q.2 j (by omega)⟩⟩ (wyf hab hs hn h8 hxn (by omega) hzz hp ha)) | exact ⟨fun e => (by rw [bt_n0.mp h149] at e; cases e), fun q => hg.mpr ((fun q => ⟨q.1, fun j hj => q.2 j (by omega)⟩) ((wyf hab hs hn h8 hxn (by omega) hzz hp ha).mpr q))⟩), rfl⟩
                            · refine bj_iload d_Mo_isWay_147 rfl ?_
                              refine bj_if_eq (tgt := 228) d_Mo_isWay_149 (by decide) (fun h149 => ?_) (fun h149 => ?_)
                              · refine bj_iload d_Mo_isWay_228 rfl ?_
                                exact bj_iret d_Mo_isWay_230 rfl nar_bt (Nat.le_refl _) (Nat.le_refl _) ⟨g, rfl, (by first | exact hg.trans (Iff.trans ⟨fun q => ⟨q.1, fun j hj => q.2 j (by omega)⟩, fun q => ⟨q.1, fun j hj => q.2 j (by omega)⟩⟩ (wyf hab hs hn h8 hxn (by omega) hzz hp ha)) | exact ⟨fun e => (by rw [bt_n0.mp h149] at e; cases e), fun q => hg.mpr ((fun q => ⟨q.1, fun j hj => q.2 j (by omega)⟩) ((wyf hab hs hn h8 hxn (by omega) hzz hp ha).mpr q))⟩), rfl⟩
                              · have hwb := (hg.mp (bt_nn h149)).1
                                have hk1 := hwb.2 i (by omega)
                                have hk2 := hwb.2 (i + 1) (by omega)
                                have hp1 := hn i (by omega)
                                have hp2 := hn (i + 1) (by omega)
                                refine bj_iload d_Mo_isWay_152 rfl ?_
                                refine bj_iconst (v := (nI 4)) d_Mo_isWay_154 (by decide) ?_
                                refine bj_iload d_Mo_isWay_155 rfl ?_
                                refine bj_imul (v := (nI (4 * i))) d_Mo_isWay_157 (pk_mul _ _) ?_
                                refine bj_iushr (v := (w.toUInt32 >>> ((nI (4 * i)).toUInt32 &&& Int32.toUInt32 31)).toInt32) d_Mo_isWay_158 rfl ?_
                                refine bj_bipush (v := (nI 15)) d_Mo_isWay_159 (by decide) ?_
                                refine bj_iand (v := (nI (nb w i))) d_Mo_isWay_161 (nb_get w (by omega)) ?_
                                refine bj_iconst (v := (nI 1)) d_Mo_isWay_162 (by decide) ?_
                                refine bj_isub (v := (nI ((nb w i) - 1))) d_Mo_isWay_163 (pk_sub (by omega)) ?_
                                refine bj_istore (L' := [some (.ref (ad 80)), some (.int (nI a)), some (.int (nI b)), some (.int s), some (.int w), some (.int (nI n)), some (.int (bt_n g)), some (.int (nI i)), some (.int (nI ((nb w i) - 1))), z9]) d_Mo_isWay_164 (by decide) rfl ?_
                                refine bj_iload d_Mo_isWay_166 rfl ?_
                                refine bj_iconst (v := (nI 4)) d_Mo_isWay_168 (by decide) ?_
                                refine bj_iload d_Mo_isWay_169 rfl ?_
                                refine bj_iconst (v := (nI 1)) d_Mo_isWay_171 (by decide) ?_
                                refine bj_iadd (v := (nI (i + 1))) d_Mo_isWay_172 (nI_add _ _) ?_
                                refine bj_imul (v := (nI (4 * (i + 1)))) d_Mo_isWay_173 (pk_mul _ _) ?_
                                refine bj_iushr (v := (w.toUInt32 >>> ((nI (4 * (i + 1))).toUInt32 &&& Int32.toUInt32 31)).toInt32) d_Mo_isWay_174 rfl ?_
                                refine bj_bipush (v := (nI 15)) d_Mo_isWay_175 (by decide) ?_
                                refine bj_iand (v := (nI (nb w (i + 1)))) d_Mo_isWay_177 (nb_get w (by omega)) ?_
                                refine bj_iconst (v := (nI 1)) d_Mo_isWay_178 (by decide) ?_
                                refine bj_isub (v := (nI ((nb w (i + 1)) - 1))) d_Mo_isWay_179 (pk_sub (by omega)) ?_
                                refine bj_istore (L' := [some (.ref (ad 80)), some (.int (nI a)), some (.int (nI b)), some (.int s), some (.int w), some (.int (nI n)), some (.int (bt_n g)), some (.int (nI i)), some (.int (nI ((nb w i) - 1))), some (.int (nI ((nb w (i + 1)) - 1)))]) d_Mo_isWay_180 (by decide) rfl ?_
                                refine bj_aload_n d_Mo_isWay_182 rfl rfl ?_
                                refine bj_get d_Mo_isWay_183 in_Mo rfl (by decide : 10 < 17) wf_Mo_28 rfl hm0.1 rfl ?_
                                refine bj_bipush (v := (nI 8)) d_Mo_isWay_186 (by decide) ?_
                                refine bj_iload d_Mo_isWay_188 rfl ?_
                                refine bj_imul (v := (nI (8 * ((nb w i) - 1)))) d_Mo_isWay_190 (pk_mul _ _) ?_
                                refine bj_iload d_Mo_isWay_191 rfl ?_
                                refine bj_iadd (v := (nI ((8 * ((nb w i) - 1)) + ((nb w (i + 1)) - 1)))) d_Mo_isWay_193 (nI_add _ _) ?_
                                refine bv_iald (v := (nI (drn (pz N p) (nb w i - 1) (nb w (i + 1) - 1)))) d_Mo_isWay_194 0 rfl hcn.2 (by omega) (by first | omega | exact Nat.lt_trans (nb_lt w _) (by decide) | exact hz31 _ _ | exact Nat.lt_of_le_of_lt (Nat.sub_le _ _) (Nat.lt_trans (nb_lt w _) (by decide))) (by show nI _ = nI _; rw [show (8 * (nb w i - 1) + (nb w (i + 1) - 1)) / 8 = nb w i - 1 by omega, show (8 * (nb w i - 1) + (nb w (i + 1) - 1)) % 8 = nb w (i + 1) - 1 by omega]) ?_
                                refine bj_if_leN (tgt := 219) d_Mo_isWay_195 (by decide) (by first | omega | exact Nat.lt_trans (nb_lt w _) (by decide) | exact hz31 _ _ | exact Nat.lt_of_le_of_lt (Nat.sub_le _ _) (Nat.lt_trans (nb_lt w _) (by decide))) (fun h195 => ?_) (fun h195 => ?_)
                                · have hst : ¬ wst p N s w i := fun q => by have := q.1; omega
                                  refine bj_iconst (v := (nI 0)) d_Mo_isWay_219 (by decide) ?_
                                  refine bj_istore (L' := [some (.ref (ad 80)), some (.int (nI a)), some (.int (nI b)), some (.int s), some (.int w), some (.int (nI n)), some (.int (nI 0)), some (.int (nI i)), some (.int (nI ((nb w i) - 1))), some (.int (nI ((nb w (i + 1)) - 1)))]) d_Mo_isWay_220 (by decide) rfl ?_
                                  refine bj_iinc (v := (nI (i + 1))) (L' := [some (.ref (ad 80)), some (.int (nI a)), some (.int (nI b)), some (.int s), some (.int w), some (.int (nI n)), some (.int (nI 0)), some (.int (nI (i + 1))), some (.int (nI ((nb w i) - 1))), some (.int (nI ((nb w (i + 1)) - 1)))]) d_Mo_isWay_222 rfl (bj_inc1 _) (by decide) rfl ?_
                                  refine bj_goto (tgt := 138) d_Mo_isWay_225 (by decide) ?_
                                  exact ih_l3 (8 - (i + 1)) (by omega) (i + 1) false _ _ rfl (by omega) ⟨fun e => (by cases e), fun q => absurd (q.2 i (by omega)) hst⟩
                                · refine bj_aload_n d_Mo_isWay_198 rfl rfl ?_
                                  refine bj_get d_Mo_isWay_199 in_Mo rfl (by decide : 10 < 17) wf_Mo_28 rfl hm0.1 rfl ?_
                                  refine bj_bipush (v := (nI 8)) d_Mo_isWay_202 (by decide) ?_
                                  refine bj_iload d_Mo_isWay_204 rfl ?_
                                  refine bj_imul (v := (nI (8 * ((nb w i) - 1)))) d_Mo_isWay_206 (pk_mul _ _) ?_
                                  refine bj_iload d_Mo_isWay_207 rfl ?_
                                  refine bj_iadd (v := (nI ((8 * ((nb w i) - 1)) + ((nb w (i + 1)) - 1)))) d_Mo_isWay_209 (nI_add _ _) ?_
                                  refine bv_iald (v := (nI (drn (pz N p) (nb w i - 1) (nb w (i + 1) - 1)))) d_Mo_isWay_210 0 rfl hcn.2 (by omega) (by first | omega | exact Nat.lt_trans (nb_lt w _) (by decide) | exact hz31 _ _ | exact Nat.lt_of_le_of_lt (Nat.sub_le _ _) (Nat.lt_trans (nb_lt w _) (by decide))) (by show nI _ = nI _; rw [show (8 * (nb w i - 1) + (nb w (i + 1) - 1)) / 8 = nb w i - 1 by omega, show (8 * (nb w i - 1) + (nb w (i + 1) - 1)) % 8 = nb w (i + 1) - 1 by omega]) ?_
                                  refine bj_iload_n d_Mo_isWay_211 rfl rfl ?_
                                  refine bj_icmp_lt (tgt := 219) d_Mo_isWay_212 (by decide) (fun h212 => ?_) (fun h212 => ?_)
                                  · have hst : ¬ wst p N s w i := fun q => q.2 h212
                                    refine bj_iconst (v := (nI 0)) d_Mo_isWay_219 (by decide) ?_
                                    refine bj_istore (L' := [some (.ref (ad 80)), some (.int (nI a)), some (.int (nI b)), some (.int s), some (.int w), some (.int (nI n)), some (.int (nI 0)), some (.int (nI i)), some (.int (nI ((nb w i) - 1))), some (.int (nI ((nb w (i + 1)) - 1)))]) d_Mo_isWay_220 (by decide) rfl ?_
                                    refine bj_iinc (v := (nI (i + 1))) (L' := [some (.ref (ad 80)), some (.int (nI a)), some (.int (nI b)), some (.int s), some (.int w), some (.int (nI n)), some (.int (nI 0)), some (.int (nI (i + 1))), some (.int (nI ((nb w i) - 1))), some (.int (nI ((nb w (i + 1)) - 1)))]) d_Mo_isWay_222 rfl (bj_inc1 _) (by decide) rfl ?_
                                    refine bj_goto (tgt := 138) d_Mo_isWay_225 (by decide) ?_
                                    exact ih_l3 (8 - (i + 1)) (by omega) (i + 1) false _ _ rfl (by omega) ⟨fun e => (by cases e), fun q => absurd (q.2 i (by omega)) hst⟩
                                  · have hst : wst p N s w i := ⟨h195, h212⟩
                                    refine bj_iconst (v := (nI 1)) d_Mo_isWay_215 (by decide) ?_
                                    refine bj_goto (tgt := 220) d_Mo_isWay_216 (by decide) ?_
                                    refine bj_istore (L' := [some (.ref (ad 80)), some (.int (nI a)), some (.int (nI b)), some (.int s), some (.int w), some (.int (nI n)), some (.int (nI 1)), some (.int (nI i)), some (.int (nI ((nb w i) - 1))), some (.int (nI ((nb w (i + 1)) - 1)))]) d_Mo_isWay_220 (by decide) rfl ?_
                                    refine bj_iinc (v := (nI (i + 1))) (L' := [some (.ref (ad 80)), some (.int (nI a)), some (.int (nI b)), some (.int s), some (.int w), some (.int (nI n)), some (.int (nI 1)), some (.int (nI (i + 1))), some (.int (nI ((nb w i) - 1))), some (.int (nI ((nb w (i + 1)) - 1)))]) d_Mo_isWay_222 rfl (bj_inc1 _) (by decide) rfl ?_
                                    refine bj_goto (tgt := 138) d_Mo_isWay_225 (by decide) ?_
                                    exact ih_l3 (8 - (i + 1)) (by omega) (i + 1) true _ _ rfl (by omega) ⟨fun _ => ⟨(hg.mp (bt_nn h149)).1, fun j hj => by
                                      rcases Nat.lt_or_ge j i with q | q
                                      · exact (hg.mp (bt_nn h149)).2 j q
                                      · rw [show j = i by omega]; exact hst⟩, fun _ => rfl⟩
                        exact l3 0 g _ _ (by omega) ⟨fun q => ⟨⟨(hg.mp q).1, fun j hj => (hg.mp q).2 j (by omega)⟩, fun j hj => absurd hj (Nat.not_lt_zero _)⟩, fun q => hg.mpr ⟨q.1.1, fun j hj => q.1.2 j (by omega)⟩⟩
                      · refine bj_iload d_Mo_isWay_100 rfl ?_
                        refine bj_if_eq (tgt := 126) d_Mo_isWay_102 (by decide) (fun h102 => ?_) (fun h102 => ?_)
                        · refine bj_iconst (v := (nI 0)) d_Mo_isWay_126 (by decide) ?_
                          refine bj_istore (L' := [some (.ref (ad 80)), some (.int (nI a)), some (.int (nI b)), some (.int s), some (.int w), some (.int (nI n)), some (.int (nI 0)), some (.int (nI i)), none, none]) d_Mo_isWay_127 (by decide) rfl ?_
                          refine bj_iinc (v := (nI (i + 1))) (L' := [some (.ref (ad 80)), some (.int (nI a)), some (.int (nI b)), some (.int s), some (.int w), some (.int (nI n)), some (.int (nI 0)), some (.int (nI (i + 1))), none, none]) d_Mo_isWay_129 rfl (bj_inc1 _) (by decide) rfl ?_
                          refine bj_goto (tgt := 93) d_Mo_isWay_132 (by decide) ?_
                          exact ih_l2 (8 - (i + 1)) (by omega) (i + 1) false rfl (by omega) ⟨fun e => (by cases e), fun q => by first | (have := q.2 i (by omega); omega) | (have := hg.mpr ⟨q.1, fun j hj => q.2 j (by omega)⟩; rw [this] at h102; exact absurd h102 (by decide))⟩
                        · refine bj_iload d_Mo_isWay_105 rfl ?_
                          refine bj_iconst (v := (nI 4)) d_Mo_isWay_107 (by decide) ?_
                          refine bj_iload d_Mo_isWay_108 rfl ?_
                          refine bj_imul (v := (nI (4 * i))) d_Mo_isWay_110 (pk_mul _ _) ?_
                          refine bj_iushr (v := (w.toUInt32 >>> ((nI (4 * i)).toUInt32 &&& Int32.toUInt32 31)).toInt32) d_Mo_isWay_111 rfl ?_
                          refine bj_bipush (v := (nI 15)) d_Mo_isWay_112 (by decide) ?_
                          refine bj_iand (v := (nI (nb w i))) d_Mo_isWay_114 (nb_get w (by omega)) ?_
                          refine bj_aload_n d_Mo_isWay_115 rfl rfl ?_
                          refine bj_get d_Mo_isWay_116 in_Mo rfl (by decide : 0 < 17) wf_Mo_47 rfl hm0.1 rfl ?_
                          refine bj_icmp_gtN (tgt := 126) d_Mo_isWay_119 (by decide) (by first | omega | exact Nat.lt_trans (nb_lt w _) (by decide) | exact hz31 _ _ | exact Nat.lt_of_le_of_lt (Nat.sub_le _ _) (Nat.lt_trans (nb_lt w _) (by decide))) (by first | omega | exact Nat.lt_trans (nb_lt w _) (by decide) | exact hz31 _ _ | exact Nat.lt_of_le_of_lt (Nat.sub_le _ _) (Nat.lt_trans (nb_lt w _) (by decide))) (fun h119 => ?_) (fun h119 => ?_)
                          · refine bj_iconst (v := (nI 0)) d_Mo_isWay_126 (by decide) ?_
                            refine bj_istore (L' := [some (.ref (ad 80)), some (.int (nI a)), some (.int (nI b)), some (.int s), some (.int w), some (.int (nI n)), some (.int (nI 0)), some (.int (nI i)), none, none]) d_Mo_isWay_127 (by decide) rfl ?_
                            refine bj_iinc (v := (nI (i + 1))) (L' := [some (.ref (ad 80)), some (.int (nI a)), some (.int (nI b)), some (.int s), some (.int w), some (.int (nI n)), some (.int (nI 0)), some (.int (nI (i + 1))), none, none]) d_Mo_isWay_129 rfl (bj_inc1 _) (by decide) rfl ?_
                            refine bj_goto (tgt := 93) d_Mo_isWay_132 (by decide) ?_
                            exact ih_l2 (8 - (i + 1)) (by omega) (i + 1) false rfl (by omega) ⟨fun e => (by cases e), fun q => by first | (have := q.2 i (by omega); omega) | (have := hg.mpr ⟨q.1, fun j hj => q.2 j (by omega)⟩; rw [this] at h102; exact absurd h102 (by decide))⟩
                          · refine bj_iconst (v := (nI 1)) d_Mo_isWay_122 (by decide) ?_
                            refine bj_goto (tgt := 127) d_Mo_isWay_123 (by decide) ?_
                            refine bj_istore (L' := [some (.ref (ad 80)), some (.int (nI a)), some (.int (nI b)), some (.int s), some (.int w), some (.int (nI n)), some (.int (nI 1)), some (.int (nI i)), none, none]) d_Mo_isWay_127 (by decide) rfl ?_
                            refine bj_iinc (v := (nI (i + 1))) (L' := [some (.ref (ad 80)), some (.int (nI a)), some (.int (nI b)), some (.int s), some (.int w), some (.int (nI n)), some (.int (nI 1)), some (.int (nI (i + 1))), none, none]) d_Mo_isWay_129 rfl (bj_inc1 _) (by decide) rfl ?_
                            refine bj_goto (tgt := 93) d_Mo_isWay_132 (by decide) ?_
                            exact ih_l2 (8 - (i + 1)) (by omega) (i + 1) true rfl (by omega) ⟨fun _ => ⟨(hg.mp (bt_nn h102)).1, fun j hj => by
                              rcases Nat.lt_or_ge j i with q | q
                              · exact (hg.mp (bt_nn h102)).2 j q
                              · rw [show j = i by omega]; exact h119⟩, fun _ => rfl⟩
                  exact l2 0 false (Nat.zero_le _) ⟨fun e => (by cases e), fun q => by first | exact absurd q.1.1 h62 | exact absurd q.1.2 h80⟩
                · refine bj_iconst (v := (nI 1)) d_Mo_isWay_83 (by decide) ?_
                  refine bj_goto (tgt := 88) d_Mo_isWay_84 (by decide) ?_
                  refine bj_istore (L' := [some (.ref (ad 80)), some (.int (nI a)), some (.int (nI b)), some (.int s), some (.int w), some (.int (nI n)), some (.int (nI 1)), none, none, none]) d_Mo_isWay_88 (by decide) rfl ?_
                  refine bj_iconst (v := (nI 0)) d_Mo_isWay_90 (by decide) ?_
                  refine bj_istore (L' := [some (.ref (ad 80)), some (.int (nI a)), some (.int (nI b)), some (.int s), some (.int w), some (.int (nI n)), some (.int (nI 1)), some (.int (nI 0)), none, none]) d_Mo_isWay_91 (by decide) rfl ?_
                  have l2 : ∀ (i : Nat), ∀ (g : Bool), (i ≤ n) → (g = true ↔ ((nb w 0 - 1 = a ∧ nb w (n - 1) - 1 = b) ∧ ∀ j, j < i → nb w j ≤ N)) → bj_S (bw_G l D c) Y_Mo_isWay 0 (0, 0, 0, 0) ad (q_b M (wy (fun a b => nI (p a b)) N a b s w)) 0 0 93 [some (.ref (ad 80)), some (.int (nI a)), some (.int (nI b)), some (.int s), some (.int w), some (.int (nI n)), some (.int (bt_n g)), some (.int (nI i)), none, none] [] M := by
                    intro i g
                    induction hd_l2 : 8 - i using Nat.strongRecOn generalizing i g with
                    | ind d_l2 ih_l2 =>
                      intro hi hg
                      refine bj_iload d_Mo_isWay_93 rfl ?_
                      refine bj_iload d_Mo_isWay_95 rfl ?_
                      refine bj_icmp_geN (tgt := 135) d_Mo_isWay_97 (by decide) (by first | omega | exact Nat.lt_trans (nb_lt w _) (by decide) | exact hz31 _ _ | exact Nat.lt_of_le_of_lt (Nat.sub_le _ _) (Nat.lt_trans (nb_lt w _) (by decide))) (by first | omega | exact Nat.lt_trans (nb_lt w _) (by decide) | exact hz31 _ _ | exact Nat.lt_of_le_of_lt (Nat.sub_le _ _) (Nat.lt_trans (nb_lt w _) (by decide))) (fun h97 => ?_) (fun h97 => ?_)
                      · refine bj_iconst (v := (nI 0)) d_Mo_isWay_135 (by decide) ?_
                        refine bj_istore (L' := [some (.ref (ad 80)), some (.int (nI a)), some (.int (nI b)), some (.int s), some (.int w), some (.int (nI n)), some (.int (bt_n g)), some (.int (nI 0)), none, none]) d_Mo_isWay_136 (by decide) rfl ?_
                        have l3 : ∀ (i : Nat), ∀ (g : Bool), ∀ (z8 : Option Value), ∀ (z9 : Option Value), (i + 1 ≤ n) → (g = true ↔ (wba N a b n w ∧ ∀ j, j < i → wst p N s w j)) → bj_S (bw_G l D c) Y_Mo_isWay 0 (0, 0, 0, 0) ad (q_b M (wy (fun a b => nI (p a b)) N a b s w)) 0 0 138 [some (.ref (ad 80)), some (.int (nI a)), some (.int (nI b)), some (.int s), some (.int w), some (.int (nI n)), some (.int (bt_n g)), some (.int (nI i)), z8, z9] [] M := by
                          intro i g z8 z9
                          induction hd_l3 : 8 - i using Nat.strongRecOn generalizing i g z8 z9 with
                          | ind d_l3 ih_l3 =>
                            intro hi hg
                            refine bj_iload d_Mo_isWay_138 rfl ?_
                            refine bj_iconst (v := (nI 1)) d_Mo_isWay_140 (by decide) ?_
                            refine bj_iadd (v := (nI (i + 1))) d_Mo_isWay_141 (nI_add _ _) ?_
                            refine bj_iload d_Mo_isWay_142 rfl ?_
                            refine bj_icmp_geN (tgt := 228) d_Mo_isWay_144 (by decide) (by first | omega | exact Nat.lt_trans (nb_lt w _) (by decide) | exact hz31 _ _ | exact Nat.lt_of_le_of_lt (Nat.sub_le _ _) (Nat.lt_trans (nb_lt w _) (by decide))) (by first | omega | exact Nat.lt_trans (nb_lt w _) (by decide) | exact hz31 _ _ | exact Nat.lt_of_le_of_lt (Nat.sub_le _ _) (Nat.lt_trans (nb_lt w _) (by decide))) (fun h144 => ?_) (fun h144 => ?_)
                            · refine bj_iload d_Mo_isWay_228 rfl ?_
                              exact bj_iret d_Mo_isWay_230 rfl nar_bt (Nat.le_refl _) (Nat.le_refl _) ⟨g, rfl, (by first | exact hg.trans (Iff.trans ⟨fun q => ⟨q.1, fun j hj => q.2 j (by omega)⟩, fun q => ⟨q.1, fun j hj => q.2 j (by omega)⟩⟩ (wyf hab hs hn h8 hxn (by omega) hzz hp ha)) | exact ⟨fun e => (by rw [bt_n0.mp h149] at e; cases e), fun q => hg.mpr ((fun q => ⟨q.1, fun j hj => q.2 j (by omega)⟩) ((wyf hab hs hn h8 hxn (by omega) hzz hp ha).mpr q))⟩), rfl⟩
                            · refine bj_iload d_Mo_isWay_147 rfl ?_
                              refine bj_if_eq (tgt := 228) d_Mo_isWay_149 (by decide) (fun h149 => ?_) (fun h149 => ?_)
                              · refine bj_iload d_Mo_isWay_228 rfl ?_
                                exact bj_iret d_Mo_isWay_230 rfl nar_bt (Nat.le_refl _) (Nat.le_refl _) ⟨g, rfl, (by first | exact hg.trans (Iff.trans ⟨fun q => ⟨q.1, fun j hj => q.2 j (by omega)⟩, fun q => ⟨q.1, fun j hj => q.2 j (by omega)⟩⟩ (wyf hab hs hn h8 hxn (by omega) hzz hp ha)) | exact ⟨fun e => (by rw [bt_n0.mp h149] at e; cases e), fun q => hg.mpr ((fun q => ⟨q.1, fun j hj => q.2 j (by omega)⟩) ((wyf hab hs hn h8 hxn (by omega) hzz hp ha).mpr q))⟩), rfl⟩
                              · have hwb := (hg.mp (bt_nn h149)).1
                                have hk1 := hwb.2 i (by omega)
                                have hk2 := hwb.2 (i + 1) (by omega)
                                have hp1 := hn i (by omega)
                                have hp2 := hn (i + 1) (by omega)
                                refine bj_iload d_Mo_isWay_152 rfl ?_
                                refine bj_iconst (v := (nI 4)) d_Mo_isWay_154 (by decide) ?_
                                refine bj_iload d_Mo_isWay_155 rfl ?_
                                refine bj_imul (v := (nI (4 * i))) d_Mo_isWay_157 (pk_mul _ _) ?_
                                refine bj_iushr (v := (w.toUInt32 >>> ((nI (4 * i)).toUInt32 &&& Int32.toUInt32 31)).toInt32) d_Mo_isWay_158 rfl ?_
                                refine bj_bipush (v := (nI 15)) d_Mo_isWay_159 (by decide) ?_
                                refine bj_iand (v := (nI (nb w i))) d_Mo_isWay_161 (nb_get w (by omega)) ?_
                                refine bj_iconst (v := (nI 1)) d_Mo_isWay_162 (by decide) ?_
                                refine bj_isub (v := (nI ((nb w i) - 1))) d_Mo_isWay_163 (pk_sub (by omega)) ?_
                                refine bj_istore (L' := [some (.ref (ad 80)), some (.int (nI a)), some (.int (nI b)), some (.int s), some (.int w), some (.int (nI n)), some (.int (bt_n g)), some (.int (nI i)), some (.int (nI ((nb w i) - 1))), z9]) d_Mo_isWay_164 (by decide) rfl ?_
                                refine bj_iload d_Mo_isWay_166 rfl ?_
                                refine bj_iconst (v := (nI 4)) d_Mo_isWay_168 (by decide) ?_
                                refine bj_iload d_Mo_isWay_169 rfl ?_
                                refine bj_iconst (v := (nI 1)) d_Mo_isWay_171 (by decide) ?_
                                refine bj_iadd (v := (nI (i + 1))) d_Mo_isWay_172 (nI_add _ _) ?_
                                refine bj_imul (v := (nI (4 * (i + 1)))) d_Mo_isWay_173 (pk_mul _ _) ?_
                                refine bj_iushr (v := (w.toUInt32 >>> ((nI (4 * (i + 1))).toUInt32 &&& Int32.toUInt32 31)).toInt32) d_Mo_isWay_174 rfl ?_
                                refine bj_bipush (v := (nI 15)) d_Mo_isWay_175 (by decide) ?_
                                refine bj_iand (v := (nI (nb w (i + 1)))) d_Mo_isWay_177 (nb_get w (by omega)) ?_
                                refine bj_iconst (v := (nI 1)) d_Mo_isWay_178 (by decide) ?_
                                refine bj_isub (v := (nI ((nb w (i + 1)) - 1))) d_Mo_isWay_179 (pk_sub (by omega)) ?_
                                refine bj_istore (L' := [some (.ref (ad 80)), some (.int (nI a)), some (.int (nI b)), some (.int s), some (.int w), some (.int (nI n)), some (.int (bt_n g)), some (.int (nI i)), some (.int (nI ((nb w i) - 1))), some (.int (nI ((nb w (i + 1)) - 1)))]) d_Mo_isWay_180 (by decide) rfl ?_
                                refine bj_aload_n d_Mo_isWay_182 rfl rfl ?_
                                refine bj_get d_Mo_isWay_183 in_Mo rfl (by decide : 10 < 17) wf_Mo_28 rfl hm0.1 rfl ?_
                                refine bj_bipush (v := (nI 8)) d_Mo_isWay_186 (by decide) ?_
                                refine bj_iload d_Mo_isWay_188 rfl ?_
                                refine bj_imul (v := (nI (8 * ((nb w i) - 1)))) d_Mo_isWay_190 (pk_mul _ _) ?_
                                refine bj_iload d_Mo_isWay_191 rfl ?_
                                refine bj_iadd (v := (nI ((8 * ((nb w i) - 1)) + ((nb w (i + 1)) - 1)))) d_Mo_isWay_193 (nI_add _ _) ?_
                                refine bv_iald (v := (nI (drn (pz N p) (nb w i - 1) (nb w (i + 1) - 1)))) d_Mo_isWay_194 0 rfl hcn.2 (by omega) (by first | omega | exact Nat.lt_trans (nb_lt w _) (by decide) | exact hz31 _ _ | exact Nat.lt_of_le_of_lt (Nat.sub_le _ _) (Nat.lt_trans (nb_lt w _) (by decide))) (by show nI _ = nI _; rw [show (8 * (nb w i - 1) + (nb w (i + 1) - 1)) / 8 = nb w i - 1 by omega, show (8 * (nb w i - 1) + (nb w (i + 1) - 1)) % 8 = nb w (i + 1) - 1 by omega]) ?_
                                refine bj_if_leN (tgt := 219) d_Mo_isWay_195 (by decide) (by first | omega | exact Nat.lt_trans (nb_lt w _) (by decide) | exact hz31 _ _ | exact Nat.lt_of_le_of_lt (Nat.sub_le _ _) (Nat.lt_trans (nb_lt w _) (by decide))) (fun h195 => ?_) (fun h195 => ?_)
                                · have hst : ¬ wst p N s w i := fun q => by have := q.1; omega
                                  refine bj_iconst (v := (nI 0)) d_Mo_isWay_219 (by decide) ?_
                                  refine bj_istore (L' := [some (.ref (ad 80)), some (.int (nI a)), some (.int (nI b)), some (.int s), some (.int w), some (.int (nI n)), some (.int (nI 0)), some (.int (nI i)), some (.int (nI ((nb w i) - 1))), some (.int (nI ((nb w (i + 1)) - 1)))]) d_Mo_isWay_220 (by decide) rfl ?_
                                  refine bj_iinc (v := (nI (i + 1))) (L' := [some (.ref (ad 80)), some (.int (nI a)), some (.int (nI b)), some (.int s), some (.int w), some (.int (nI n)), some (.int (nI 0)), some (.int (nI (i + 1))), some (.int (nI ((nb w i) - 1))), some (.int (nI ((nb w (i + 1)) - 1)))]) d_Mo_isWay_222 rfl (bj_inc1 _) (by decide) rfl ?_
                                  refine bj_goto (tgt := 138) d_Mo_isWay_225 (by decide) ?_
                                  exact ih_l3 (8 - (i + 1)) (by omega) (i + 1) false _ _ rfl (by omega) ⟨fun e => (by cases e), fun q => absurd (q.2 i (by omega)) hst⟩
                                · refine bj_aload_n d_Mo_isWay_198 rfl rfl ?_
                                  refine bj_get d_Mo_isWay_199 in_Mo rfl (by decide : 10 < 17) wf_Mo_28 rfl hm0.1 rfl ?_
                                  refine bj_bipush (v := (nI 8)) d_Mo_isWay_202 (by decide) ?_
                                  refine bj_iload d_Mo_isWay_204 rfl ?_
                                  refine bj_imul (v := (nI (8 * ((nb w i) - 1)))) d_Mo_isWay_206 (pk_mul _ _) ?_
                                  refine bj_iload d_Mo_isWay_207 rfl ?_
                                  refine bj_iadd (v := (nI ((8 * ((nb w i) - 1)) + ((nb w (i + 1)) - 1)))) d_Mo_isWay_209 (nI_add _ _) ?_
                                  refine bv_iald (v := (nI (drn (pz N p) (nb w i - 1) (nb w (i + 1) - 1)))) d_Mo_isWay_210 0 rfl hcn.2 (by omega) (by first | omega | exact Nat.lt_trans (nb_lt w _) (by decide) | exact hz31 _ _ | exact Nat.lt_of_le_of_lt (Nat.sub_le _ _) (Nat.lt_trans (nb_lt w _) (by decide))) (by show nI _ = nI _; rw [show (8 * (nb w i - 1) + (nb w (i + 1) - 1)) / 8 = nb w i - 1 by omega, show (8 * (nb w i - 1) + (nb w (i + 1) - 1)) % 8 = nb w (i + 1) - 1 by omega]) ?_
                                  refine bj_iload_n d_Mo_isWay_211 rfl rfl ?_
                                  refine bj_icmp_lt (tgt := 219) d_Mo_isWay_212 (by decide) (fun h212 => ?_) (fun h212 => ?_)
                                  · have hst : ¬ wst p N s w i := fun q => q.2 h212
                                    refine bj_iconst (v := (nI 0)) d_Mo_isWay_219 (by decide) ?_
                                    refine bj_istore (L' := [some (.ref (ad 80)), some (.int (nI a)), some (.int (nI b)), some (.int s), some (.int w), some (.int (nI n)), some (.int (nI 0)), some (.int (nI i)), some (.int (nI ((nb w i) - 1))), some (.int (nI ((nb w (i + 1)) - 1)))]) d_Mo_isWay_220 (by decide) rfl ?_
                                    refine bj_iinc (v := (nI (i + 1))) (L' := [some (.ref (ad 80)), some (.int (nI a)), some (.int (nI b)), some (.int s), some (.int w), some (.int (nI n)), some (.int (nI 0)), some (.int (nI (i + 1))), some (.int (nI ((nb w i) - 1))), some (.int (nI ((nb w (i + 1)) - 1)))]) d_Mo_isWay_222 rfl (bj_inc1 _) (by decide) rfl ?_
                                    refine bj_goto (tgt := 138) d_Mo_isWay_225 (by decide) ?_
                                    exact ih_l3 (8 - (i + 1)) (by omega) (i + 1) false _ _ rfl (by omega) ⟨fun e => (by cases e), fun q => absurd (q.2 i (by omega)) hst⟩
                                  · have hst : wst p N s w i := ⟨h195, h212⟩
                                    refine bj_iconst (v := (nI 1)) d_Mo_isWay_215 (by decide) ?_
                                    refine bj_goto (tgt := 220) d_Mo_isWay_216 (by decide) ?_
                                    refine bj_istore (L' := [some (.ref (ad 80)), some (.int (nI a)), some (.int (nI b)), some (.int s), some (.int w), some (.int (nI n)), some (.int (nI 1)), some (.int (nI i)), some (.int (nI ((nb w i) - 1))), some (.int (nI ((nb w (i + 1)) - 1)))]) d_Mo_isWay_220 (by decide) rfl ?_
                                    refine bj_iinc (v := (nI (i + 1))) (L' := [some (.ref (ad 80)), some (.int (nI a)), some (.int (nI b)), some (.int s), some (.int w), some (.int (nI n)), some (.int (nI 1)), some (.int (nI (i + 1))), some (.int (nI ((nb w i) - 1))), some (.int (nI ((nb w (i + 1)) - 1)))]) d_Mo_isWay_222 rfl (bj_inc1 _) (by decide) rfl ?_
                                    refine bj_goto (tgt := 138) d_Mo_isWay_225 (by decide) ?_
                                    exact ih_l3 (8 - (i + 1)) (by omega) (i + 1) true _ _ rfl (by omega) ⟨fun _ => ⟨(hg.mp (bt_nn h149)).1, fun j hj => by
                                      rcases Nat.lt_or_ge j i with q | q
                                      · exact (hg.mp (bt_nn h149)).2 j q
                                      · rw [show j = i by omega]; exact hst⟩, fun _ => rfl⟩
                        exact l3 0 g _ _ (by omega) ⟨fun q => ⟨⟨(hg.mp q).1, fun j hj => (hg.mp q).2 j (by omega)⟩, fun j hj => absurd hj (Nat.not_lt_zero _)⟩, fun q => hg.mpr ⟨q.1.1, fun j hj => q.1.2 j (by omega)⟩⟩
                      · refine bj_iload d_Mo_isWay_100 rfl ?_
                        refine bj_if_eq (tgt := 126) d_Mo_isWay_102 (by decide) (fun h102 => ?_) (fun h102 => ?_)
                        · refine bj_iconst (v := (nI 0)) d_Mo_isWay_126 (by decide) ?_
                          refine bj_istore (L' := [some (.ref (ad 80)), some (.int (nI a)), some (.int (nI b)), some (.int s), some (.int w), some (.int (nI n)), some (.int (nI 0)), some (.int (nI i)), none, none]) d_Mo_isWay_127 (by decide) rfl ?_
                          refine bj_iinc (v := (nI (i + 1))) (L' := [some (.ref (ad 80)), some (.int (nI a)), some (.int (nI b)), some (.int s), some (.int w), some (.int (nI n)), some (.int (nI 0)), some (.int (nI (i + 1))), none, none]) d_Mo_isWay_129 rfl (bj_inc1 _) (by decide) rfl ?_
                          refine bj_goto (tgt := 93) d_Mo_isWay_132 (by decide) ?_
                          exact ih_l2 (8 - (i + 1)) (by omega) (i + 1) false rfl (by omega) ⟨fun e => (by cases e), fun q => by first | (have := q.2 i (by omega); omega) | (have := hg.mpr ⟨q.1, fun j hj => q.2 j (by omega)⟩; rw [this] at h102; exact absurd h102 (by decide))⟩
                        · refine bj_iload d_Mo_isWay_105 rfl ?_
                          refine bj_iconst (v := (nI 4)) d_Mo_isWay_107 (by decide) ?_
                          refine bj_iload d_Mo_isWay_108 rfl ?_
                          refine bj_imul (v := (nI (4 * i))) d_Mo_isWay_110 (pk_mul _ _) ?_
                          refine bj_iushr (v := (w.toUInt32 >>> ((nI (4 * i)).toUInt32 &&& Int32.toUInt32 31)).toInt32) d_Mo_isWay_111 rfl ?_
                          refine bj_bipush (v := (nI 15)) d_Mo_isWay_112 (by decide) ?_
                          refine bj_iand (v := (nI (nb w i))) d_Mo_isWay_114 (nb_get w (by omega)) ?_
                          refine bj_aload_n d_Mo_isWay_115 rfl rfl ?_
                          refine bj_get d_Mo_isWay_116 in_Mo rfl (by decide : 0 < 17) wf_Mo_47 rfl hm0.1 rfl ?_
                          refine bj_icmp_gtN (tgt := 126) d_Mo_isWay_119 (by decide) (by first | omega | exact Nat.lt_trans (nb_lt w _) (by decide) | exact hz31 _ _ | exact Nat.lt_of_le_of_lt (Nat.sub_le _ _) (Nat.lt_trans (nb_lt w _) (by decide))) (by first | omega | exact Nat.lt_trans (nb_lt w _) (by decide) | exact hz31 _ _ | exact Nat.lt_of_le_of_lt (Nat.sub_le _ _) (Nat.lt_trans (nb_lt w _) (by decide))) (fun h119 => ?_) (fun h119 => ?_)
                          · refine bj_iconst (v := (nI 0)) d_Mo_isWay_126 (by decide) ?_
                            refine bj_istore (L' := [some (.ref (ad 80)), some (.int (nI a)), some (.int (nI b)), some (.int s), some (.int w), some (.int (nI n)), some (.int (nI 0)), some (.int (nI i)), none, none]) d_Mo_isWay_127 (by decide) rfl ?_
                            refine bj_iinc (v := (nI (i + 1))) (L' := [some (.ref (ad 80)), some (.int (nI a)), some (.int (nI b)), some (.int s), some (.int w), some (.int (nI n)), some (.int (nI 0)), some (.int (nI (i + 1))), none, none]) d_Mo_isWay_129 rfl (bj_inc1 _) (by decide) rfl ?_
                            refine bj_goto (tgt := 93) d_Mo_isWay_132 (by decide) ?_
                            exact ih_l2 (8 - (i + 1)) (by omega) (i + 1) false rfl (by omega) ⟨fun e => (by cases e), fun q => by first | (have := q.2 i (by omega); omega) | (have := hg.mpr ⟨q.1, fun j hj => q.2 j (by omega)⟩; rw [this] at h102; exact absurd h102 (by decide))⟩
                          · refine bj_iconst (v := (nI 1)) d_Mo_isWay_122 (by decide) ?_
                            refine bj_goto (tgt := 127) d_Mo_isWay_123 (by decide) ?_
                            refine bj_istore (L' := [some (.ref (ad 80)), some (.int (nI a)), some (.int (nI b)), some (.int s), some (.int w), some (.int (nI n)), some (.int (nI 1)), some (.int (nI i)), none, none]) d_Mo_isWay_127 (by decide) rfl ?_
                            refine bj_iinc (v := (nI (i + 1))) (L' := [some (.ref (ad 80)), some (.int (nI a)), some (.int (nI b)), some (.int s), some (.int w), some (.int (nI n)), some (.int (nI 1)), some (.int (nI (i + 1))), none, none]) d_Mo_isWay_129 rfl (bj_inc1 _) (by decide) rfl ?_
                            refine bj_goto (tgt := 93) d_Mo_isWay_132 (by decide) ?_
                            exact ih_l2 (8 - (i + 1)) (by omega) (i + 1) true rfl (by omega) ⟨fun _ => ⟨(hg.mp (bt_nn h102)).1, fun j hj => by
                              rcases Nat.lt_or_ge j i with q | q
                              · exact (hg.mp (bt_nn h102)).2 j q
                              · rw [show j = i by omega]; exact h119⟩, fun _ => rfl⟩
                  exact l2 0 true (Nat.zero_le _) ⟨fun _ => ⟨⟨h62, h80⟩, fun j hj => absurd hj (Nat.not_lt_zero _)⟩, fun _ => rfl⟩
            · refine bj_iload d_Mo_isWay_42 rfl ?_
              refine bj_iconst (v := (nI 4)) d_Mo_isWay_44 (by decide) ?_
              refine bj_iload d_Mo_isWay_45 rfl ?_
              refine bj_imul (v := (nI (4 * n))) d_Mo_isWay_47 (pk_mul _ _) ?_
              refine bj_iushr (v := (ush w (4 * n))) d_Mo_isWay_48 rfl ?_
              refine bj_if_eq (tgt := 54) d_Mo_isWay_49 (by decide) (fun h49 => ?_) (fun h49 => ?_)
              · have hzz : ∀ j, n ≤ j → j < 8 → nb w j = 0 := by first | (intro j h1 h2; omega) | exact (ush_zero w (by omega)).mp h49
                have hq0 := hn 0 (by omega)
                have hq1 := hn (n - 1) (by omega)
                refine bj_iload d_Mo_isWay_54 rfl ?_
                refine bj_bipush (v := (nI 15)) d_Mo_isWay_56 (by decide) ?_
                refine bj_iand (v := (nI (nb w 0))) d_Mo_isWay_58 (nb0 w) ?_
                refine bj_iconst (v := (nI 1)) d_Mo_isWay_59 (by decide) ?_
                refine bj_isub (v := (nI ((nb w 0) - 1))) d_Mo_isWay_60 (pk_sub (by omega)) ?_
                refine bj_iload_n d_Mo_isWay_61 rfl rfl ?_
                refine bj_icmp_neN (tgt := 87) d_Mo_isWay_62 (by decide) (by first | omega | exact Nat.lt_trans (nb_lt w _) (by decide) | exact hz31 _ _ | exact Nat.lt_of_le_of_lt (Nat.sub_le _ _) (Nat.lt_trans (nb_lt w _) (by decide))) (by first | omega | exact Nat.lt_trans (nb_lt w _) (by decide) | exact hz31 _ _ | exact Nat.lt_of_le_of_lt (Nat.sub_le _ _) (Nat.lt_trans (nb_lt w _) (by decide))) (fun h62 => ?_) (fun h62 => ?_)
                · refine bj_iconst (v := (nI 0)) d_Mo_isWay_87 (by decide) ?_
                  refine bj_istore (L' := [some (.ref (ad 80)), some (.int (nI a)), some (.int (nI b)), some (.int s), some (.int w), some (.int (nI n)), some (.int (nI 0)), none, none, none]) d_Mo_isWay_88 (by decide) rfl ?_
                  refine bj_iconst (v := (nI 0)) d_Mo_isWay_90 (by decide) ?_
                  refine bj_istore (L' := [some (.ref (ad 80)), some (.int (nI a)), some (.int (nI b)), some (.int s), some (.int w), some (.int (nI n)), some (.int (nI 0)), some (.int (nI 0)), none, none]) d_Mo_isWay_91 (by decide) rfl ?_
                  have l2 : ∀ (i : Nat), ∀ (g : Bool), (i ≤ n) → (g = true ↔ ((nb w 0 - 1 = a ∧ nb w (n - 1) - 1 = b) ∧ ∀ j, j < i → nb w j ≤ N)) → bj_S (bw_G l D c) Y_Mo_isWay 0 (0, 0, 0, 0) ad (q_b M (wy (fun a b => nI (p a b)) N a b s w)) 0 0 93 [some (.ref (ad 80)), some (.int (nI a)), some (.int (nI b)), some (.int s), some (.int w), some (.int (nI n)), some (.int (bt_n g)), some (.int (nI i)), none, none] [] M := by
                    intro i g
                    induction hd_l2 : 8 - i using Nat.strongRecOn generalizing i g with
                    | ind d_l2 ih_l2 =>
                      intro hi hg
                      refine bj_iload d_Mo_isWay_93 rfl ?_
                      refine bj_iload d_Mo_isWay_95 rfl ?_
                      refine bj_icmp_geN (tgt := 135) d_Mo_isWay_97 (by decide) (by first | omega | exact Nat.lt_trans (nb_lt w _) (by decide) | exact hz31 _ _ | exact Nat.lt_of_le_of_lt (Nat.sub_le _ _) (Nat.lt_trans (nb_lt w _) (by decide))) (by first | omega | exact Nat.lt_trans (nb_lt w _) (by decide) | exact hz31 _ _ | exact Nat.lt_of_le_of_lt (Nat.sub_le _ _) (Nat.lt_trans (nb_lt w _) (by decide))) (fun h97 => ?_) (fun h97 => ?_)
                      · refine bj_iconst (v := (nI 0)) d_Mo_isWay_135 (by decide) ?_
                        refine bj_istore (L' := [some (.ref (ad 80)), some (.int (nI a)), some (.int (nI b)), some (.int s), some (.int w), some (.int (nI n)), some (.int (bt_n g)), some (.int (nI 0)), none, none]) d_Mo_isWay_136 (by decide) rfl ?_
                        have l3 : ∀ (i : Nat), ∀ (g : Bool), ∀ (z8 : Option Value), ∀ (z9 : Option Value), (i + 1 ≤ n) → (g = true ↔ (wba N a b n w ∧ ∀ j, j < i → wst p N s w j)) → bj_S (bw_G l D c) Y_Mo_isWay 0 (0, 0, 0, 0) ad (q_b M (wy (fun a b => nI (p a b)) N a b s w)) 0 0 138 [some (.ref (ad 80)), some (.int (nI a)), some (.int (nI b)), some (.int s), some (.int w), some (.int (nI n)), some (.int (bt_n g)), some (.int (nI i)), z8, z9] [] M := by
                          intro i g z8 z9
                          induction hd_l3 : 8 - i using Nat.strongRecOn generalizing i g z8 z9 with
                          | ind d_l3 ih_l3 =>
                            intro hi hg
                            refine bj_iload d_Mo_isWay_138 rfl ?_
                            refine bj_iconst (v := (nI 1)) d_Mo_isWay_140 (by decide) ?_
                            refine bj_iadd (v := (nI (i + 1))) d_Mo_isWay_141 (nI_add _ _) ?_
                            refine bj_iload d_Mo_isWay_142 rfl ?_
                            refine bj_icmp_geN (tgt := 228) d_Mo_isWay_144 (by decide) (by first | omega | exact Nat.lt_trans (nb_lt w _) (by decide) | exact hz31 _ _ | exact Nat.lt_of_le_of_lt (Nat.sub_le _ _) (Nat.lt_trans (nb_lt w _) (by decide))) (by first | omega | exact Nat.lt_trans (nb_lt w _) (by decide) | exact hz31 _ _ | exact Nat.lt_of_le_of_lt (Nat.sub_le _ _) (Nat.lt_trans (nb_lt w _) (by decide))) (fun h144 => ?_) (fun h144 => ?_)
                            · refine bj_iload d_Mo_isWay_228 rfl ?_
                              exact bj_iret d_Mo_isWay_230 rfl nar_bt (Nat.le_refl _) (Nat.le_refl _) ⟨g, rfl, (by first | exact hg.trans (Iff.trans ⟨fun q => ⟨q.1, fun j hj => q.2 j (by omega)⟩, fun q => ⟨q.1, fun j hj => q.2 j (by omega)⟩⟩ (wyf hab hs hn h8 hxn (by omega) hzz hp ha)) | exact ⟨fun e => (by rw [bt_n0.mp h149] at e; cases e), fun q => hg.mpr ((fun q => ⟨q.1, fun j hj => q.2 j (by omega)⟩) ((wyf hab hs hn h8 hxn (by omega) hzz hp ha).mpr q))⟩), rfl⟩
                            · refine bj_iload d_Mo_isWay_147 rfl ?_
                              refine bj_if_eq (tgt := 228) d_Mo_isWay_149 (by decide) (fun h149 => ?_) (fun h149 => ?_)
                              · refine bj_iload d_Mo_isWay_228 rfl ?_
                                exact bj_iret d_Mo_isWay_230 rfl nar_bt (Nat.le_refl _) (Nat.le_refl _) ⟨g, rfl, (by first | exact hg.trans (Iff.trans ⟨fun q => ⟨q.1, fun j hj => q.2 j (by omega)⟩, fun q => ⟨q.1, fun j hj => q.2 j (by omega)⟩⟩ (wyf hab hs hn h8 hxn (by omega) hzz hp ha)) | exact ⟨fun e => (by rw [bt_n0.mp h149] at e; cases e), fun q => hg.mpr ((fun q => ⟨q.1, fun j hj => q.2 j (by omega)⟩) ((wyf hab hs hn h8 hxn (by omega) hzz hp ha).mpr q))⟩), rfl⟩
                              · have hwb := (hg.mp (bt_nn h149)).1
                                have hk1 := hwb.2 i (by omega)
                                have hk2 := hwb.2 (i + 1) (by omega)
                                have hp1 := hn i (by omega)
                                have hp2 := hn (i + 1) (by omega)
                                refine bj_iload d_Mo_isWay_152 rfl ?_
                                refine bj_iconst (v := (nI 4)) d_Mo_isWay_154 (by decide) ?_
                                refine bj_iload d_Mo_isWay_155 rfl ?_
                                refine bj_imul (v := (nI (4 * i))) d_Mo_isWay_157 (pk_mul _ _) ?_
                                refine bj_iushr (v := (w.toUInt32 >>> ((nI (4 * i)).toUInt32 &&& Int32.toUInt32 31)).toInt32) d_Mo_isWay_158 rfl ?_
                                refine bj_bipush (v := (nI 15)) d_Mo_isWay_159 (by decide) ?_
                                refine bj_iand (v := (nI (nb w i))) d_Mo_isWay_161 (nb_get w (by omega)) ?_
                                refine bj_iconst (v := (nI 1)) d_Mo_isWay_162 (by decide) ?_
                                refine bj_isub (v := (nI ((nb w i) - 1))) d_Mo_isWay_163 (pk_sub (by omega)) ?_
                                refine bj_istore (L' := [some (.ref (ad 80)), some (.int (nI a)), some (.int (nI b)), some (.int s), some (.int w), some (.int (nI n)), some (.int (bt_n g)), some (.int (nI i)), some (.int (nI ((nb w i) - 1))), z9]) d_Mo_isWay_164 (by decide) rfl ?_
                                refine bj_iload d_Mo_isWay_166 rfl ?_
                                refine bj_iconst (v := (nI 4)) d_Mo_isWay_168 (by decide) ?_
                                refine bj_iload d_Mo_isWay_169 rfl ?_
                                refine bj_iconst (v := (nI 1)) d_Mo_isWay_171 (by decide) ?_
                                refine bj_iadd (v := (nI (i + 1))) d_Mo_isWay_172 (nI_add _ _) ?_
                                refine bj_imul (v := (nI (4 * (i + 1)))) d_Mo_isWay_173 (pk_mul _ _) ?_
                                refine bj_iushr (v := (w.toUInt32 >>> ((nI (4 * (i + 1))).toUInt32 &&& Int32.toUInt32 31)).toInt32) d_Mo_isWay_174 rfl ?_
                                refine bj_bipush (v := (nI 15)) d_Mo_isWay_175 (by decide) ?_
                                refine bj_iand (v := (nI (nb w (i + 1)))) d_Mo_isWay_177 (nb_get w (by omega)) ?_
                                refine bj_iconst (v := (nI 1)) d_Mo_isWay_178 (by decide) ?_
                                refine bj_isub (v := (nI ((nb w (i + 1)) - 1))) d_Mo_isWay_179 (pk_sub (by omega)) ?_
                                refine bj_istore (L' := [some (.ref (ad 80)), some (.int (nI a)), some (.int (nI b)), some (.int s), some (.int w), some (.int (nI n)), some (.int (bt_n g)), some (.int (nI i)), some (.int (nI ((nb w i) - 1))), some (.int (nI ((nb w (i + 1)) - 1)))]) d_Mo_isWay_180 (by decide) rfl ?_
                                refine bj_aload_n d_Mo_isWay_182 rfl rfl ?_
                                refine bj_get d_Mo_isWay_183 in_Mo rfl (by decide : 10 < 17) wf_Mo_28 rfl hm0.1 rfl ?_
                                refine bj_bipush (v := (nI 8)) d_Mo_isWay_186 (by decide) ?_
                                refine bj_iload d_Mo_isWay_188 rfl ?_
                                refine bj_imul (v := (nI (8 * ((nb w i) - 1)))) d_Mo_isWay_190 (pk_mul _ _) ?_
                                refine bj_iload d_Mo_isWay_191 rfl ?_
                                refine bj_iadd (v := (nI ((8 * ((nb w i) - 1)) + ((nb w (i + 1)) - 1)))) d_Mo_isWay_193 (nI_add _ _) ?_
                                refine bv_iald (v := (nI (drn (pz N p) (nb w i - 1) (nb w (i + 1) - 1)))) d_Mo_isWay_194 0 rfl hcn.2 (by omega) (by first | omega | exact Nat.lt_trans (nb_lt w _) (by decide) | exact hz31 _ _ | exact Nat.lt_of_le_of_lt (Nat.sub_le _ _) (Nat.lt_trans (nb_lt w _) (by decide))) (by show nI _ = nI _; rw [show (8 * (nb w i - 1) + (nb w (i + 1) - 1)) / 8 = nb w i - 1 by omega, show (8 * (nb w i - 1) + (nb w (i + 1) - 1)) % 8 = nb w (i + 1) - 1 by omega]) ?_
                                refine bj_if_leN (tgt := 219) d_Mo_isWay_195 (by decide) (by first | omega | exact Nat.lt_trans (nb_lt w _) (by decide) | exact hz31 _ _ | exact Nat.lt_of_le_of_lt (Nat.sub_le _ _) (Nat.lt_trans (nb_lt w _) (by decide))) (fun h195 => ?_) (fun h195 => ?_)
                                · have hst : ¬ wst p N s w i := fun q => by have := q.1; omega
                                  refine bj_iconst (v := (nI 0)) d_Mo_isWay_219 (by decide) ?_
                                  refine bj_istore (L' := [some (.ref (ad 80)), some (.int (nI a)), some (.int (nI b)), some (.int s), some (.int w), some (.int (nI n)), some (.int (nI 0)), some (.int (nI i)), some (.int (nI ((nb w i) - 1))), some (.int (nI ((nb w (i + 1)) - 1)))]) d_Mo_isWay_220 (by decide) rfl ?_
                                  refine bj_iinc (v := (nI (i + 1))) (L' := [some (.ref (ad 80)), some (.int (nI a)), some (.int (nI b)), some (.int s), some (.int w), some (.int (nI n)), some (.int (nI 0)), some (.int (nI (i + 1))), some (.int (nI ((nb w i) - 1))), some (.int (nI ((nb w (i + 1)) - 1)))]) d_Mo_isWay_222 rfl (bj_inc1 _) (by decide) rfl ?_
                                  refine bj_goto (tgt := 138) d_Mo_isWay_225 (by decide) ?_
                                  exact ih_l3 (8 - (i + 1)) (by omega) (i + 1) false _ _ rfl (by omega) ⟨fun e => (by cases e), fun q => absurd (q.2 i (by omega)) hst⟩
                                · refine bj_aload_n d_Mo_isWay_198 rfl rfl ?_
                                  refine bj_get d_Mo_isWay_199 in_Mo rfl (by decide : 10 < 17) wf_Mo_28 rfl hm0.1 rfl ?_
                                  refine bj_bipush (v := (nI 8)) d_Mo_isWay_202 (by decide) ?_
                                  refine bj_iload d_Mo_isWay_204 rfl ?_
                                  refine bj_imul (v := (nI (8 * ((nb w i) - 1)))) d_Mo_isWay_206 (pk_mul _ _) ?_
                                  refine bj_iload d_Mo_isWay_207 rfl ?_
                                  refine bj_iadd (v := (nI ((8 * ((nb w i) - 1)) + ((nb w (i + 1)) - 1)))) d_Mo_isWay_209 (nI_add _ _) ?_
                                  refine bv_iald (v := (nI (drn (pz N p) (nb w i - 1) (nb w (i + 1) - 1)))) d_Mo_isWay_210 0 rfl hcn.2 (by omega) (by first | omega | exact Nat.lt_trans (nb_lt w _) (by decide) | exact hz31 _ _ | exact Nat.lt_of_le_of_lt (Nat.sub_le _ _) (Nat.lt_trans (nb_lt w _) (by decide))) (by show nI _ = nI _; rw [show (8 * (nb w i - 1) + (nb w (i + 1) - 1)) / 8 = nb w i - 1 by omega, show (8 * (nb w i - 1) + (nb w (i + 1) - 1)) % 8 = nb w (i + 1) - 1 by omega]) ?_
                                  refine bj_iload_n d_Mo_isWay_211 rfl rfl ?_
                                  refine bj_icmp_lt (tgt := 219) d_Mo_isWay_212 (by decide) (fun h212 => ?_) (fun h212 => ?_)
                                  · have hst : ¬ wst p N s w i := fun q => q.2 h212
                                    refine bj_iconst (v := (nI 0)) d_Mo_isWay_219 (by decide) ?_
                                    refine bj_istore (L' := [some (.ref (ad 80)), some (.int (nI a)), some (.int (nI b)), some (.int s), some (.int w), some (.int (nI n)), some (.int (nI 0)), some (.int (nI i)), some (.int (nI ((nb w i) - 1))), some (.int (nI ((nb w (i + 1)) - 1)))]) d_Mo_isWay_220 (by decide) rfl ?_
                                    refine bj_iinc (v := (nI (i + 1))) (L' := [some (.ref (ad 80)), some (.int (nI a)), some (.int (nI b)), some (.int s), some (.int w), some (.int (nI n)), some (.int (nI 0)), some (.int (nI (i + 1))), some (.int (nI ((nb w i) - 1))), some (.int (nI ((nb w (i + 1)) - 1)))]) d_Mo_isWay_222 rfl (bj_inc1 _) (by decide) rfl ?_
                                    refine bj_goto (tgt := 138) d_Mo_isWay_225 (by decide) ?_
                                    exact ih_l3 (8 - (i + 1)) (by omega) (i + 1) false _ _ rfl (by omega) ⟨fun e => (by cases e), fun q => absurd (q.2 i (by omega)) hst⟩
                                  · have hst : wst p N s w i := ⟨h195, h212⟩
                                    refine bj_iconst (v := (nI 1)) d_Mo_isWay_215 (by decide) ?_
                                    refine bj_goto (tgt := 220) d_Mo_isWay_216 (by decide) ?_
                                    refine bj_istore (L' := [some (.ref (ad 80)), some (.int (nI a)), some (.int (nI b)), some (.int s), some (.int w), some (.int (nI n)), some (.int (nI 1)), some (.int (nI i)), some (.int (nI ((nb w i) - 1))), some (.int (nI ((nb w (i + 1)) - 1)))]) d_Mo_isWay_220 (by decide) rfl ?_
                                    refine bj_iinc (v := (nI (i + 1))) (L' := [some (.ref (ad 80)), some (.int (nI a)), some (.int (nI b)), some (.int s), some (.int w), some (.int (nI n)), some (.int (nI 1)), some (.int (nI (i + 1))), some (.int (nI ((nb w i) - 1))), some (.int (nI ((nb w (i + 1)) - 1)))]) d_Mo_isWay_222 rfl (bj_inc1 _) (by decide) rfl ?_
                                    refine bj_goto (tgt := 138) d_Mo_isWay_225 (by decide) ?_
                                    exact ih_l3 (8 - (i + 1)) (by omega) (i + 1) true _ _ rfl (by omega) ⟨fun _ => ⟨(hg.mp (bt_nn h149)).1, fun j hj => by
                                      rcases Nat.lt_or_ge j i with q | q
                                      · exact (hg.mp (bt_nn h149)).2 j q
                                      · rw [show j = i by omega]; exact hst⟩, fun _ => rfl⟩
                        exact l3 0 g _ _ (by omega) ⟨fun q => ⟨⟨(hg.mp q).1, fun j hj => (hg.mp q).2 j (by omega)⟩, fun j hj => absurd hj (Nat.not_lt_zero _)⟩, fun q => hg.mpr ⟨q.1.1, fun j hj => q.1.2 j (by omega)⟩⟩
                      · refine bj_iload d_Mo_isWay_100 rfl ?_
                        refine bj_if_eq (tgt := 126) d_Mo_isWay_102 (by decide) (fun h102 => ?_) (fun h102 => ?_)
                        · refine bj_iconst (v := (nI 0)) d_Mo_isWay_126 (by decide) ?_
                          refine bj_istore (L' := [some (.ref (ad 80)), some (.int (nI a)), some (.int (nI b)), some (.int s), some (.int w), some (.int (nI n)), some (.int (nI 0)), some (.int (nI i)), none, none]) d_Mo_isWay_127 (by decide) rfl ?_
                          refine bj_iinc (v := (nI (i + 1))) (L' := [some (.ref (ad 80)), some (.int (nI a)), some (.int (nI b)), some (.int s), some (.int w), some (.int (nI n)), some (.int (nI 0)), some (.int (nI (i + 1))), none, none]) d_Mo_isWay_129 rfl (bj_inc1 _) (by decide) rfl ?_
                          refine bj_goto (tgt := 93) d_Mo_isWay_132 (by decide) ?_
                          exact ih_l2 (8 - (i + 1)) (by omega) (i + 1) false rfl (by omega) ⟨fun e => (by cases e), fun q => by first | (have := q.2 i (by omega); omega) | (have := hg.mpr ⟨q.1, fun j hj => q.2 j (by omega)⟩; rw [this] at h102; exact absurd h102 (by decide))⟩
                        · refine bj_iload d_Mo_isWay_105 rfl ?_
                          refine bj_iconst (v := (nI 4)) d_Mo_isWay_107 (by decide) ?_
                          refine bj_iload d_Mo_isWay_108 rfl ?_
                          refine bj_imul (v := (nI (4 * i))) d_Mo_isWay_110 (pk_mul _ _) ?_
                          refine bj_iushr (v := (w.toUInt32 >>> ((nI (4 * i)).toUInt32 &&& Int32.toUInt32 31)).toInt32) d_Mo_isWay_111 rfl ?_
                          refine bj_bipush (v := (nI 15)) d_Mo_isWay_112 (by decide) ?_
                          refine bj_iand (v := (nI (nb w i))) d_Mo_isWay_114 (nb_get w (by omega)) ?_
                          refine bj_aload_n d_Mo_isWay_115 rfl rfl ?_
                          refine bj_get d_Mo_isWay_116 in_Mo rfl (by decide : 0 < 17) wf_Mo_47 rfl hm0.1 rfl ?_
                          refine bj_icmp_gtN (tgt := 126) d_Mo_isWay_119 (by decide) (by first | omega | exact Nat.lt_trans (nb_lt w _) (by decide) | exact hz31 _ _ | exact Nat.lt_of_le_of_lt (Nat.sub_le _ _) (Nat.lt_trans (nb_lt w _) (by decide))) (by first | omega | exact Nat.lt_trans (nb_lt w _) (by decide) | exact hz31 _ _ | exact Nat.lt_of_le_of_lt (Nat.sub_le _ _) (Nat.lt_trans (nb_lt w _) (by decide))) (fun h119 => ?_) (fun h119 => ?_)
                          · refine bj_iconst (v := (nI 0)) d_Mo_isWay_126 (by decide) ?_
                            refine bj_istore (L' := [some (.ref (ad 80)), some (.int (nI a)), some (.int (nI b)), some (.int s), some (.int w), some (.int (nI n)), some (.int (nI 0)), some (.int (nI i)), none, none]) d_Mo_isWay_127 (by decide) rfl ?_
                            refine bj_iinc (v := (nI (i + 1))) (L' := [some (.ref (ad 80)), some (.int (nI a)), some (.int (nI b)), some (.int s), some (.int w), some (.int (nI n)), some (.int (nI 0)), some (.int (nI (i + 1))), none, none]) d_Mo_isWay_129 rfl (bj_inc1 _) (by decide) rfl ?_
                            refine bj_goto (tgt := 93) d_Mo_isWay_132 (by decide) ?_
                            exact ih_l2 (8 - (i + 1)) (by omega) (i + 1) false rfl (by omega) ⟨fun e => (by cases e), fun q => by first | (have := q.2 i (by omega); omega) | (have := hg.mpr ⟨q.1, fun j hj => q.2 j (by omega)⟩; rw [this] at h102; exact absurd h102 (by decide))⟩
                          · refine bj_iconst (v := (nI 1)) d_Mo_isWay_122 (by decide) ?_
                            refine bj_goto (tgt := 127) d_Mo_isWay_123 (by decide) ?_
                            refine bj_istore (L' := [some (.ref (ad 80)), some (.int (nI a)), some (.int (nI b)), some (.int s), some (.int w), some (.int (nI n)), some (.int (nI 1)), some (.int (nI i)), none, none]) d_Mo_isWay_127 (by decide) rfl ?_
                            refine bj_iinc (v := (nI (i + 1))) (L' := [some (.ref (ad 80)), some (.int (nI a)), some (.int (nI b)), some (.int s), some (.int w), some (.int (nI n)), some (.int (nI 1)), some (.int (nI (i + 1))), none, none]) d_Mo_isWay_129 rfl (bj_inc1 _) (by decide) rfl ?_
                            refine bj_goto (tgt := 93) d_Mo_isWay_132 (by decide) ?_
                            exact ih_l2 (8 - (i + 1)) (by omega) (i + 1) true rfl (by omega) ⟨fun _ => ⟨(hg.mp (bt_nn h102)).1, fun j hj => by
                              rcases Nat.lt_or_ge j i with q | q
                              · exact (hg.mp (bt_nn h102)).2 j q
                              · rw [show j = i by omega]; exact h119⟩, fun _ => rfl⟩
                  exact l2 0 false (Nat.zero_le _) ⟨fun e => (by cases e), fun q => by first | exact absurd q.1.1 h62 | exact absurd q.1.2 h80⟩
                · refine bj_iload d_Mo_isWay_65 rfl ?_
                  refine bj_iconst (v := (nI 4)) d_Mo_isWay_67 (by decide) ?_
                  refine bj_iload d_Mo_isWay_68 rfl ?_
                  refine bj_iconst (v := (nI 1)) d_Mo_isWay_70 (by decide) ?_
                  refine bj_isub (v := (nI (n - 1))) d_Mo_isWay_71 (pk_sub (by omega)) ?_
                  refine bj_imul (v := (nI (4 * (n - 1)))) d_Mo_isWay_72 (pk_mul _ _) ?_
                  refine bj_iushr (v := (w.toUInt32 >>> ((nI (4 * (n - 1))).toUInt32 &&& Int32.toUInt32 31)).toInt32) d_Mo_isWay_73 rfl ?_
                  refine bj_bipush (v := (nI 15)) d_Mo_isWay_74 (by decide) ?_
                  refine bj_iand (v := (nI (nb w (n - 1)))) d_Mo_isWay_76 (nb_get w (by omega)) ?_
                  refine bj_iconst (v := (nI 1)) d_Mo_isWay_77 (by decide) ?_
                  refine bj_isub (v := (nI ((nb w (n - 1)) - 1))) d_Mo_isWay_78 (pk_sub (by omega)) ?_
                  refine bj_iload_n d_Mo_isWay_79 rfl rfl ?_
                  refine bj_icmp_neN (tgt := 87) d_Mo_isWay_80 (by decide) (by first | omega | exact Nat.lt_trans (nb_lt w _) (by decide) | exact hz31 _ _ | exact Nat.lt_of_le_of_lt (Nat.sub_le _ _) (Nat.lt_trans (nb_lt w _) (by decide))) (by first | omega | exact Nat.lt_trans (nb_lt w _) (by decide) | exact hz31 _ _ | exact Nat.lt_of_le_of_lt (Nat.sub_le _ _) (Nat.lt_trans (nb_lt w _) (by decide))) (fun h80 => ?_) (fun h80 => ?_)
                  · refine bj_iconst (v := (nI 0)) d_Mo_isWay_87 (by decide) ?_
                    refine bj_istore (L' := [some (.ref (ad 80)), some (.int (nI a)), some (.int (nI b)), some (.int s), some (.int w), some (.int (nI n)), some (.int (nI 0)), none, none, none]) d_Mo_isWay_88 (by decide) rfl ?_
                    refine bj_iconst (v := (nI 0)) d_Mo_isWay_90 (by decide) ?_
                    refine bj_istore (L' := [some (.ref (ad 80)), some (.int (nI a)), some (.int (nI b)), some (.int s), some (.int w), some (.int (nI n)), some (.int (nI 0)), some (.int (nI 0)), none, none]) d_Mo_isWay_91 (by decide) rfl ?_
                    have l2 : ∀ (i : Nat), ∀ (g : Bool), (i ≤ n) → (g = true ↔ ((nb w 0 - 1 = a ∧ nb w (n - 1) - 1 = b) ∧ ∀ j, j < i → nb w j ≤ N)) → bj_S (bw_G l D c) Y_Mo_isWay 0 (0, 0, 0, 0) ad (q_b M (wy (fun a b => nI (p a b)) N a b s w)) 0 0 93 [some (.ref (ad 80)), some (.int (nI a)), some (.int (nI b)), some (.int s), some (.int w), some (.int (nI n)), some (.int (bt_n g)), some (.int (nI i)), none, none] [] M := by
                      intro i g
                      induction hd_l2 : 8 - i using Nat.strongRecOn generalizing i g with
                      | ind d_l2 ih_l2 =>
                        intro hi hg
                        refine bj_iload d_Mo_isWay_93 rfl ?_
                        refine bj_iload d_Mo_isWay_95 rfl ?_
                        refine bj_icmp_geN (tgt := 135) d_Mo_isWay_97 (by decide) (by first | omega | exact Nat.lt_trans (nb_lt w _) (by decide) | exact hz31 _ _ | exact Nat.lt_of_le_of_lt (Nat.sub_le _ _) (Nat.lt_trans (nb_lt w _) (by decide))) (by first | omega | exact Nat.lt_trans (nb_lt w _) (by decide) | exact hz31 _ _ | exact Nat.lt_of_le_of_lt (Nat.sub_le _ _) (Nat.lt_trans (nb_lt w _) (by decide))) (fun h97 => ?_) (fun h97 => ?_)
                        · refine bj_iconst (v := (nI 0)) d_Mo_isWay_135 (by decide) ?_
                          refine bj_istore (L' := [some (.ref (ad 80)), some (.int (nI a)), some (.int (nI b)), some (.int s), some (.int w), some (.int (nI n)), some (.int (bt_n g)), some (.int (nI 0)), none, none]) d_Mo_isWay_136 (by decide) rfl ?_
                          have l3 : ∀ (i : Nat), ∀ (g : Bool), ∀ (z8 : Option Value), ∀ (z9 : Option Value), (i + 1 ≤ n) → (g = true ↔ (wba N a b n w ∧ ∀ j, j < i → wst p N s w j)) → bj_S (bw_G l D c) Y_Mo_isWay 0 (0, 0, 0, 0) ad (q_b M (wy (fun a b => nI (p a b)) N a b s w)) 0 0 138 [some (.ref (ad 80)), some (.int (nI a)), some (.int (nI b)), some (.int s), some (.int w), some (.int (nI n)), some (.int (bt_n g)), some (.int (nI i)), z8, z9] [] M := by
                            intro i g z8 z9
                            induction hd_l3 : 8 - i using Nat.strongRecOn generalizing i g z8 z9 with
                            | ind d_l3 ih_l3 =>
                              intro hi hg
                              refine bj_iload d_Mo_isWay_138 rfl ?_
                              refine bj_iconst (v := (nI 1)) d_Mo_isWay_140 (by decide) ?_
                              refine bj_iadd (v := (nI (i + 1))) d_Mo_isWay_141 (nI_add _ _) ?_
                              refine bj_iload d_Mo_isWay_142 rfl ?_
                              refine bj_icmp_geN (tgt := 228) d_Mo_isWay_144 (by decide) (by first | omega | exact Nat.lt_trans (nb_lt w _) (by decide) | exact hz31 _ _ | exact Nat.lt_of_le_of_lt (Nat.sub_le _ _) (Nat.lt_trans (nb_lt w _) (by decide))) (by first | omega | exact Nat.lt_trans (nb_lt w _) (by decide) | exact hz31 _ _ | exact Nat.lt_of_le_of_lt (Nat.sub_le _ _) (Nat.lt_trans (nb_lt w _) (by decide))) (fun h144 => ?_) (fun h144 => ?_)
                              · refine bj_iload d_Mo_isWay_228 rfl ?_
                                exact bj_iret d_Mo_isWay_230 rfl nar_bt (Nat.le_refl _) (Nat.le_refl _) ⟨g, rfl, (by first | exact hg.trans (Iff.trans ⟨fun q => ⟨q.1, fun j hj => q.2 j (by omega)⟩, fun q => ⟨q.1, fun j hj => q.2 j (by omega)⟩⟩ (wyf hab hs hn h8 hxn (by omega) hzz hp ha)) | exact ⟨fun e => (by rw [bt_n0.mp h149] at e; cases e), fun q => hg.mpr ((fun q => ⟨q.1, fun j hj => q.2 j (by omega)⟩) ((wyf hab hs hn h8 hxn (by omega) hzz hp ha).mpr q))⟩), rfl⟩
                              · refine bj_iload d_Mo_isWay_147 rfl ?_
                                refine bj_if_eq (tgt := 228) d_Mo_isWay_149 (by decide) (fun h149 => ?_) (fun h149 => ?_)
                                · refine bj_iload d_Mo_isWay_228 rfl ?_
                                  exact bj_iret d_Mo_isWay_230 rfl nar_bt (Nat.le_refl _) (Nat.le_refl _) ⟨g, rfl, (by first | exact hg.trans (Iff.trans ⟨fun q => ⟨q.1, fun j hj => q.2 j (by omega)⟩, fun q => ⟨q.1, fun j hj => q.2 j (by omega)⟩⟩ (wyf hab hs hn h8 hxn (by omega) hzz hp ha)) | exact ⟨fun e => (by rw [bt_n0.mp h149] at e; cases e), fun q => hg.mpr ((fun q => ⟨q.1, fun j hj => q.2 j (by omega)⟩) ((wyf hab hs hn h8 hxn (by omega) hzz hp ha).mpr q))⟩), rfl⟩
                                · have hwb := (hg.mp (bt_nn h149)).1
                                  have hk1 := hwb.2 i (by omega)
                                  have hk2 := hwb.2 (i + 1) (by omega)
                                  have hp1 := hn i (by omega)
                                  have hp2 := hn (i + 1) (by omega)
                                  refine bj_iload d_Mo_isWay_152 rfl ?_
                                  refine bj_iconst (v := (nI 4)) d_Mo_isWay_154 (by decide) ?_
                                  refine bj_iload d_Mo_isWay_155 rfl ?_
                                  refine bj_imul (v := (nI (4 * i))) d_Mo_isWay_157 (pk_mul _ _) ?_
                                  refine bj_iushr (v := (w.toUInt32 >>> ((nI (4 * i)).toUInt32 &&& Int32.toUInt32 31)).toInt32) d_Mo_isWay_158 rfl ?_
                                  refine bj_bipush (v := (nI 15)) d_Mo_isWay_159 (by decide) ?_
                                  refine bj_iand (v := (nI (nb w i))) d_Mo_isWay_161 (nb_get w (by omega)) ?_
                                  refine bj_iconst (v := (nI 1)) d_Mo_isWay_162 (by decide) ?_
                                  refine bj_isub (v := (nI ((nb w i) - 1))) d_Mo_isWay_163 (pk_sub (by omega)) ?_
                                  refine bj_istore (L' := [some (.ref (ad 80)), some (.int (nI a)), some (.int (nI b)), some (.int s), some (.int w), some (.int (nI n)), some (.int (bt_n g)), some (.int (nI i)), some (.int (nI ((nb w i) - 1))), z9]) d_Mo_isWay_164 (by decide) rfl ?_
                                  refine bj_iload d_Mo_isWay_166 rfl ?_
                                  refine bj_iconst (v := (nI 4)) d_Mo_isWay_168 (by decide) ?_
                                  refine bj_iload d_Mo_isWay_169 rfl ?_
                                  refine bj_iconst (v := (nI 1)) d_Mo_isWay_171 (by decide) ?_
                                  refine bj_iadd (v := (nI (i + 1))) d_Mo_isWay_172 (nI_add _ _) ?_
                                  refine bj_imul (v := (nI (4 * (i + 1)))) d_Mo_isWay_173 (pk_mul _ _) ?_
                                  refine bj_iushr (v := (w.toUInt32 >>> ((nI (4 * (i + 1))).toUInt32 &&& Int32.toUInt32 31)).toInt32) d_Mo_isWay_174 rfl ?_
                                  refine bj_bipush (v := (nI 15)) d_Mo_isWay_175 (by decide) ?_
                                  refine bj_iand (v := (nI (nb w (i + 1)))) d_Mo_isWay_177 (nb_get w (by omega)) ?_
                                  refine bj_iconst (v := (nI 1)) d_Mo_isWay_178 (by decide) ?_
                                  refine bj_isub (v := (nI ((nb w (i + 1)) - 1))) d_Mo_isWay_179 (pk_sub (by omega)) ?_
                                  refine bj_istore (L' := [some (.ref (ad 80)), some (.int (nI a)), some (.int (nI b)), some (.int s), some (.int w), some (.int (nI n)), some (.int (bt_n g)), some (.int (nI i)), some (.int (nI ((nb w i) - 1))), some (.int (nI ((nb w (i + 1)) - 1)))]) d_Mo_isWay_180 (by decide) rfl ?_
                                  refine bj_aload_n d_Mo_isWay_182 rfl rfl ?_
                                  refine bj_get d_Mo_isWay_183 in_Mo rfl (by decide : 10 < 17) wf_Mo_28 rfl hm0.1 rfl ?_
                                  refine bj_bipush (v := (nI 8)) d_Mo_isWay_186 (by decide) ?_
                                  refine bj_iload d_Mo_isWay_188 rfl ?_
                                  refine bj_imul (v := (nI (8 * ((nb w i) - 1)))) d_Mo_isWay_190 (pk_mul _ _) ?_
                                  refine bj_iload d_Mo_isWay_191 rfl ?_
                                  refine bj_iadd (v := (nI ((8 * ((nb w i) - 1)) + ((nb w (i + 1)) - 1)))) d_Mo_isWay_193 (nI_add _ _) ?_
                                  refine bv_iald (v := (nI (drn (pz N p) (nb w i - 1) (nb w (i + 1) - 1)))) d_Mo_isWay_194 0 rfl hcn.2 (by omega) (by first | omega | exact Nat.lt_trans (nb_lt w _) (by decide) | exact hz31 _ _ | exact Nat.lt_of_le_of_lt (Nat.sub_le _ _) (Nat.lt_trans (nb_lt w _) (by decide))) (by show nI _ = nI _; rw [show (8 * (nb w i - 1) + (nb w (i + 1) - 1)) / 8 = nb w i - 1 by omega, show (8 * (nb w i - 1) + (nb w (i + 1) - 1)) % 8 = nb w (i + 1) - 1 by omega]) ?_
                                  refine bj_if_leN (tgt := 219) d_Mo_isWay_195 (by decide) (by first | omega | exact Nat.lt_trans (nb_lt w _) (by decide) | exact hz31 _ _ | exact Nat.lt_of_le_of_lt (Nat.sub_le _ _) (Nat.lt_trans (nb_lt w _) (by decide))) (fun h195 => ?_) (fun h195 => ?_)
                                  · have hst : ¬ wst p N s w i := fun q => by have := q.1; omega
                                    refine bj_iconst (v := (nI 0)) d_Mo_isWay_219 (by decide) ?_
                                    refine bj_istore (L' := [some (.ref (ad 80)), some (.int (nI a)), some (.int (nI b)), some (.int s), some (.int w), some (.int (nI n)), some (.int (nI 0)), some (.int (nI i)), some (.int (nI ((nb w i) - 1))), some (.int (nI ((nb w (i + 1)) - 1)))]) d_Mo_isWay_220 (by decide) rfl ?_
                                    refine bj_iinc (v := (nI (i + 1))) (L' := [some (.ref (ad 80)), some (.int (nI a)), some (.int (nI b)), some (.int s), some (.int w), some (.int (nI n)), some (.int (nI 0)), some (.int (nI (i + 1))), some (.int (nI ((nb w i) - 1))), some (.int (nI ((nb w (i + 1)) - 1)))]) d_Mo_isWay_222 rfl (bj_inc1 _) (by decide) rfl ?_
                                    refine bj_goto (tgt := 138) d_Mo_isWay_225 (by decide) ?_
                                    exact ih_l3 (8 - (i + 1)) (by omega) (i + 1) false _ _ rfl (by omega) ⟨fun e => (by cases e), fun q => absurd (q.2 i (by omega)) hst⟩
                                  · refine bj_aload_n d_Mo_isWay_198 rfl rfl ?_
                                    refine bj_get d_Mo_isWay_199 in_Mo rfl (by decide : 10 < 17) wf_Mo_28 rfl hm0.1 rfl ?_
                                    refine bj_bipush (v := (nI 8)) d_Mo_isWay_202 (by decide) ?_
                                    refine bj_iload d_Mo_isWay_204 rfl ?_
                                    refine bj_imul (v := (nI (8 * ((nb w i) - 1)))) d_Mo_isWay_206 (pk_mul _ _) ?_
                                    refine bj_iload d_Mo_isWay_207 rfl ?_
                                    refine bj_iadd (v := (nI ((8 * ((nb w i) - 1)) + ((nb w (i + 1)) - 1)))) d_Mo_isWay_209 (nI_add _ _) ?_
                                    refine bv_iald (v := (nI (drn (pz N p) (nb w i - 1) (nb w (i + 1) - 1)))) d_Mo_isWay_210 0 rfl hcn.2 (by omega) (by first | omega | exact Nat.lt_trans (nb_lt w _) (by decide) | exact hz31 _ _ | exact Nat.lt_of_le_of_lt (Nat.sub_le _ _) (Nat.lt_trans (nb_lt w _) (by decide))) (by show nI _ = nI _; rw [show (8 * (nb w i - 1) + (nb w (i + 1) - 1)) / 8 = nb w i - 1 by omega, show (8 * (nb w i - 1) + (nb w (i + 1) - 1)) % 8 = nb w (i + 1) - 1 by omega]) ?_
                                    refine bj_iload_n d_Mo_isWay_211 rfl rfl ?_
                                    refine bj_icmp_lt (tgt := 219) d_Mo_isWay_212 (by decide) (fun h212 => ?_) (fun h212 => ?_)
                                    · have hst : ¬ wst p N s w i := fun q => q.2 h212
                                      refine bj_iconst (v := (nI 0)) d_Mo_isWay_219 (by decide) ?_
                                      refine bj_istore (L' := [some (.ref (ad 80)), some (.int (nI a)), some (.int (nI b)), some (.int s), some (.int w), some (.int (nI n)), some (.int (nI 0)), some (.int (nI i)), some (.int (nI ((nb w i) - 1))), some (.int (nI ((nb w (i + 1)) - 1)))]) d_Mo_isWay_220 (by decide) rfl ?_
                                      refine bj_iinc (v := (nI (i + 1))) (L' := [some (.ref (ad 80)), some (.int (nI a)), some (.int (nI b)), some (.int s), some (.int w), some (.int (nI n)), some (.int (nI 0)), some (.int (nI (i + 1))), some (.int (nI ((nb w i) - 1))), some (.int (nI ((nb w (i + 1)) - 1)))]) d_Mo_isWay_222 rfl (bj_inc1 _) (by decide) rfl ?_
                                      refine bj_goto (tgt := 138) d_Mo_isWay_225 (by decide) ?_
                                      exact ih_l3 (8 - (i + 1)) (by omega) (i + 1) false _ _ rfl (by omega) ⟨fun e => (by cases e), fun q => absurd (q.2 i (by omega)) hst⟩
                                    · have hst : wst p N s w i := ⟨h195, h212⟩
                                      refine bj_iconst (v := (nI 1)) d_Mo_isWay_215 (by decide) ?_
                                      refine bj_goto (tgt := 220) d_Mo_isWay_216 (by decide) ?_
                                      refine bj_istore (L' := [some (.ref (ad 80)), some (.int (nI a)), some (.int (nI b)), some (.int s), some (.int w), some (.int (nI n)), some (.int (nI 1)), some (.int (nI i)), some (.int (nI ((nb w i) - 1))), some (.int (nI ((nb w (i + 1)) - 1)))]) d_Mo_isWay_220 (by decide) rfl ?_
                                      refine bj_iinc (v := (nI (i + 1))) (L' := [some (.ref (ad 80)), some (.int (nI a)), some (.int (nI b)), some (.int s), some (.int w), some (.int (nI n)), some (.int (nI 1)), some (.int (nI (i + 1))), some (.int (nI ((nb w i) - 1))), some (.int (nI ((nb w (i + 1)) - 1)))]) d_Mo_isWay_222 rfl (bj_inc1 _) (by decide) rfl ?_
                                      refine bj_goto (tgt := 138) d_Mo_isWay_225 (by decide) ?_
                                      exact ih_l3 (8 - (i + 1)) (by omega) (i + 1) true _ _ rfl (by omega) ⟨fun _ => ⟨(hg.mp (bt_nn h149)).1, fun j hj => by
                                        rcases Nat.lt_or_ge j i with q | q
                                        · exact (hg.mp (bt_nn h149)).2 j q
                                        · rw [show j = i by omega]; exact hst⟩, fun _ => rfl⟩
                          exact l3 0 g _ _ (by omega) ⟨fun q => ⟨⟨(hg.mp q).1, fun j hj => (hg.mp q).2 j (by omega)⟩, fun j hj => absurd hj (Nat.not_lt_zero _)⟩, fun q => hg.mpr ⟨q.1.1, fun j hj => q.1.2 j (by omega)⟩⟩
                        · refine bj_iload d_Mo_isWay_100 rfl ?_
                          refine bj_if_eq (tgt := 126) d_Mo_isWay_102 (by decide) (fun h102 => ?_) (fun h102 => ?_)
                          · refine bj_iconst (v := (nI 0)) d_Mo_isWay_126 (by decide) ?_
                            refine bj_istore (L' := [some (.ref (ad 80)), some (.int (nI a)), some (.int (nI b)), some (.int s), some (.int w), some (.int (nI n)), some (.int (nI 0)), some (.int (nI i)), none, none]) d_Mo_isWay_127 (by decide) rfl ?_
                            refine bj_iinc (v := (nI (i + 1))) (L' := [some (.ref (ad 80)), some (.int (nI a)), some (.int (nI b)), some (.int s), some (.int w), some (.int (nI n)), some (.int (nI 0)), some (.int (nI (i + 1))), none, none]) d_Mo_isWay_129 rfl (bj_inc1 _) (by decide) rfl ?_
                            refine bj_goto (tgt := 93) d_Mo_isWay_132 (by decide) ?_
                            exact ih_l2 (8 - (i + 1)) (by omega) (i + 1) false rfl (by omega) ⟨fun e => (by cases e), fun q => by first | (have := q.2 i (by omega); omega) | (have := hg.mpr ⟨q.1, fun j hj => q.2 j (by omega)⟩; rw [this] at h102; exact absurd h102 (by decide))⟩
                          · refine bj_iload d_Mo_isWay_105 rfl ?_
                            refine bj_iconst (v := (nI 4)) d_Mo_isWay_107 (by decide) ?_
                            refine bj_iload d_Mo_isWay_108 rfl ?_
                            refine bj_imul (v := (nI (4 * i))) d_Mo_isWay_110 (pk_mul _ _) ?_
                            refine bj_iushr (v := (w.toUInt32 >>> ((nI (4 * i)).toUInt32 &&& Int32.toUInt32 31)).toInt32) d_Mo_isWay_111 rfl ?_
                            refine bj_bipush (v := (nI 15)) d_Mo_isWay_112 (by decide) ?_
                            refine bj_iand (v := (nI (nb w i))) d_Mo_isWay_114 (nb_get w (by omega)) ?_
                            refine bj_aload_n d_Mo_isWay_115 rfl rfl ?_
                            refine bj_get d_Mo_isWay_116 in_Mo rfl (by decide : 0 < 17) wf_Mo_47 rfl hm0.1 rfl ?_
                            refine bj_icmp_gtN (tgt := 126) d_Mo_isWay_119 (by decide) (by first | omega | exact Nat.lt_trans (nb_lt w _) (by decide) | exact hz31 _ _ | exact Nat.lt_of_le_of_lt (Nat.sub_le _ _) (Nat.lt_trans (nb_lt w _) (by decide))) (by first | omega | exact Nat.lt_trans (nb_lt w _) (by decide) | exact hz31 _ _ | exact Nat.lt_of_le_of_lt (Nat.sub_le _ _) (Nat.lt_trans (nb_lt w _) (by decide))) (fun h119 => ?_) (fun h119 => ?_)
                            · refine bj_iconst (v := (nI 0)) d_Mo_isWay_126 (by decide) ?_
                              refine bj_istore (L' := [some (.ref (ad 80)), some (.int (nI a)), some (.int (nI b)), some (.int s), some (.int w), some (.int (nI n)), some (.int (nI 0)), some (.int (nI i)), none, none]) d_Mo_isWay_127 (by decide) rfl ?_
                              refine bj_iinc (v := (nI (i + 1))) (L' := [some (.ref (ad 80)), some (.int (nI a)), some (.int (nI b)), some (.int s), some (.int w), some (.int (nI n)), some (.int (nI 0)), some (.int (nI (i + 1))), none, none]) d_Mo_isWay_129 rfl (bj_inc1 _) (by decide) rfl ?_
                              refine bj_goto (tgt := 93) d_Mo_isWay_132 (by decide) ?_
                              exact ih_l2 (8 - (i + 1)) (by omega) (i + 1) false rfl (by omega) ⟨fun e => (by cases e), fun q => by first | (have := q.2 i (by omega); omega) | (have := hg.mpr ⟨q.1, fun j hj => q.2 j (by omega)⟩; rw [this] at h102; exact absurd h102 (by decide))⟩
                            · refine bj_iconst (v := (nI 1)) d_Mo_isWay_122 (by decide) ?_
                              refine bj_goto (tgt := 127) d_Mo_isWay_123 (by decide) ?_
                              refine bj_istore (L' := [some (.ref (ad 80)), some (.int (nI a)), some (.int (nI b)), some (.int s), some (.int w), some (.int (nI n)), some (.int (nI 1)), some (.int (nI i)), none, none]) d_Mo_isWay_127 (by decide) rfl ?_
                              refine bj_iinc (v := (nI (i + 1))) (L' := [some (.ref (ad 80)), some (.int (nI a)), some (.int (nI b)), some (.int s), some (.int w), some (.int (nI n)), some (.int (nI 1)), some (.int (nI (i + 1))), none, none]) d_Mo_isWay_129 rfl (bj_inc1 _) (by decide) rfl ?_
                              refine bj_goto (tgt := 93) d_Mo_isWay_132 (by decide) ?_
                              exact ih_l2 (8 - (i + 1)) (by omega) (i + 1) true rfl (by omega) ⟨fun _ => ⟨(hg.mp (bt_nn h102)).1, fun j hj => by
                                rcases Nat.lt_or_ge j i with q | q
                                · exact (hg.mp (bt_nn h102)).2 j q
                                · rw [show j = i by omega]; exact h119⟩, fun _ => rfl⟩
                    exact l2 0 false (Nat.zero_le _) ⟨fun e => (by cases e), fun q => by first | exact absurd q.1.1 h62 | exact absurd q.1.2 h80⟩
                  · refine bj_iconst (v := (nI 1)) d_Mo_isWay_83 (by decide) ?_
                    refine bj_goto (tgt := 88) d_Mo_isWay_84 (by decide) ?_
                    refine bj_istore (L' := [some (.ref (ad 80)), some (.int (nI a)), some (.int (nI b)), some (.int s), some (.int w), some (.int (nI n)), some (.int (nI 1)), none, none, none]) d_Mo_isWay_88 (by decide) rfl ?_
                    refine bj_iconst (v := (nI 0)) d_Mo_isWay_90 (by decide) ?_
                    refine bj_istore (L' := [some (.ref (ad 80)), some (.int (nI a)), some (.int (nI b)), some (.int s), some (.int w), some (.int (nI n)), some (.int (nI 1)), some (.int (nI 0)), none, none]) d_Mo_isWay_91 (by decide) rfl ?_
                    have l2 : ∀ (i : Nat), ∀ (g : Bool), (i ≤ n) → (g = true ↔ ((nb w 0 - 1 = a ∧ nb w (n - 1) - 1 = b) ∧ ∀ j, j < i → nb w j ≤ N)) → bj_S (bw_G l D c) Y_Mo_isWay 0 (0, 0, 0, 0) ad (q_b M (wy (fun a b => nI (p a b)) N a b s w)) 0 0 93 [some (.ref (ad 80)), some (.int (nI a)), some (.int (nI b)), some (.int s), some (.int w), some (.int (nI n)), some (.int (bt_n g)), some (.int (nI i)), none, none] [] M := by
                      intro i g
                      induction hd_l2 : 8 - i using Nat.strongRecOn generalizing i g with
                      | ind d_l2 ih_l2 =>
                        intro hi hg
                        refine bj_iload d_Mo_isWay_93 rfl ?_
                        refine bj_iload d_Mo_isWay_95 rfl ?_
                        refine bj_icmp_geN (tgt := 135) d_Mo_isWay_97 (by decide) (by first | omega | exact Nat.lt_trans (nb_lt w _) (by decide) | exact hz31 _ _ | exact Nat.lt_of_le_of_lt (Nat.sub_le _ _) (Nat.lt_trans (nb_lt w _) (by decide))) (by first | omega | exact Nat.lt_trans (nb_lt w _) (by decide) | exact hz31 _ _ | exact Nat.lt_of_le_of_lt (Nat.sub_le _ _) (Nat.lt_trans (nb_lt w _) (by decide))) (fun h97 => ?_) (fun h97 => ?_)
                        · refine bj_iconst (v := (nI 0)) d_Mo_isWay_135 (by decide) ?_
                          refine bj_istore (L' := [some (.ref (ad 80)), some (.int (nI a)), some (.int (nI b)), some (.int s), some (.int w), some (.int (nI n)), some (.int (bt_n g)), some (.int (nI 0)), none, none]) d_Mo_isWay_136 (by decide) rfl ?_
                          have l3 : ∀ (i : Nat), ∀ (g : Bool), ∀ (z8 : Option Value), ∀ (z9 : Option Value), (i + 1 ≤ n) → (g = true ↔ (wba N a b n w ∧ ∀ j, j < i → wst p N s w j)) → bj_S (bw_G l D c) Y_Mo_isWay 0 (0, 0, 0, 0) ad (q_b M (wy (fun a b => nI (p a b)) N a b s w)) 0 0 138 [some (.ref (ad 80)), some (.int (nI a)), some (.int (nI b)), some (.int s), some (.int w), some (.int (nI n)), some (.int (bt_n g)), some (.int (nI i)), z8, z9] [] M := by
                            intro i g z8 z9
                            induction hd_l3 : 8 - i using Nat.strongRecOn generalizing i g z8 z9 with
                            | ind d_l3 ih_l3 =>
                              intro hi hg
                              refine bj_iload d_Mo_isWay_138 rfl ?_
                              refine bj_iconst (v := (nI 1)) d_Mo_isWay_140 (by decide) ?_
                              refine bj_iadd (v := (nI (i + 1))) d_Mo_isWay_141 (nI_add _ _) ?_
                              refine bj_iload d_Mo_isWay_142 rfl ?_
                              refine bj_icmp_geN (tgt := 228) d_Mo_isWay_144 (by decide) (by first | omega | exact Nat.lt_trans (nb_lt w _) (by decide) | exact hz31 _ _ | exact Nat.lt_of_le_of_lt (Nat.sub_le _ _) (Nat.lt_trans (nb_lt w _) (by decide))) (by first | omega | exact Nat.lt_trans (nb_lt w _) (by decide) | exact hz31 _ _ | exact Nat.lt_of_le_of_lt (Nat.sub_le _ _) (Nat.lt_trans (nb_lt w _) (by decide))) (fun h144 => ?_) (fun h144 => ?_)
                              · refine bj_iload d_Mo_isWay_228 rfl ?_
                                exact bj_iret d_Mo_isWay_230 rfl nar_bt (Nat.le_refl _) (Nat.le_refl _) ⟨g, rfl, (by first | exact hg.trans (Iff.trans ⟨fun q => ⟨q.1, fun j hj => q.2 j (by omega)⟩, fun q => ⟨q.1, fun j hj => q.2 j (by omega)⟩⟩ (wyf hab hs hn h8 hxn (by omega) hzz hp ha)) | exact ⟨fun e => (by rw [bt_n0.mp h149] at e; cases e), fun q => hg.mpr ((fun q => ⟨q.1, fun j hj => q.2 j (by omega)⟩) ((wyf hab hs hn h8 hxn (by omega) hzz hp ha).mpr q))⟩), rfl⟩
                              · refine bj_iload d_Mo_isWay_147 rfl ?_
                                refine bj_if_eq (tgt := 228) d_Mo_isWay_149 (by decide) (fun h149 => ?_) (fun h149 => ?_)
                                · refine bj_iload d_Mo_isWay_228 rfl ?_
                                  exact bj_iret d_Mo_isWay_230 rfl nar_bt (Nat.le_refl _) (Nat.le_refl _) ⟨g, rfl, (by first | exact hg.trans (Iff.trans ⟨fun q => ⟨q.1, fun j hj => q.2 j (by omega)⟩, fun q => ⟨q.1, fun j hj => q.2 j (by omega)⟩⟩ (wyf hab hs hn h8 hxn (by omega) hzz hp ha)) | exact ⟨fun e => (by rw [bt_n0.mp h149] at e; cases e), fun q => hg.mpr ((fun q => ⟨q.1, fun j hj => q.2 j (by omega)⟩) ((wyf hab hs hn h8 hxn (by omega) hzz hp ha).mpr q))⟩), rfl⟩
                                · have hwb := (hg.mp (bt_nn h149)).1
                                  have hk1 := hwb.2 i (by omega)
                                  have hk2 := hwb.2 (i + 1) (by omega)
                                  have hp1 := hn i (by omega)
                                  have hp2 := hn (i + 1) (by omega)
                                  refine bj_iload d_Mo_isWay_152 rfl ?_
                                  refine bj_iconst (v := (nI 4)) d_Mo_isWay_154 (by decide) ?_
                                  refine bj_iload d_Mo_isWay_155 rfl ?_
                                  refine bj_imul (v := (nI (4 * i))) d_Mo_isWay_157 (pk_mul _ _) ?_
                                  refine bj_iushr (v := (w.toUInt32 >>> ((nI (4 * i)).toUInt32 &&& Int32.toUInt32 31)).toInt32) d_Mo_isWay_158 rfl ?_
                                  refine bj_bipush (v := (nI 15)) d_Mo_isWay_159 (by decide) ?_
                                  refine bj_iand (v := (nI (nb w i))) d_Mo_isWay_161 (nb_get w (by omega)) ?_
                                  refine bj_iconst (v := (nI 1)) d_Mo_isWay_162 (by decide) ?_
                                  refine bj_isub (v := (nI ((nb w i) - 1))) d_Mo_isWay_163 (pk_sub (by omega)) ?_
                                  refine bj_istore (L' := [some (.ref (ad 80)), some (.int (nI a)), some (.int (nI b)), some (.int s), some (.int w), some (.int (nI n)), some (.int (bt_n g)), some (.int (nI i)), some (.int (nI ((nb w i) - 1))), z9]) d_Mo_isWay_164 (by decide) rfl ?_
                                  refine bj_iload d_Mo_isWay_166 rfl ?_
                                  refine bj_iconst (v := (nI 4)) d_Mo_isWay_168 (by decide) ?_
                                  refine bj_iload d_Mo_isWay_169 rfl ?_
                                  refine bj_iconst (v := (nI 1)) d_Mo_isWay_171 (by decide) ?_
                                  refine bj_iadd (v := (nI (i + 1))) d_Mo_isWay_172 (nI_add _ _) ?_
                                  refine bj_imul (v := (nI (4 * (i + 1)))) d_Mo_isWay_173 (pk_mul _ _) ?_
                                  refine bj_iushr (v := (w.toUInt32 >>> ((nI (4 * (i + 1))).toUInt32 &&& Int32.toUInt32 31)).toInt32) d_Mo_isWay_174 rfl ?_
                                  refine bj_bipush (v := (nI 15)) d_Mo_isWay_175 (by decide) ?_
                                  refine bj_iand (v := (nI (nb w (i + 1)))) d_Mo_isWay_177 (nb_get w (by omega)) ?_
                                  refine bj_iconst (v := (nI 1)) d_Mo_isWay_178 (by decide) ?_
                                  refine bj_isub (v := (nI ((nb w (i + 1)) - 1))) d_Mo_isWay_179 (pk_sub (by omega)) ?_
                                  refine bj_istore (L' := [some (.ref (ad 80)), some (.int (nI a)), some (.int (nI b)), some (.int s), some (.int w), some (.int (nI n)), some (.int (bt_n g)), some (.int (nI i)), some (.int (nI ((nb w i) - 1))), some (.int (nI ((nb w (i + 1)) - 1)))]) d_Mo_isWay_180 (by decide) rfl ?_
                                  refine bj_aload_n d_Mo_isWay_182 rfl rfl ?_
                                  refine bj_get d_Mo_isWay_183 in_Mo rfl (by decide : 10 < 17) wf_Mo_28 rfl hm0.1 rfl ?_
                                  refine bj_bipush (v := (nI 8)) d_Mo_isWay_186 (by decide) ?_
                                  refine bj_iload d_Mo_isWay_188 rfl ?_
                                  refine bj_imul (v := (nI (8 * ((nb w i) - 1)))) d_Mo_isWay_190 (pk_mul _ _) ?_
                                  refine bj_iload d_Mo_isWay_191 rfl ?_
                                  refine bj_iadd (v := (nI ((8 * ((nb w i) - 1)) + ((nb w (i + 1)) - 1)))) d_Mo_isWay_193 (nI_add _ _) ?_
                                  refine bv_iald (v := (nI (drn (pz N p) (nb w i - 1) (nb w (i + 1) - 1)))) d_Mo_isWay_194 0 rfl hcn.2 (by omega) (by first | omega | exact Nat.lt_trans (nb_lt w _) (by decide) | exact hz31 _ _ | exact Nat.lt_of_le_of_lt (Nat.sub_le _ _) (Nat.lt_trans (nb_lt w _) (by decide))) (by show nI _ = nI _; rw [show (8 * (nb w i - 1) + (nb w (i + 1) - 1)) / 8 = nb w i - 1 by omega, show (8 * (nb w i - 1) + (nb w (i + 1) - 1)) % 8 = nb w (i + 1) - 1 by omega]) ?_
                                  refine bj_if_leN (tgt := 219) d_Mo_isWay_195 (by decide) (by first | omega | exact Nat.lt_trans (nb_lt w _) (by decide) | exact hz31 _ _ | exact Nat.lt_of_le_of_lt (Nat.sub_le _ _) (Nat.lt_trans (nb_lt w _) (by decide))) (fun h195 => ?_) (fun h195 => ?_)
                                  · have hst : ¬ wst p N s w i := fun q => by have := q.1; omega
                                    refine bj_iconst (v := (nI 0)) d_Mo_isWay_219 (by decide) ?_
                                    refine bj_istore (L' := [some (.ref (ad 80)), some (.int (nI a)), some (.int (nI b)), some (.int s), some (.int w), some (.int (nI n)), some (.int (nI 0)), some (.int (nI i)), some (.int (nI ((nb w i) - 1))), some (.int (nI ((nb w (i + 1)) - 1)))]) d_Mo_isWay_220 (by decide) rfl ?_
                                    refine bj_iinc (v := (nI (i + 1))) (L' := [some (.ref (ad 80)), some (.int (nI a)), some (.int (nI b)), some (.int s), some (.int w), some (.int (nI n)), some (.int (nI 0)), some (.int (nI (i + 1))), some (.int (nI ((nb w i) - 1))), some (.int (nI ((nb w (i + 1)) - 1)))]) d_Mo_isWay_222 rfl (bj_inc1 _) (by decide) rfl ?_
                                    refine bj_goto (tgt := 138) d_Mo_isWay_225 (by decide) ?_
                                    exact ih_l3 (8 - (i + 1)) (by omega) (i + 1) false _ _ rfl (by omega) ⟨fun e => (by cases e), fun q => absurd (q.2 i (by omega)) hst⟩
                                  · refine bj_aload_n d_Mo_isWay_198 rfl rfl ?_
                                    refine bj_get d_Mo_isWay_199 in_Mo rfl (by decide : 10 < 17) wf_Mo_28 rfl hm0.1 rfl ?_
                                    refine bj_bipush (v := (nI 8)) d_Mo_isWay_202 (by decide) ?_
                                    refine bj_iload d_Mo_isWay_204 rfl ?_
                                    refine bj_imul (v := (nI (8 * ((nb w i) - 1)))) d_Mo_isWay_206 (pk_mul _ _) ?_
                                    refine bj_iload d_Mo_isWay_207 rfl ?_
                                    refine bj_iadd (v := (nI ((8 * ((nb w i) - 1)) + ((nb w (i + 1)) - 1)))) d_Mo_isWay_209 (nI_add _ _) ?_
                                    refine bv_iald (v := (nI (drn (pz N p) (nb w i - 1) (nb w (i + 1) - 1)))) d_Mo_isWay_210 0 rfl hcn.2 (by omega) (by first | omega | exact Nat.lt_trans (nb_lt w _) (by decide) | exact hz31 _ _ | exact Nat.lt_of_le_of_lt (Nat.sub_le _ _) (Nat.lt_trans (nb_lt w _) (by decide))) (by show nI _ = nI _; rw [show (8 * (nb w i - 1) + (nb w (i + 1) - 1)) / 8 = nb w i - 1 by omega, show (8 * (nb w i - 1) + (nb w (i + 1) - 1)) % 8 = nb w (i + 1) - 1 by omega]) ?_
                                    refine bj_iload_n d_Mo_isWay_211 rfl rfl ?_
                                    refine bj_icmp_lt (tgt := 219) d_Mo_isWay_212 (by decide) (fun h212 => ?_) (fun h212 => ?_)
                                    · have hst : ¬ wst p N s w i := fun q => q.2 h212
                                      refine bj_iconst (v := (nI 0)) d_Mo_isWay_219 (by decide) ?_
                                      refine bj_istore (L' := [some (.ref (ad 80)), some (.int (nI a)), some (.int (nI b)), some (.int s), some (.int w), some (.int (nI n)), some (.int (nI 0)), some (.int (nI i)), some (.int (nI ((nb w i) - 1))), some (.int (nI ((nb w (i + 1)) - 1)))]) d_Mo_isWay_220 (by decide) rfl ?_
                                      refine bj_iinc (v := (nI (i + 1))) (L' := [some (.ref (ad 80)), some (.int (nI a)), some (.int (nI b)), some (.int s), some (.int w), some (.int (nI n)), some (.int (nI 0)), some (.int (nI (i + 1))), some (.int (nI ((nb w i) - 1))), some (.int (nI ((nb w (i + 1)) - 1)))]) d_Mo_isWay_222 rfl (bj_inc1 _) (by decide) rfl ?_
                                      refine bj_goto (tgt := 138) d_Mo_isWay_225 (by decide) ?_
                                      exact ih_l3 (8 - (i + 1)) (by omega) (i + 1) false _ _ rfl (by omega) ⟨fun e => (by cases e), fun q => absurd (q.2 i (by omega)) hst⟩
                                    · have hst : wst p N s w i := ⟨h195, h212⟩
                                      refine bj_iconst (v := (nI 1)) d_Mo_isWay_215 (by decide) ?_
                                      refine bj_goto (tgt := 220) d_Mo_isWay_216 (by decide) ?_
                                      refine bj_istore (L' := [some (.ref (ad 80)), some (.int (nI a)), some (.int (nI b)), some (.int s), some (.int w), some (.int (nI n)), some (.int (nI 1)), some (.int (nI i)), some (.int (nI ((nb w i) - 1))), some (.int (nI ((nb w (i + 1)) - 1)))]) d_Mo_isWay_220 (by decide) rfl ?_
                                      refine bj_iinc (v := (nI (i + 1))) (L' := [some (.ref (ad 80)), some (.int (nI a)), some (.int (nI b)), some (.int s), some (.int w), some (.int (nI n)), some (.int (nI 1)), some (.int (nI (i + 1))), some (.int (nI ((nb w i) - 1))), some (.int (nI ((nb w (i + 1)) - 1)))]) d_Mo_isWay_222 rfl (bj_inc1 _) (by decide) rfl ?_
                                      refine bj_goto (tgt := 138) d_Mo_isWay_225 (by decide) ?_
                                      exact ih_l3 (8 - (i + 1)) (by omega) (i + 1) true _ _ rfl (by omega) ⟨fun _ => ⟨(hg.mp (bt_nn h149)).1, fun j hj => by
                                        rcases Nat.lt_or_ge j i with q | q
                                        · exact (hg.mp (bt_nn h149)).2 j q
                                        · rw [show j = i by omega]; exact hst⟩, fun _ => rfl⟩
                          exact l3 0 g _ _ (by omega) ⟨fun q => ⟨⟨(hg.mp q).1, fun j hj => (hg.mp q).2 j (by omega)⟩, fun j hj => absurd hj (Nat.not_lt_zero _)⟩, fun q => hg.mpr ⟨q.1.1, fun j hj => q.1.2 j (by omega)⟩⟩
                        · refine bj_iload d_Mo_isWay_100 rfl ?_
                          refine bj_if_eq (tgt := 126) d_Mo_isWay_102 (by decide) (fun h102 => ?_) (fun h102 => ?_)
                          · refine bj_iconst (v := (nI 0)) d_Mo_isWay_126 (by decide) ?_
                            refine bj_istore (L' := [some (.ref (ad 80)), some (.int (nI a)), some (.int (nI b)), some (.int s), some (.int w), some (.int (nI n)), some (.int (nI 0)), some (.int (nI i)), none, none]) d_Mo_isWay_127 (by decide) rfl ?_
                            refine bj_iinc (v := (nI (i + 1))) (L' := [some (.ref (ad 80)), some (.int (nI a)), some (.int (nI b)), some (.int s), some (.int w), some (.int (nI n)), some (.int (nI 0)), some (.int (nI (i + 1))), none, none]) d_Mo_isWay_129 rfl (bj_inc1 _) (by decide) rfl ?_
                            refine bj_goto (tgt := 93) d_Mo_isWay_132 (by decide) ?_
                            exact ih_l2 (8 - (i + 1)) (by omega) (i + 1) false rfl (by omega) ⟨fun e => (by cases e), fun q => by first | (have := q.2 i (by omega); omega) | (have := hg.mpr ⟨q.1, fun j hj => q.2 j (by omega)⟩; rw [this] at h102; exact absurd h102 (by decide))⟩
                          · refine bj_iload d_Mo_isWay_105 rfl ?_
                            refine bj_iconst (v := (nI 4)) d_Mo_isWay_107 (by decide) ?_
                            refine bj_iload d_Mo_isWay_108 rfl ?_
                            refine bj_imul (v := (nI (4 * i))) d_Mo_isWay_110 (pk_mul _ _) ?_
                            refine bj_iushr (v := (w.toUInt32 >>> ((nI (4 * i)).toUInt32 &&& Int32.toUInt32 31)).toInt32) d_Mo_isWay_111 rfl ?_
                            refine bj_bipush (v := (nI 15)) d_Mo_isWay_112 (by decide) ?_
                            refine bj_iand (v := (nI (nb w i))) d_Mo_isWay_114 (nb_get w (by omega)) ?_
                            refine bj_aload_n d_Mo_isWay_115 rfl rfl ?_
                            refine bj_get d_Mo_isWay_116 in_Mo rfl (by decide : 0 < 17) wf_Mo_47 rfl hm0.1 rfl ?_
                            refine bj_icmp_gtN (tgt := 126) d_Mo_isWay_119 (by decide) (by first | omega | exact Nat.lt_trans (nb_lt w _) (by decide) | exact hz31 _ _ | exact Nat.lt_of_le_of_lt (Nat.sub_le _ _) (Nat.lt_trans (nb_lt w _) (by decide))) (by first | omega | exact Nat.lt_trans (nb_lt w _) (by decide) | exact hz31 _ _ | exact Nat.lt_of_le_of_lt (Nat.sub_le _ _) (Nat.lt_trans (nb_lt w _) (by decide))) (fun h119 => ?_) (fun h119 => ?_)
                            · refine bj_iconst (v := (nI 0)) d_Mo_isWay_126 (by decide) ?_
                              refine bj_istore (L' := [some (.ref (ad 80)), some (.int (nI a)), some (.int (nI b)), some (.int s), some (.int w), some (.int (nI n)), some (.int (nI 0)), some (.int (nI i)), none, none]) d_Mo_isWay_127 (by decide) rfl ?_
                              refine bj_iinc (v := (nI (i + 1))) (L' := [some (.ref (ad 80)), some (.int (nI a)), some (.int (nI b)), some (.int s), some (.int w), some (.int (nI n)), some (.int (nI 0)), some (.int (nI (i + 1))), none, none]) d_Mo_isWay_129 rfl (bj_inc1 _) (by decide) rfl ?_
                              refine bj_goto (tgt := 93) d_Mo_isWay_132 (by decide) ?_
                              exact ih_l2 (8 - (i + 1)) (by omega) (i + 1) false rfl (by omega) ⟨fun e => (by cases e), fun q => by first | (have := q.2 i (by omega); omega) | (have := hg.mpr ⟨q.1, fun j hj => q.2 j (by omega)⟩; rw [this] at h102; exact absurd h102 (by decide))⟩
                            · refine bj_iconst (v := (nI 1)) d_Mo_isWay_122 (by decide) ?_
                              refine bj_goto (tgt := 127) d_Mo_isWay_123 (by decide) ?_
                              refine bj_istore (L' := [some (.ref (ad 80)), some (.int (nI a)), some (.int (nI b)), some (.int s), some (.int w), some (.int (nI n)), some (.int (nI 1)), some (.int (nI i)), none, none]) d_Mo_isWay_127 (by decide) rfl ?_
                              refine bj_iinc (v := (nI (i + 1))) (L' := [some (.ref (ad 80)), some (.int (nI a)), some (.int (nI b)), some (.int s), some (.int w), some (.int (nI n)), some (.int (nI 1)), some (.int (nI (i + 1))), none, none]) d_Mo_isWay_129 rfl (bj_inc1 _) (by decide) rfl ?_
                              refine bj_goto (tgt := 93) d_Mo_isWay_132 (by decide) ?_
                              exact ih_l2 (8 - (i + 1)) (by omega) (i + 1) true rfl (by omega) ⟨fun _ => ⟨(hg.mp (bt_nn h102)).1, fun j hj => by
                                rcases Nat.lt_or_ge j i with q | q
                                · exact (hg.mp (bt_nn h102)).2 j q
                                · rw [show j = i by omega]; exact h119⟩, fun _ => rfl⟩
                    exact l2 0 true (Nat.zero_le _) ⟨fun _ => ⟨⟨h62, h80⟩, fun j hj => absurd hj (Nat.not_lt_zero _)⟩, fun _ => rfl⟩
              · refine bj_iconst (v := (nI 0)) d_Mo_isWay_52 (by decide) ?_
                exact bj_iret d_Mo_isWay_53 rfl rfl (Nat.le_refl _) (Nat.le_refl _) (qb_f (fun q => by obtain ⟨q1, q2, -⟩ := (wyn hab hn h8 hxn).mp q; first | omega | exact h49 ((ush_zero w (by omega)).mpr q2)))
        · refine bj_iinc (v := (nI (n + 1))) (L' := [some (.ref (ad 80)), some (.int (nI a)), some (.int (nI b)), some (.int s), some (.int w), some (.int (nI (n + 1))), none, none, none, none]) d_Mo_isWay_23 rfl (bj_inc1 _) (by decide) rfl ?_
          refine bj_goto (tgt := 3) d_Mo_isWay_26 (by decide) ?_
          exact ih_l1 (8 - (n + 1)) (by omega) (n + 1) rfl (by omega) (fun j hj => by
            rcases Nat.lt_or_ge j n with q | q
            · exact hn j q
            · rw [show j = n by omega]; exact h20)
  exact l1 0 (Nat.zero_le _) (fun j hj => absurd hj (Nat.not_lt_zero _))
theorem bfn {b : Bool} (h : ¬ bt_n b = nI 1) : b = false := by
  cases b with
  | false => rfl
  | true => exact absurd rfl h
set_option maxRecDepth 100000 in
set_option maxHeartbeats 4000000 in
/-- proves -/
theorem t_Mo_proves {N op : Nat} {cd : Int32} {se : Bool} {dw sg sz : Nat → Nat} {rk : Nat → Nat → Int32} {tm : Nat → Nat → Nat} (hA : mo_all c ad M N cd se op dw sg sz rk tm) (hiv : of_iv N op dw sg sz tm) {x1 x2 x3 x4 x5 : Int32} : bj_T (bw_G l D c) Y_Mo_proves 4 (0, 0, 0, 0) ad (q_mod true (Rw (prC N x1 x2) (prvA (fun a b => nI (psum sg sz rk tm 12 a b)) N x1 x2 x3 x4 x5)) (mo_st c ad M N se op dw sg sz rk tm) (mo_st c ad M N se op dw sg sz rk tm)) [.ref (ad 80), .int x1, .int x2, .int x3, .int x4, .int x5] M := by
  show bj_S _ _ _ _ _ _ 0 0 0 [some (.ref (ad 80)), some (.int x1), some (.int x2), some (.int x3), some (.int x4), some (.int x5), none, none, none] [] M
  obtain ⟨⟨li, hm0⟩, hsc⟩ := hA
  obtain ⟨hN1, hN, hop, ⟨ps, hpm⟩, hbt, hun⟩ := id hiv
  refine bj_aload_n d_Mo_proves_0 rfl rfl ?_
  refine bj_iload_n d_Mo_proves_1 rfl rfl ?_
  refine bj_iload_n d_Mo_proves_2 rfl rfl ?_
  refine bj_cvR sv_Mo_93 d_Mo_proves_3 (t_Mo_lacks l D c ad M ⟨⟨_, hm0⟩, hsc⟩ hiv) rfl rfl (by decide) (by decide) (by decide) (Nat.le_of_ble_eq_true rfl) rfl hm0.1 rfl rfl (fun v1 N1 hq1 => ?_)
  obtain ⟨hfr1, hsc1, ⟨hz, rfl, li1, hm1⟩ | ⟨hz, rfl, ⟨li1, hm1⟩, hcn, e, he, hes, heB⟩⟩ := hq1
  · show bj_S (bw_G l D c) Y_Mo_proves 4 (0, 0, 0, 0) ad (q_mod true (Rw (prC N x1 x2) (prvA (fun a b => nI (psum sg sz rk tm 12 a b)) N x1 x2 x3 x4 x5)) (mo_st c ad M N se op dw sg sz rk tm) (mo_st c ad M N se op dw sg sz rk tm)) 0 0 6 [some (.ref (ad 80)), some (.int x1), some (.int x2), some (.int x3), some (.int x4), some (.int x5), none, none, none] [.int (nI 1)] N1
    refine bj_if_eqN (tgt := 11) d_Mo_proves_6 (by decide) (by decide) (fun h => absurd h (by decide)) (fun _ => ?_)
    refine bj_iconst (v := (nI 0)) d_Mo_proves_9 (by decide) ?_
    exact bj_iret d_Mo_proves_10 rfl rfl (Nat.le_refl _) (Nat.le_refl _) (q_modn 1 (by decide) (by decide) (Rw_n hz (by decide)) ⟨⟨⟨_, hm1⟩, hsc1⟩, hfr1⟩)
  · have h1 := prC_inv hz
    obtain ⟨a, ha, rfl⟩ := ic_t (by omega) h1.1
    obtain ⟨b, hb9, rfl⟩ := ic_t (by omega) h1.2.1
    have hab : a ≠ b := fun q => h1.2.2 (by rw [q])
    show bj_S (bw_G l D c) Y_Mo_proves 4 (0, 0, 0, 0) ad (q_mod true (Rw (prC N (nI a) (nI b)) (prvA (fun a b => nI (psum sg sz rk tm 12 a b)) N (nI a) (nI b) x3 x4 x5)) (mo_st c ad M N se op dw sg sz rk tm) (mo_st c ad M N se op dw sg sz rk tm)) 0 0 6 [some (.ref (ad 80)), some (.int (nI a)), some (.int (nI b)), some (.int x3), some (.int x4), some (.int x5), none, none, none] [.int (nI 0)] N1
    refine bj_if_eqN (tgt := 11) d_Mo_proves_6 (by decide) (by decide) (fun _ => ?_) (fun h => absurd h (by decide))
    have hz31 : ∀ a x, drn (pz N (psum sg sz rk tm 12)) a x < 2 ^ 31 := fun a x => Nat.lt_of_le_of_lt (dz_le hbt) (by decide)
    have hp31 : ∀ a b, a < N → b < N → (psum sg sz rk tm 12) a b < 2 ^ 31 := fun a b _ _ => Nat.lt_of_le_of_lt (psum_le (fun j hj => (hbt j hj).2)) (by decide)
    refine bj_iload_n d_Mo_proves_11 rfl rfl ?_
    refine bj_if_ne (tgt := 28) d_Mo_proves_12 (by decide) (fun h12 => ?_) (fun h12 => ?_)
    · refine bj_iload_n d_Mo_proves_28 rfl rfl ?_
      refine bj_if_le (tgt := 48) d_Mo_proves_29 (by decide) (fun h29 => ?_) (fun h29 => ?_)
      · refine bj_iconst (v := (nI 0)) d_Mo_proves_48 (by decide) ?_
        refine bj_istore (L' := [some (.ref (ad 80)), some (.int (nI a)), some (.int (nI b)), some (.int x3), some (.int x4), some (.int x5), some (.int (nI 0)), none, none]) d_Mo_proves_49 (by decide) rfl ?_
        refine bj_iload d_Mo_proves_51 rfl ?_
        refine bj_if_eqN (tgt := 91) d_Mo_proves_53 (by decide) (by decide) (fun _ => ?_) (fun h => absurd rfl h)
        refine bj_iconst (v := (nI 0)) d_Mo_proves_91 (by decide) ?_
        exact bj_iret d_Mo_proves_92 rfl rfl (Nat.le_refl _) (Nat.le_refl _) (q_mod0 (Rw_0 hz (prvA_f ha hb9 (fun q => by obtain ⟨q1, q2, q3, q4, q5, q6⟩ := q; first | exact h17 (q2 h12) | exact h12 (Int32.le_antisymm h29 q1) | (have q7 := hr8.mpr (q3 h12); rw [q7] at h41; exact absurd h41 (by decide)) | exact ((set_rg hN).mpr q6.1).1 h58 | exact ((set_rg hN).mpr q6.1).2 h69 | (rw [q4] at h78; exact absurd h78 (by decide)) | (rw [q5] at h88; exact absurd h88 (by decide))))) ⟨⟨⟨_, hm1⟩, hsc1⟩, hfr1⟩)
      · refine bj_aload_n d_Mo_proves_32 rfl rfl ?_
        refine bj_iload_n d_Mo_proves_33 rfl rfl ?_
        refine bj_iload_n d_Mo_proves_34 rfl rfl ?_
        refine bj_iload_n d_Mo_proves_35 rfl rfl ?_
        refine bj_iload d_Mo_proves_36 rfl ?_
        refine bj_cvR sv_Mo_97 d_Mo_proves_38 (t_Mo_isWay l D c ad N1 hm1 hN hcn hp31 hz31 ha hb9 hab (Int32.not_le.mp h29)) rfl rfl (by decide) (by decide) (by decide) (Nat.le_of_ble_eq_true rfl) rfl hm1.1 rfl rfl (fun v2 N2 hq2 => ?_)
        obtain ⟨r8, rfl, hr8, hM8⟩ := hq2
        show bj_S (bw_G l D c) Y_Mo_proves 4 (0, 0, 0, 0) ad (q_mod true (Rw (prC N (nI a) (nI b)) (prvA (fun a b => nI (psum sg sz rk tm 12 a b)) N (nI a) (nI b) x3 x4 x5)) (mo_st c ad M N se op dw sg sz rk tm) (mo_st c ad M N se op dw sg sz rk tm)) 0 0 41 [some (.ref (ad 80)), some (.int (nI a)), some (.int (nI b)), some (.int x3), some (.int x4), some (.int x5), none, none, none] [.int (bt_n r8)] N2
        rw [hM8]
        refine bj_if_eq (tgt := 48) d_Mo_proves_41 (by decide) (fun h41 => ?_) (fun h41 => ?_)
        · refine bj_iconst (v := (nI 0)) d_Mo_proves_48 (by decide) ?_
          refine bj_istore (L' := [some (.ref (ad 80)), some (.int (nI a)), some (.int (nI b)), some (.int x3), some (.int x4), some (.int x5), some (.int (nI 0)), none, none]) d_Mo_proves_49 (by decide) rfl ?_
          refine bj_iload d_Mo_proves_51 rfl ?_
          refine bj_if_eqN (tgt := 91) d_Mo_proves_53 (by decide) (by decide) (fun _ => ?_) (fun h => absurd rfl h)
          refine bj_iconst (v := (nI 0)) d_Mo_proves_91 (by decide) ?_
          exact bj_iret d_Mo_proves_92 rfl rfl (Nat.le_refl _) (Nat.le_refl _) (q_mod0 (Rw_0 hz (prvA_f ha hb9 (fun q => by obtain ⟨q1, q2, q3, q4, q5, q6⟩ := q; first | exact h17 (q2 h12) | exact h12 (Int32.le_antisymm h29 q1) | (have q7 := hr8.mpr (q3 h12); rw [q7] at h41; exact absurd h41 (by decide)) | exact ((set_rg hN).mpr q6.1).1 h58 | exact ((set_rg hN).mpr q6.1).2 h69 | (rw [q4] at h78; exact absurd h78 (by decide)) | (rw [q5] at h88; exact absurd h88 (by decide))))) ⟨⟨⟨_, hm1⟩, hsc1⟩, hfr1⟩)
        · refine bj_iconst (v := (nI 1)) d_Mo_proves_44 (by decide) ?_
          refine bj_goto (tgt := 49) d_Mo_proves_45 (by decide) ?_
          refine bj_istore (L' := [some (.ref (ad 80)), some (.int (nI a)), some (.int (nI b)), some (.int x3), some (.int x4), some (.int x5), some (.int (nI 1)), none, none]) d_Mo_proves_49 (by decide) rfl ?_
          refine bj_iload d_Mo_proves_51 rfl ?_
          refine bj_if_eqN (tgt := 91) d_Mo_proves_53 (by decide) (by decide) (fun h => absurd h (by decide)) (fun _ => ?_)
          refine bj_iload d_Mo_proves_56 rfl ?_
          refine bj_if_lt (tgt := 91) d_Mo_proves_58 (by decide) (fun h58 => ?_) (fun h58 => ?_)
          · refine bj_iconst (v := (nI 0)) d_Mo_proves_91 (by decide) ?_
            exact bj_iret d_Mo_proves_92 rfl rfl (Nat.le_refl _) (Nat.le_refl _) (q_mod0 (Rw_0 hz (prvA_f ha hb9 (fun q => by obtain ⟨q1, q2, q3, q4, q5, q6⟩ := q; first | exact h17 (q2 h12) | exact h12 (Int32.le_antisymm h29 q1) | (have q7 := hr8.mpr (q3 h12); rw [q7] at h41; exact absurd h41 (by decide)) | exact ((set_rg hN).mpr q6.1).1 h58 | exact ((set_rg hN).mpr q6.1).2 h69 | (rw [q4] at h78; exact absurd h78 (by decide)) | (rw [q5] at h88; exact absurd h88 (by decide))))) ⟨⟨⟨_, hm1⟩, hsc1⟩, hfr1⟩)
          · refine bj_iload d_Mo_proves_61 rfl ?_
            refine bj_iconst (v := (nI 1)) d_Mo_proves_63 (by decide) ?_
            refine bj_aload_n d_Mo_proves_64 rfl rfl ?_
            refine bj_get d_Mo_proves_65 in_Mo rfl (by decide : 0 < 17) wf_Mo_47 rfl hm1.1 rfl ?_
            refine bj_ishl (v := ((nI 1) <<< ((nI N) &&& 31))) d_Mo_proves_68 rfl ?_
            refine bj_icmp_ge (tgt := 91) d_Mo_proves_69 (by decide) (fun h69 => ?_) (fun h69 => ?_)
            · refine bj_iconst (v := (nI 0)) d_Mo_proves_91 (by decide) ?_
              exact bj_iret d_Mo_proves_92 rfl rfl (Nat.le_refl _) (Nat.le_refl _) (q_mod0 (Rw_0 hz (prvA_f ha hb9 (fun q => by obtain ⟨q1, q2, q3, q4, q5, q6⟩ := q; first | exact h17 (q2 h12) | exact h12 (Int32.le_antisymm h29 q1) | (have q7 := hr8.mpr (q3 h12); rw [q7] at h41; exact absurd h41 (by decide)) | exact ((set_rg hN).mpr q6.1).1 h58 | exact ((set_rg hN).mpr q6.1).2 h69 | (rw [q4] at h78; exact absurd h78 (by decide)) | (rw [q5] at h88; exact absurd h88 (by decide))))) ⟨⟨⟨_, hm1⟩, hsc1⟩, hfr1⟩)
            · refine bj_iload d_Mo_proves_72 rfl ?_
              refine bj_iload_n d_Mo_proves_74 rfl rfl ?_
              refine bj_ishr (v := (x5 >>> ((nI a) &&& 31))) d_Mo_proves_75 rfl ?_
              refine bj_iconst (v := (nI 1)) d_Mo_proves_76 (by decide) ?_
              refine bj_iand (v := (bt_n (bt x5 a))) d_Mo_proves_77 (bt_shas x5 (by omega)) ?_
              refine bj_if_eq (tgt := 91) d_Mo_proves_78 (by decide) (fun h78 => ?_) (fun h78 => ?_)
              · refine bj_iconst (v := (nI 0)) d_Mo_proves_91 (by decide) ?_
                exact bj_iret d_Mo_proves_92 rfl rfl (Nat.le_refl _) (Nat.le_refl _) (q_mod0 (Rw_0 hz (prvA_f ha hb9 (fun q => by obtain ⟨q1, q2, q3, q4, q5, q6⟩ := q; first | exact h17 (q2 h12) | exact h12 (Int32.le_antisymm h29 q1) | (have q7 := hr8.mpr (q3 h12); rw [q7] at h41; exact absurd h41 (by decide)) | exact ((set_rg hN).mpr q6.1).1 h58 | exact ((set_rg hN).mpr q6.1).2 h69 | (rw [q4] at h78; exact absurd h78 (by decide)) | (rw [q5] at h88; exact absurd h88 (by decide))))) ⟨⟨⟨_, hm1⟩, hsc1⟩, hfr1⟩)
              · refine bj_iload d_Mo_proves_81 rfl ?_
                refine bj_iload_n d_Mo_proves_83 rfl rfl ?_
                refine bj_ishr (v := (x5 >>> ((nI b) &&& 31))) d_Mo_proves_84 rfl ?_
                refine bj_iconst (v := (nI 1)) d_Mo_proves_85 (by decide) ?_
                refine bj_iand (v := (bt_n (bt x5 b))) d_Mo_proves_86 (bt_shas x5 (by omega)) ?_
                refine bj_iconst (v := (nI 1)) d_Mo_proves_87 (by decide) ?_
                refine bj_icmp_ne (tgt := 93) d_Mo_proves_88 (by decide) (fun h88 => ?_) (fun h88 => ?_)
                · have hrg := (set_rg (x := x5) hN).mp ⟨h58, h69⟩
                  have hfst : 0 ≤ x3 ∧ (x3 = 0 → x4 = 0) ∧ (¬ x3 = 0 → wy (fun a b => nI (psum sg sz rk tm 12 a b)) N a b x3 x4) := by first | exact ⟨by rw [h12]; decide, fun _ => h17, fun q => absurd h12 q⟩ | exact ⟨Int32.le_of_lt (Int32.not_le.mp h29), fun q => absurd q h12, fun _ => hr8.mp (bt_nn h41)⟩
                  have hend : hdk (psum sg sz rk tm 12) N x5 x3 64 ↔ prv (fun a b => nI (psum sg sz rk tm 12 a b)) N a b x3 x4 x5 := by
                    rw [hdk_e hN hp31 hrg hfst.1]
                    exact ⟨fun q => ⟨hfst.1, hfst.2.1, hfst.2.2, bt_nn h78, bfn h88, q⟩, fun q => q.2.2.2.2.2⟩
                  have l1 : ∀ (k : Nat), ∀ (g : Bool), (k ≤ 64) → (g = true ↔ hdk (psum sg sz rk tm 12) N x5 x3 k) → bj_S (bw_G l D c) Y_Mo_proves 4 (0, 0, 0, 0) ad (q_mod true (Rw (prC N (nI a) (nI b)) (prvA (fun a b => nI (psum sg sz rk tm 12 a b)) N (nI a) (nI b) x3 x4 x5)) (mo_st c ad M N se op dw sg sz rk tm) (mo_st c ad M N se op dw sg sz rk tm)) 0 0 99 [some (.ref (ad 80)), some (.int (nI a)), some (.int (nI b)), some (.int x3), some (.int x4), some (.int x5), some (.int (nI 1)), some (.int (bt_n g)), some (.int (nI k))] [] N1 := by
                    intro k g
                    induction hd_l1 : 64 - k using Nat.strongRecOn generalizing k g with
                    | ind d_l1 ih_l1 =>
                      intro hk hg
                      refine bj_iload d_Mo_proves_99 rfl ?_
                      refine bj_bipush (v := (nI 64)) d_Mo_proves_101 (by decide) ?_
                      refine bj_icmp_geN (tgt := 162) d_Mo_proves_103 (by decide) (by first | omega | exact hz31 _ _) (by first | omega | exact hz31 _ _) (fun h103 => ?_) (fun h103 => ?_)
                      · refine bj_iload d_Mo_proves_162 rfl ?_
                        exact bj_iret d_Mo_proves_164 rfl nar_bt (Nat.le_refl _) (Nat.le_refl _) (q_mod0 (Rw_0 hz ⟨a, b, ha, hb9, rfl, rfl, g, rfl, hg.trans ((show k = 64 by omega) ▸ hend)⟩) ⟨⟨⟨_, hm1⟩, hsc1⟩, hfr1⟩)
                      · refine bj_iload d_Mo_proves_106 rfl ?_
                        refine bj_if_eq (tgt := 153) d_Mo_proves_108 (by decide) (fun h108 => ?_) (fun h108 => ?_)
                        · refine bj_iconst (v := (nI 0)) d_Mo_proves_153 (by decide) ?_
                          refine bj_istore (L' := [some (.ref (ad 80)), some (.int (nI a)), some (.int (nI b)), some (.int x3), some (.int x4), some (.int x5), some (.int (nI 1)), some (.int (nI 0)), some (.int (nI k))]) d_Mo_proves_154 (by decide) rfl ?_
                          refine bj_iinc (v := (nI (k + 1))) (L' := [some (.ref (ad 80)), some (.int (nI a)), some (.int (nI b)), some (.int x3), some (.int x4), some (.int x5), some (.int (nI 1)), some (.int (nI 0)), some (.int (nI (k + 1)))]) d_Mo_proves_156 rfl (bj_inc1 _) (by decide) rfl ?_
                          refine bj_goto (tgt := 99) d_Mo_proves_159 (by decide) ?_
                          exact ih_l1 (64 - (k + 1)) (by omega) (k + 1) false rfl (by omega) ⟨fun e => (by cases e), fun q => by first | exact absurd h146 (q k (by omega) (bt_nn h121) (bfn h135)) | (have := hg.mpr (fun j hj => q j (by omega)); rw [this] at h108; exact absurd h108 (by decide))⟩
                        · refine bj_iload d_Mo_proves_111 rfl ?_
                          refine bj_iload d_Mo_proves_113 rfl ?_
                          refine bj_bipush (v := (nI 8)) d_Mo_proves_115 (by decide) ?_
                          refine bj_idiv (v := (nI (k / 8))) d_Mo_proves_117 (by decide) (pk_div (by omega) (by decide) (by decide)) ?_
                          refine bj_ishr (v := (x5 >>> ((nI (k / 8)) &&& 31))) d_Mo_proves_118 rfl ?_
                          refine bj_iconst (v := (nI 1)) d_Mo_proves_119 (by decide) ?_
                          refine bj_iand (v := (bt_n (bt x5 (k / 8)))) d_Mo_proves_120 (bt_shas x5 (by omega)) ?_
                          refine bj_if_eq (tgt := 149) d_Mo_proves_121 (by decide) (fun h121 => ?_) (fun h121 => ?_)
                          · refine bj_iconst (v := (nI 1)) d_Mo_proves_149 (by decide) ?_
                            refine bj_goto (tgt := 154) d_Mo_proves_150 (by decide) ?_
                            refine bj_istore (L' := [some (.ref (ad 80)), some (.int (nI a)), some (.int (nI b)), some (.int x3), some (.int x4), some (.int x5), some (.int (nI 1)), some (.int (nI 1)), some (.int (nI k))]) d_Mo_proves_154 (by decide) rfl ?_
                            refine bj_iinc (v := (nI (k + 1))) (L' := [some (.ref (ad 80)), some (.int (nI a)), some (.int (nI b)), some (.int x3), some (.int x4), some (.int x5), some (.int (nI 1)), some (.int (nI 1)), some (.int (nI (k + 1)))]) d_Mo_proves_156 rfl (bj_inc1 _) (by decide) rfl ?_
                            refine bj_goto (tgt := 99) d_Mo_proves_159 (by decide) ?_
                            exact ih_l1 (64 - (k + 1)) (by omega) (k + 1) true rfl (by omega) ⟨fun _ j hj q1 q2 => by
                              rcases Nat.lt_or_ge j k with q | q
                              · exact hg.mp (bt_nn h108) j q q1 q2
                              · rw [show j = k by omega] at q1 q2 ⊢
                                first | (rw [q1] at h121; exact absurd h121 (by decide)) | (rw [q2] at h135; exact absurd h135 (by decide)) | exact h146, fun _ => rfl⟩
                          · refine bj_iload d_Mo_proves_124 rfl ?_
                            refine bj_iload d_Mo_proves_126 rfl ?_
                            refine bj_bipush (v := (nI 8)) d_Mo_proves_128 (by decide) ?_
                            refine bj_irem (v := (nI (k % 8))) d_Mo_proves_130 (by decide) (pk_rem (by omega) (by decide) (by decide)) ?_
                            refine bj_ishr (v := (x5 >>> ((nI (k % 8)) &&& 31))) d_Mo_proves_131 rfl ?_
                            refine bj_iconst (v := (nI 1)) d_Mo_proves_132 (by decide) ?_
                            refine bj_iand (v := (bt_n (bt x5 (k % 8)))) d_Mo_proves_133 (bt_shas x5 (by omega)) ?_
                            refine bj_iconst (v := (nI 1)) d_Mo_proves_134 (by decide) ?_
                            refine bj_icmp_eq (tgt := 149) d_Mo_proves_135 (by decide) (fun h135 => ?_) (fun h135 => ?_)
                            · refine bj_iconst (v := (nI 1)) d_Mo_proves_149 (by decide) ?_
                              refine bj_goto (tgt := 154) d_Mo_proves_150 (by decide) ?_
                              refine bj_istore (L' := [some (.ref (ad 80)), some (.int (nI a)), some (.int (nI b)), some (.int x3), some (.int x4), some (.int x5), some (.int (nI 1)), some (.int (nI 1)), some (.int (nI k))]) d_Mo_proves_154 (by decide) rfl ?_
                              refine bj_iinc (v := (nI (k + 1))) (L' := [some (.ref (ad 80)), some (.int (nI a)), some (.int (nI b)), some (.int x3), some (.int x4), some (.int x5), some (.int (nI 1)), some (.int (nI 1)), some (.int (nI (k + 1)))]) d_Mo_proves_156 rfl (bj_inc1 _) (by decide) rfl ?_
                              refine bj_goto (tgt := 99) d_Mo_proves_159 (by decide) ?_
                              exact ih_l1 (64 - (k + 1)) (by omega) (k + 1) true rfl (by omega) ⟨fun _ j hj q1 q2 => by
                                rcases Nat.lt_or_ge j k with q | q
                                · exact hg.mp (bt_nn h108) j q q1 q2
                                · rw [show j = k by omega] at q1 q2 ⊢
                                  first | (rw [q1] at h121; exact absurd h121 (by decide)) | (rw [q2] at h135; exact absurd h135 (by decide)) | exact h146, fun _ => rfl⟩
                            · refine bj_aload_n d_Mo_proves_138 rfl rfl ?_
                              refine bj_get d_Mo_proves_139 in_Mo rfl (by decide : 10 < 17) wf_Mo_28 rfl hm1.1 rfl ?_
                              refine bj_iload d_Mo_proves_142 rfl ?_
                              refine bv_iald d_Mo_proves_144 0 rfl hcn.2 (by omega) (by first | omega | exact hz31 _ _) rfl ?_
                              refine bj_iload_n d_Mo_proves_145 rfl rfl ?_
                              refine bj_icmp_gt (tgt := 153) d_Mo_proves_146 (by decide) (fun h146 => ?_) (fun h146 => ?_)
                              · refine bj_iconst (v := (nI 0)) d_Mo_proves_153 (by decide) ?_
                                refine bj_istore (L' := [some (.ref (ad 80)), some (.int (nI a)), some (.int (nI b)), some (.int x3), some (.int x4), some (.int x5), some (.int (nI 1)), some (.int (nI 0)), some (.int (nI k))]) d_Mo_proves_154 (by decide) rfl ?_
                                refine bj_iinc (v := (nI (k + 1))) (L' := [some (.ref (ad 80)), some (.int (nI a)), some (.int (nI b)), some (.int x3), some (.int x4), some (.int x5), some (.int (nI 1)), some (.int (nI 0)), some (.int (nI (k + 1)))]) d_Mo_proves_156 rfl (bj_inc1 _) (by decide) rfl ?_
                                refine bj_goto (tgt := 99) d_Mo_proves_159 (by decide) ?_
                                exact ih_l1 (64 - (k + 1)) (by omega) (k + 1) false rfl (by omega) ⟨fun e => (by cases e), fun q => by first | exact absurd h146 (q k (by omega) (bt_nn h121) (bfn h135)) | (have := hg.mpr (fun j hj => q j (by omega)); rw [this] at h108; exact absurd h108 (by decide))⟩
                              · refine bj_iconst (v := (nI 1)) d_Mo_proves_149 (by decide) ?_
                                refine bj_goto (tgt := 154) d_Mo_proves_150 (by decide) ?_
                                refine bj_istore (L' := [some (.ref (ad 80)), some (.int (nI a)), some (.int (nI b)), some (.int x3), some (.int x4), some (.int x5), some (.int (nI 1)), some (.int (nI 1)), some (.int (nI k))]) d_Mo_proves_154 (by decide) rfl ?_
                                refine bj_iinc (v := (nI (k + 1))) (L' := [some (.ref (ad 80)), some (.int (nI a)), some (.int (nI b)), some (.int x3), some (.int x4), some (.int x5), some (.int (nI 1)), some (.int (nI 1)), some (.int (nI (k + 1)))]) d_Mo_proves_156 rfl (bj_inc1 _) (by decide) rfl ?_
                                refine bj_goto (tgt := 99) d_Mo_proves_159 (by decide) ?_
                                exact ih_l1 (64 - (k + 1)) (by omega) (k + 1) true rfl (by omega) ⟨fun _ j hj q1 q2 => by
                                  rcases Nat.lt_or_ge j k with q | q
                                  · exact hg.mp (bt_nn h108) j q q1 q2
                                  · rw [show j = k by omega] at q1 q2 ⊢
                                    first | (rw [q1] at h121; exact absurd h121 (by decide)) | (rw [q2] at h135; exact absurd h135 (by decide)) | exact h146, fun _ => rfl⟩
                  refine bj_iconst (v := (nI 1)) d_Mo_proves_93 (by decide) ?_
                  refine bj_istore (L' := [some (.ref (ad 80)), some (.int (nI a)), some (.int (nI b)), some (.int x3), some (.int x4), some (.int x5), some (.int (nI 1)), some (.int (nI 1)), none]) d_Mo_proves_94 (by decide) rfl ?_
                  refine bj_iconst (v := (nI 0)) d_Mo_proves_96 (by decide) ?_
                  refine bj_istore (L' := [some (.ref (ad 80)), some (.int (nI a)), some (.int (nI b)), some (.int x3), some (.int x4), some (.int x5), some (.int (nI 1)), some (.int (nI 1)), some (.int (nI 0))]) d_Mo_proves_97 (by decide) rfl ?_
                  exact l1 0 true (Nat.zero_le _) ⟨fun _ j hj => absurd hj (Nat.not_lt_zero _), fun _ => rfl⟩
                · refine bj_iconst (v := (nI 0)) d_Mo_proves_91 (by decide) ?_
                  exact bj_iret d_Mo_proves_92 rfl rfl (Nat.le_refl _) (Nat.le_refl _) (q_mod0 (Rw_0 hz (prvA_f ha hb9 (fun q => by obtain ⟨q1, q2, q3, q4, q5, q6⟩ := q; first | exact h17 (q2 h12) | exact h12 (Int32.le_antisymm h29 q1) | (have q7 := hr8.mpr (q3 h12); rw [q7] at h41; exact absurd h41 (by decide)) | exact ((set_rg hN).mpr q6.1).1 h58 | exact ((set_rg hN).mpr q6.1).2 h69 | (rw [q4] at h78; exact absurd h78 (by decide)) | (rw [q5] at h88; exact absurd h88 (by decide))))) ⟨⟨⟨_, hm1⟩, hsc1⟩, hfr1⟩)
    · refine bj_iload d_Mo_proves_15 rfl ?_
      refine bj_if_ne (tgt := 24) d_Mo_proves_17 (by decide) (fun h17 => ?_) (fun h17 => ?_)
      · refine bj_iconst (v := (nI 0)) d_Mo_proves_24 (by decide) ?_
        refine bj_goto (tgt := 49) d_Mo_proves_25 (by decide) ?_
        refine bj_istore (L' := [some (.ref (ad 80)), some (.int (nI a)), some (.int (nI b)), some (.int x3), some (.int x4), some (.int x5), some (.int (nI 0)), none, none]) d_Mo_proves_49 (by decide) rfl ?_
        refine bj_iload d_Mo_proves_51 rfl ?_
        refine bj_if_eqN (tgt := 91) d_Mo_proves_53 (by decide) (by decide) (fun _ => ?_) (fun h => absurd rfl h)
        refine bj_iconst (v := (nI 0)) d_Mo_proves_91 (by decide) ?_
        exact bj_iret d_Mo_proves_92 rfl rfl (Nat.le_refl _) (Nat.le_refl _) (q_mod0 (Rw_0 hz (prvA_f ha hb9 (fun q => by obtain ⟨q1, q2, q3, q4, q5, q6⟩ := q; first | exact h17 (q2 h12) | exact h12 (Int32.le_antisymm h29 q1) | (have q7 := hr8.mpr (q3 h12); rw [q7] at h41; exact absurd h41 (by decide)) | exact ((set_rg hN).mpr q6.1).1 h58 | exact ((set_rg hN).mpr q6.1).2 h69 | (rw [q4] at h78; exact absurd h78 (by decide)) | (rw [q5] at h88; exact absurd h88 (by decide))))) ⟨⟨⟨_, hm1⟩, hsc1⟩, hfr1⟩)
      · refine bj_iconst (v := (nI 1)) d_Mo_proves_20 (by decide) ?_
        refine bj_goto (tgt := 49) d_Mo_proves_21 (by decide) ?_
        refine bj_istore (L' := [some (.ref (ad 80)), some (.int (nI a)), some (.int (nI b)), some (.int x3), some (.int x4), some (.int x5), some (.int (nI 1)), none, none]) d_Mo_proves_49 (by decide) rfl ?_
        refine bj_iload d_Mo_proves_51 rfl ?_
        refine bj_if_eqN (tgt := 91) d_Mo_proves_53 (by decide) (by decide) (fun h => absurd h (by decide)) (fun _ => ?_)
        refine bj_iload d_Mo_proves_56 rfl ?_
        refine bj_if_lt (tgt := 91) d_Mo_proves_58 (by decide) (fun h58 => ?_) (fun h58 => ?_)
        · refine bj_iconst (v := (nI 0)) d_Mo_proves_91 (by decide) ?_
          exact bj_iret d_Mo_proves_92 rfl rfl (Nat.le_refl _) (Nat.le_refl _) (q_mod0 (Rw_0 hz (prvA_f ha hb9 (fun q => by obtain ⟨q1, q2, q3, q4, q5, q6⟩ := q; first | exact h17 (q2 h12) | exact h12 (Int32.le_antisymm h29 q1) | (have q7 := hr8.mpr (q3 h12); rw [q7] at h41; exact absurd h41 (by decide)) | exact ((set_rg hN).mpr q6.1).1 h58 | exact ((set_rg hN).mpr q6.1).2 h69 | (rw [q4] at h78; exact absurd h78 (by decide)) | (rw [q5] at h88; exact absurd h88 (by decide))))) ⟨⟨⟨_, hm1⟩, hsc1⟩, hfr1⟩)
        · refine bj_iload d_Mo_proves_61 rfl ?_
          refine bj_iconst (v := (nI 1)) d_Mo_proves_63 (by decide) ?_
          refine bj_aload_n d_Mo_proves_64 rfl rfl ?_
          refine bj_get d_Mo_proves_65 in_Mo rfl (by decide : 0 < 17) wf_Mo_47 rfl hm1.1 rfl ?_
          refine bj_ishl (v := ((nI 1) <<< ((nI N) &&& 31))) d_Mo_proves_68 rfl ?_
          refine bj_icmp_ge (tgt := 91) d_Mo_proves_69 (by decide) (fun h69 => ?_) (fun h69 => ?_)
          · refine bj_iconst (v := (nI 0)) d_Mo_proves_91 (by decide) ?_
            exact bj_iret d_Mo_proves_92 rfl rfl (Nat.le_refl _) (Nat.le_refl _) (q_mod0 (Rw_0 hz (prvA_f ha hb9 (fun q => by obtain ⟨q1, q2, q3, q4, q5, q6⟩ := q; first | exact h17 (q2 h12) | exact h12 (Int32.le_antisymm h29 q1) | (have q7 := hr8.mpr (q3 h12); rw [q7] at h41; exact absurd h41 (by decide)) | exact ((set_rg hN).mpr q6.1).1 h58 | exact ((set_rg hN).mpr q6.1).2 h69 | (rw [q4] at h78; exact absurd h78 (by decide)) | (rw [q5] at h88; exact absurd h88 (by decide))))) ⟨⟨⟨_, hm1⟩, hsc1⟩, hfr1⟩)
          · refine bj_iload d_Mo_proves_72 rfl ?_
            refine bj_iload_n d_Mo_proves_74 rfl rfl ?_
            refine bj_ishr (v := (x5 >>> ((nI a) &&& 31))) d_Mo_proves_75 rfl ?_
            refine bj_iconst (v := (nI 1)) d_Mo_proves_76 (by decide) ?_
            refine bj_iand (v := (bt_n (bt x5 a))) d_Mo_proves_77 (bt_shas x5 (by omega)) ?_
            refine bj_if_eq (tgt := 91) d_Mo_proves_78 (by decide) (fun h78 => ?_) (fun h78 => ?_)
            · refine bj_iconst (v := (nI 0)) d_Mo_proves_91 (by decide) ?_
              exact bj_iret d_Mo_proves_92 rfl rfl (Nat.le_refl _) (Nat.le_refl _) (q_mod0 (Rw_0 hz (prvA_f ha hb9 (fun q => by obtain ⟨q1, q2, q3, q4, q5, q6⟩ := q; first | exact h17 (q2 h12) | exact h12 (Int32.le_antisymm h29 q1) | (have q7 := hr8.mpr (q3 h12); rw [q7] at h41; exact absurd h41 (by decide)) | exact ((set_rg hN).mpr q6.1).1 h58 | exact ((set_rg hN).mpr q6.1).2 h69 | (rw [q4] at h78; exact absurd h78 (by decide)) | (rw [q5] at h88; exact absurd h88 (by decide))))) ⟨⟨⟨_, hm1⟩, hsc1⟩, hfr1⟩)
            · refine bj_iload d_Mo_proves_81 rfl ?_
              refine bj_iload_n d_Mo_proves_83 rfl rfl ?_
              refine bj_ishr (v := (x5 >>> ((nI b) &&& 31))) d_Mo_proves_84 rfl ?_
              refine bj_iconst (v := (nI 1)) d_Mo_proves_85 (by decide) ?_
              refine bj_iand (v := (bt_n (bt x5 b))) d_Mo_proves_86 (bt_shas x5 (by omega)) ?_
              refine bj_iconst (v := (nI 1)) d_Mo_proves_87 (by decide) ?_
              refine bj_icmp_ne (tgt := 93) d_Mo_proves_88 (by decide) (fun h88 => ?_) (fun h88 => ?_)
              · have hrg := (set_rg (x := x5) hN).mp ⟨h58, h69⟩
                have hfst : 0 ≤ x3 ∧ (x3 = 0 → x4 = 0) ∧ (¬ x3 = 0 → wy (fun a b => nI (psum sg sz rk tm 12 a b)) N a b x3 x4) := by first | exact ⟨by rw [h12]; decide, fun _ => h17, fun q => absurd h12 q⟩ | exact ⟨Int32.le_of_lt (Int32.not_le.mp h29), fun q => absurd q h12, fun _ => hr8.mp (bt_nn h41)⟩
                have hend : hdk (psum sg sz rk tm 12) N x5 x3 64 ↔ prv (fun a b => nI (psum sg sz rk tm 12 a b)) N a b x3 x4 x5 := by
                  rw [hdk_e hN hp31 hrg hfst.1]
                  exact ⟨fun q => ⟨hfst.1, hfst.2.1, hfst.2.2, bt_nn h78, bfn h88, q⟩, fun q => q.2.2.2.2.2⟩
                have l1 : ∀ (k : Nat), ∀ (g : Bool), (k ≤ 64) → (g = true ↔ hdk (psum sg sz rk tm 12) N x5 x3 k) → bj_S (bw_G l D c) Y_Mo_proves 4 (0, 0, 0, 0) ad (q_mod true (Rw (prC N (nI a) (nI b)) (prvA (fun a b => nI (psum sg sz rk tm 12 a b)) N (nI a) (nI b) x3 x4 x5)) (mo_st c ad M N se op dw sg sz rk tm) (mo_st c ad M N se op dw sg sz rk tm)) 0 0 99 [some (.ref (ad 80)), some (.int (nI a)), some (.int (nI b)), some (.int x3), some (.int x4), some (.int x5), some (.int (nI 1)), some (.int (bt_n g)), some (.int (nI k))] [] N1 := by
                  intro k g
                  induction hd_l1 : 64 - k using Nat.strongRecOn generalizing k g with
                  | ind d_l1 ih_l1 =>
                    intro hk hg
                    refine bj_iload d_Mo_proves_99 rfl ?_
                    refine bj_bipush (v := (nI 64)) d_Mo_proves_101 (by decide) ?_
                    refine bj_icmp_geN (tgt := 162) d_Mo_proves_103 (by decide) (by first | omega | exact hz31 _ _) (by first | omega | exact hz31 _ _) (fun h103 => ?_) (fun h103 => ?_)
                    · refine bj_iload d_Mo_proves_162 rfl ?_
                      exact bj_iret d_Mo_proves_164 rfl nar_bt (Nat.le_refl _) (Nat.le_refl _) (q_mod0 (Rw_0 hz ⟨a, b, ha, hb9, rfl, rfl, g, rfl, hg.trans ((show k = 64 by omega) ▸ hend)⟩) ⟨⟨⟨_, hm1⟩, hsc1⟩, hfr1⟩)
                    · refine bj_iload d_Mo_proves_106 rfl ?_
                      refine bj_if_eq (tgt := 153) d_Mo_proves_108 (by decide) (fun h108 => ?_) (fun h108 => ?_)
                      · refine bj_iconst (v := (nI 0)) d_Mo_proves_153 (by decide) ?_
                        refine bj_istore (L' := [some (.ref (ad 80)), some (.int (nI a)), some (.int (nI b)), some (.int x3), some (.int x4), some (.int x5), some (.int (nI 1)), some (.int (nI 0)), some (.int (nI k))]) d_Mo_proves_154 (by decide) rfl ?_
                        refine bj_iinc (v := (nI (k + 1))) (L' := [some (.ref (ad 80)), some (.int (nI a)), some (.int (nI b)), some (.int x3), some (.int x4), some (.int x5), some (.int (nI 1)), some (.int (nI 0)), some (.int (nI (k + 1)))]) d_Mo_proves_156 rfl (bj_inc1 _) (by decide) rfl ?_
                        refine bj_goto (tgt := 99) d_Mo_proves_159 (by decide) ?_
                        exact ih_l1 (64 - (k + 1)) (by omega) (k + 1) false rfl (by omega) ⟨fun e => (by cases e), fun q => by first | exact absurd h146 (q k (by omega) (bt_nn h121) (bfn h135)) | (have := hg.mpr (fun j hj => q j (by omega)); rw [this] at h108; exact absurd h108 (by decide))⟩
                      · refine bj_iload d_Mo_proves_111 rfl ?_
                        refine bj_iload d_Mo_proves_113 rfl ?_
                        refine bj_bipush (v := (nI 8)) d_Mo_proves_115 (by decide) ?_
                        refine bj_idiv (v := (nI (k / 8))) d_Mo_proves_117 (by decide) (pk_div (by omega) (by decide) (by decide)) ?_
                        refine bj_ishr (v := (x5 >>> ((nI (k / 8)) &&& 31))) d_Mo_proves_118 rfl ?_
                        refine bj_iconst (v := (nI 1)) d_Mo_proves_119 (by decide) ?_
                        refine bj_iand (v := (bt_n (bt x5 (k / 8)))) d_Mo_proves_120 (bt_shas x5 (by omega)) ?_
                        refine bj_if_eq (tgt := 149) d_Mo_proves_121 (by decide) (fun h121 => ?_) (fun h121 => ?_)
                        · refine bj_iconst (v := (nI 1)) d_Mo_proves_149 (by decide) ?_
                          refine bj_goto (tgt := 154) d_Mo_proves_150 (by decide) ?_
                          refine bj_istore (L' := [some (.ref (ad 80)), some (.int (nI a)), some (.int (nI b)), some (.int x3), some (.int x4), some (.int x5), some (.int (nI 1)), some (.int (nI 1)), some (.int (nI k))]) d_Mo_proves_154 (by decide) rfl ?_
                          refine bj_iinc (v := (nI (k + 1))) (L' := [some (.ref (ad 80)), some (.int (nI a)), some (.int (nI b)), some (.int x3), some (.int x4), some (.int x5), some (.int (nI 1)), some (.int (nI 1)), some (.int (nI (k + 1)))]) d_Mo_proves_156 rfl (bj_inc1 _) (by decide) rfl ?_
                          refine bj_goto (tgt := 99) d_Mo_proves_159 (by decide) ?_
                          exact ih_l1 (64 - (k + 1)) (by omega) (k + 1) true rfl (by omega) ⟨fun _ j hj q1 q2 => by
                            rcases Nat.lt_or_ge j k with q | q
                            · exact hg.mp (bt_nn h108) j q q1 q2
                            · rw [show j = k by omega] at q1 q2 ⊢
                              first | (rw [q1] at h121; exact absurd h121 (by decide)) | (rw [q2] at h135; exact absurd h135 (by decide)) | exact h146, fun _ => rfl⟩
                        · refine bj_iload d_Mo_proves_124 rfl ?_
                          refine bj_iload d_Mo_proves_126 rfl ?_
                          refine bj_bipush (v := (nI 8)) d_Mo_proves_128 (by decide) ?_
                          refine bj_irem (v := (nI (k % 8))) d_Mo_proves_130 (by decide) (pk_rem (by omega) (by decide) (by decide)) ?_
                          refine bj_ishr (v := (x5 >>> ((nI (k % 8)) &&& 31))) d_Mo_proves_131 rfl ?_
                          refine bj_iconst (v := (nI 1)) d_Mo_proves_132 (by decide) ?_
                          refine bj_iand (v := (bt_n (bt x5 (k % 8)))) d_Mo_proves_133 (bt_shas x5 (by omega)) ?_
                          refine bj_iconst (v := (nI 1)) d_Mo_proves_134 (by decide) ?_
                          refine bj_icmp_eq (tgt := 149) d_Mo_proves_135 (by decide) (fun h135 => ?_) (fun h135 => ?_)
                          · refine bj_iconst (v := (nI 1)) d_Mo_proves_149 (by decide) ?_
                            refine bj_goto (tgt := 154) d_Mo_proves_150 (by decide) ?_
                            refine bj_istore (L' := [some (.ref (ad 80)), some (.int (nI a)), some (.int (nI b)), some (.int x3), some (.int x4), some (.int x5), some (.int (nI 1)), some (.int (nI 1)), some (.int (nI k))]) d_Mo_proves_154 (by decide) rfl ?_
                            refine bj_iinc (v := (nI (k + 1))) (L' := [some (.ref (ad 80)), some (.int (nI a)), some (.int (nI b)), some (.int x3), some (.int x4), some (.int x5), some (.int (nI 1)), some (.int (nI 1)), some (.int (nI (k + 1)))]) d_Mo_proves_156 rfl (bj_inc1 _) (by decide) rfl ?_
                            refine bj_goto (tgt := 99) d_Mo_proves_159 (by decide) ?_
                            exact ih_l1 (64 - (k + 1)) (by omega) (k + 1) true rfl (by omega) ⟨fun _ j hj q1 q2 => by
                              rcases Nat.lt_or_ge j k with q | q
                              · exact hg.mp (bt_nn h108) j q q1 q2
                              · rw [show j = k by omega] at q1 q2 ⊢
                                first | (rw [q1] at h121; exact absurd h121 (by decide)) | (rw [q2] at h135; exact absurd h135 (by decide)) | exact h146, fun _ => rfl⟩
                          · refine bj_aload_n d_Mo_proves_138 rfl rfl ?_
                            refine bj_get d_Mo_proves_139 in_Mo rfl (by decide : 10 < 17) wf_Mo_28 rfl hm1.1 rfl ?_
                            refine bj_iload d_Mo_proves_142 rfl ?_
                            refine bv_iald d_Mo_proves_144 0 rfl hcn.2 (by omega) (by first | omega | exact hz31 _ _) rfl ?_
                            refine bj_iload_n d_Mo_proves_145 rfl rfl ?_
                            refine bj_icmp_gt (tgt := 153) d_Mo_proves_146 (by decide) (fun h146 => ?_) (fun h146 => ?_)
                            · refine bj_iconst (v := (nI 0)) d_Mo_proves_153 (by decide) ?_
                              refine bj_istore (L' := [some (.ref (ad 80)), some (.int (nI a)), some (.int (nI b)), some (.int x3), some (.int x4), some (.int x5), some (.int (nI 1)), some (.int (nI 0)), some (.int (nI k))]) d_Mo_proves_154 (by decide) rfl ?_
                              refine bj_iinc (v := (nI (k + 1))) (L' := [some (.ref (ad 80)), some (.int (nI a)), some (.int (nI b)), some (.int x3), some (.int x4), some (.int x5), some (.int (nI 1)), some (.int (nI 0)), some (.int (nI (k + 1)))]) d_Mo_proves_156 rfl (bj_inc1 _) (by decide) rfl ?_
                              refine bj_goto (tgt := 99) d_Mo_proves_159 (by decide) ?_
                              exact ih_l1 (64 - (k + 1)) (by omega) (k + 1) false rfl (by omega) ⟨fun e => (by cases e), fun q => by first | exact absurd h146 (q k (by omega) (bt_nn h121) (bfn h135)) | (have := hg.mpr (fun j hj => q j (by omega)); rw [this] at h108; exact absurd h108 (by decide))⟩
                            · refine bj_iconst (v := (nI 1)) d_Mo_proves_149 (by decide) ?_
                              refine bj_goto (tgt := 154) d_Mo_proves_150 (by decide) ?_
                              refine bj_istore (L' := [some (.ref (ad 80)), some (.int (nI a)), some (.int (nI b)), some (.int x3), some (.int x4), some (.int x5), some (.int (nI 1)), some (.int (nI 1)), some (.int (nI k))]) d_Mo_proves_154 (by decide) rfl ?_
                              refine bj_iinc (v := (nI (k + 1))) (L' := [some (.ref (ad 80)), some (.int (nI a)), some (.int (nI b)), some (.int x3), some (.int x4), some (.int x5), some (.int (nI 1)), some (.int (nI 1)), some (.int (nI (k + 1)))]) d_Mo_proves_156 rfl (bj_inc1 _) (by decide) rfl ?_
                              refine bj_goto (tgt := 99) d_Mo_proves_159 (by decide) ?_
                              exact ih_l1 (64 - (k + 1)) (by omega) (k + 1) true rfl (by omega) ⟨fun _ j hj q1 q2 => by
                                rcases Nat.lt_or_ge j k with q | q
                                · exact hg.mp (bt_nn h108) j q q1 q2
                                · rw [show j = k by omega] at q1 q2 ⊢
                                  first | (rw [q1] at h121; exact absurd h121 (by decide)) | (rw [q2] at h135; exact absurd h135 (by decide)) | exact h146, fun _ => rfl⟩
                refine bj_iconst (v := (nI 1)) d_Mo_proves_93 (by decide) ?_
                refine bj_istore (L' := [some (.ref (ad 80)), some (.int (nI a)), some (.int (nI b)), some (.int x3), some (.int x4), some (.int x5), some (.int (nI 1)), some (.int (nI 1)), none]) d_Mo_proves_94 (by decide) rfl ?_
                refine bj_iconst (v := (nI 0)) d_Mo_proves_96 (by decide) ?_
                refine bj_istore (L' := [some (.ref (ad 80)), some (.int (nI a)), some (.int (nI b)), some (.int x3), some (.int x4), some (.int x5), some (.int (nI 1)), some (.int (nI 1)), some (.int (nI 0))]) d_Mo_proves_97 (by decide) rfl ?_
                exact l1 0 true (Nat.zero_le _) ⟨fun _ j hj => absurd hj (Nat.not_lt_zero _), fun _ => rfl⟩
              · refine bj_iconst (v := (nI 0)) d_Mo_proves_91 (by decide) ?_
                exact bj_iret d_Mo_proves_92 rfl rfl (Nat.le_refl _) (Nat.le_refl _) (q_mod0 (Rw_0 hz (prvA_f ha hb9 (fun q => by obtain ⟨q1, q2, q3, q4, q5, q6⟩ := q; first | exact h17 (q2 h12) | exact h12 (Int32.le_antisymm h29 q1) | (have q7 := hr8.mpr (q3 h12); rw [q7] at h41; exact absurd h41 (by decide)) | exact ((set_rg hN).mpr q6.1).1 h58 | exact ((set_rg hN).mpr q6.1).2 h69 | (rw [q4] at h78; exact absurd h78 (by decide)) | (rw [q5] at h88; exact absurd h88 (by decide))))) ⟨⟨⟨_, hm1⟩, hsc1⟩, hfr1⟩)
end M5
