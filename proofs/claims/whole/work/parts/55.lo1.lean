/-! Locks: overtakes, insert, sortPairs (walks by gen/m_lo1.py) -/
section L1

/-- the locks: who is locked over each, to whom each leads, the pairs -/
def lo_ok (c : Nat → ClassId) (ad : Nat → Nat) (M : bj_M) (k N : Nat) (lo co U V : Nat → Int32) (pn : Nat) : Prop := M k = some (.inr (3, [.int (nI N), .ref (ad (k + 1)), .ref (ad (k + 2)), .ref (ad (k + 3)), .ref (ad (k + 4)), .int (nI pn)])) ∧ bv_I (c 0) M (k + 1) N lo ∧ bv_I (c 0) M (k + 2) N co ∧ bv_I (c 0) M (k + 3) (N * N) U ∧ bv_I (c 0) M (k + 4) (N * N) V
def lo_fr (k : Nat) (M M' : bj_M) : Prop := ∀ q, ¬ (k ≤ q ∧ q < k + 5) → M' q = M q
theorem lo_fr.rf {k : Nat} {M : bj_M} : lo_fr k M M := fun _ _ => rfl
theorem lo_fr.tr {k : Nat} {M M' M'' : bj_M} (h : lo_fr k M M') (h' : lo_fr k M' M'') : lo_fr k M M'' := fun q hq => (h' q hq).trans (h q hq)
theorem lo_fr.at {k j : Nat} {M M' M'' : bj_M} (h : lo_fr k M M') (hj : k ≤ j ∧ j < k + 5) (ho : ∀ q, q ≠ j → M'' q = M' q) : lo_fr k M M'' := fun q hq => (ho q (fun e => hq (by rw [e]; exact hj))).trans (h q hq)
section V
variable {c : Nat → ClassId} {ad : Nat → Nat} {M M' : bj_M} {k N pn : Nat} {lo co U V g : Nat → Int32}
theorem lo_ok.in (h : lo_ok c ad M k N lo co U V pn) (e : ∀ q, k ≤ q → q < k + 5 → M' q = M q) : lo_ok c ad M' k N lo co U V pn := ⟨(e k (by omega) (by omega)).trans h.1, h.2.1.in (e _ (by omega) (by omega)), h.2.2.1.in (e _ (by omega) (by omega)), h.2.2.2.1.in (e _ (by omega) (by omega)), h.2.2.2.2.in (e _ (by omega) (by omega))⟩
theorem lo_ok.p1 (h : lo_ok c ad M k N lo co U V pn) (hr : bv_I (c 0) M' (k + 1) N g) (ho : ∀ q, q ≠ k + 1 → M' q = M q) : lo_ok c ad M' k N g co U V pn := ⟨(ho k (by omega)).trans h.1, hr, h.2.2.1.in (ho _ (by omega)), h.2.2.2.1.in (ho _ (by omega)), h.2.2.2.2.in (ho _ (by omega))⟩
theorem lo_ok.p2 (h : lo_ok c ad M k N lo co U V pn) (hr : bv_I (c 0) M' (k + 2) N g) (ho : ∀ q, q ≠ k + 2 → M' q = M q) : lo_ok c ad M' k N lo g U V pn := ⟨(ho k (by omega)).trans h.1, h.2.1.in (ho _ (by omega)), hr, h.2.2.2.1.in (ho _ (by omega)), h.2.2.2.2.in (ho _ (by omega))⟩
theorem lo_ok.p3 (h : lo_ok c ad M k N lo co U V pn) (hr : bv_I (c 0) M' (k + 3) (N * N) g) (ho : ∀ q, q ≠ k + 3 → M' q = M q) : lo_ok c ad M' k N lo co g V pn := ⟨(ho k (by omega)).trans h.1, h.2.1.in (ho _ (by omega)), h.2.2.1.in (ho _ (by omega)), hr, h.2.2.2.2.in (ho _ (by omega))⟩
theorem lo_ok.p4 (h : lo_ok c ad M k N lo co U V pn) (hr : bv_I (c 0) M' (k + 4) (N * N) g) (ho : ∀ q, q ≠ k + 4 → M' q = M q) : lo_ok c ad M' k N lo co U g pn := ⟨(ho k (by omega)).trans h.1, h.2.1.in (ho _ (by omega)), h.2.2.1.in (ho _ (by omega)), h.2.2.2.1.in (ho _ (by omega)), hr⟩
theorem lo_ok.p5 (h : lo_ok c ad M k N lo co U V pn) {pn' : Nat} : lo_ok c ad (va_up M k (some (.inr (3, [.int (nI N), .ref (ad (k + 1)), .ref (ad (k + 2)), .ref (ad (k + 3)), .ref (ad (k + 4)), .int (nI pn')])))) k N lo co U V pn' := ⟨va_up_self _ _ _, h.2.1.in (va_up_ne _ _ (by omega)), h.2.2.1.in (va_up_ne _ _ (by omega)), h.2.2.2.1.in (va_up_ne _ _ (by omega)), h.2.2.2.2.in (va_up_ne _ _ (by omega))⟩
end V
/-- the pairs as they stand -/
def lo_e (U V : Nat → Int32) (e : Nat → Nat) (pn : Nat) : Prop := ∀ i, i < pn → U i = nI (e i / 8) ∧ V i = nI (e i % 8)
/-- in the midst of an insertion -/
def lo_m (U V : Nat → Int32) (e : Nat → Nat) (w pn : Nat) : Prop := (∀ i, i < w → U i = nI (e i / 8) ∧ V i = nI (e i % 8)) ∧ ∀ i, w < i → i ≤ pn → U i = nI (e (i - 1) / 8) ∧ V i = nI (e (i - 1) % 8)
theorem lo_m_sh {U V : Nat → Int32} {e : Nat → Nat} {w pn : Nat} (h : lo_m U V e w pn) (hw : 0 < w) (hp : w ≤ pn) : lo_m (va_up U w (U (w - 1))) (va_up V w (V (w - 1))) e (w - 1) pn := by
  refine ⟨fun i hi => ?_, fun i h1 h2 => ?_⟩
  · rw [va_up_ne _ _ (show i ≠ w by omega), va_up_ne _ _ (show i ≠ w by omega)]
    exact h.1 i (by omega)
  · by_cases e9 : i = w
    · subst e9
      rw [va_up_self, va_up_self]
      exact h.1 (i - 1) (by omega)
    · rw [va_up_ne _ _ e9, va_up_ne _ _ e9]
      exact h.2 i (by omega) h2
theorem lo_m_pt {U V : Nat → Int32} {e : Nat → Nat} {w pn a b : Nat} (h : lo_m U V e w pn) (hw : w ≤ pn) (hb : b < 8) : lo_e (va_up U w (nI a)) (va_up V w (nI b)) (so_in e w (8 * a + b)) (pn + 1) := by
  intro i hi
  rcases Nat.lt_trichotomy i w with q | q | q
  · rw [va_up_ne _ _ (show i ≠ w by omega), va_up_ne _ _ (show i ≠ w by omega), so_in_lt q]
    exact h.1 i q
  · subst q
    rw [va_up_self, va_up_self, so_in_eq rfl, show (8 * a + b) / 8 = a by omega, show (8 * a + b) % 8 = b by omega]
    exact ⟨rfl, rfl⟩
  · rw [va_up_ne _ _ (show i ≠ w by omega), va_up_ne _ _ (show i ≠ w by omega), so_in_gt q]
    exact h.2 i q (by omega)
def q_ins (c : Nat → ClassId) (ad : Nat → Nat) (M : bj_M) (k N : Nat) (lo co : Nat → Int32) (p : Nat → Nat → Nat) (e : Nat → Nat) (pn x : Nat) : bj_R → bj_M → Prop := bj_ret (fun r M' => r = none ∧ (∃ U V w, w ≤ pn ∧ (w = 0 ∨ ¬ so_ov p x (e (w - 1))) ∧ (∀ i, w ≤ i → i < pn → so_ov p x (e i)) ∧ lo_ok c ad M' k N lo co U V (pn + 1) ∧ lo_e U V (so_in e w x) (pn + 1)) ∧ lo_fr k M M')
def q_sort (c : Nat → ClassId) (ad : Nat → Nat) (M : bj_M) (k N : Nat) (lo co : Nat → Int32) (p : Nat → Nat → Nat) (ps : Nat → Nat) : bj_R → bj_M → Prop := bj_ret (fun r M' => r = none ∧ (∃ U V e pn, pn ≤ N * N ∧ so_all p ps N e pn ∧ lo_ok c ad M' k N lo co U V pn ∧ lo_e U V e pn) ∧ lo_fr k M M')
variable (l : Launch) (D : va_G) (c : Nat → ClassId) (ad : Nat → Nat) (M : bj_M)
theorem so_ovp {p : Nat → Nat → Nat} {a b y : Nat} (hb : b < 8) : so_ov p (8 * a + b) y ↔ (drn p (y / 8) (y % 8) < drn p a b ∨ (drn p a b = drn p (y / 8) (y % 8) ∧ p b a < p (y % 8) (y / 8))) := by
  unfold so_ov
  rw [show (8 * a + b) / 8 = a by omega, show (8 * a + b) % 8 = b by omega]
theorem nn_lt {N : Nat} (hN : N ≤ 8) : N * N < 2 ^ 31 := Nat.lt_of_le_of_lt (Nat.mul_le_mul hN hN) (by decide)
theorem nn_le {N : Nat} (hN : N ≤ 8) : N * N ≤ 64 := Nat.mul_le_mul hN hN
set_option maxRecDepth 100000 in
set_option maxHeartbeats 4000000 in
/-- overtakes -/
theorem t_Lo_overtakes {k N k2 pn a b w : Nat} {lo co U V : Nat → Int32} {vs : Int32} {P : Nat → Nat → Int32} {p : Nat → Nat → Nat} (h : lo_ok c ad M k N lo co U V pn) (hN : N ≤ 8) (h2 : co_ok c ad M k2 N vs P) (hP : ∀ a b, a < N → b < N → P a b = nI (p a b)) (hp : ∀ a b, a < N → b < N → p a b < 2 ^ 31) {y : Nat} (ha : a < N) (hb : b < N) (hw : w < N * N) (hU : U w = nI (y / 8)) (hV : V w = nI (y % 8)) (hy1 : y / 8 < N) (hy2 : y % 8 < N) : bj_T (bw_G l D c) Y_Lo_overtakes 1 (0, 0, 0, 0) ad (q_b M (so_ov p (8 * a + b) y)) [.ref (ad k), .ref (ad k2), .int (nI a), .int (nI b), .int (nI w)] M := by
  show bj_S _ _ _ _ _ _ 0 0 0 [some (.ref (ad k)), some (.ref (ad k2)), some (.int (nI a)), some (.int (nI b)), some (.int (nI w)), none, none] [] M
  refine bj_aload_n d_Lo_overtakes_0 rfl rfl ?_
  refine bj_iload_n d_Lo_overtakes_1 rfl rfl ?_
  refine bj_iload_n d_Lo_overtakes_2 rfl rfl ?_
  refine bj_cvF sv_Lo_49 d_Lo_overtakes_3 (t_Co_direct l D c ad M h2 hN (by omega) (by omega)) rfl rfl (by decide) (by decide) (by decide) (Nat.le_of_ble_eq_true rfl) rfl h2.1 rfl rfl ?_
  rw [dir_nI hP hp (by omega) (by omega)]
  refine bj_istore (L' := [some (.ref (ad k)), some (.ref (ad k2)), some (.int (nI a)), some (.int (nI b)), some (.int (nI w)), some (.int (nI (drn p a b))), none]) d_Lo_overtakes_6 (by decide) rfl ?_
  refine bj_aload_n d_Lo_overtakes_8 rfl rfl ?_
  refine bj_aload_n d_Lo_overtakes_9 rfl rfl ?_
  refine bj_get d_Lo_overtakes_10 in_Lo rfl (by decide : 3 < 6) wf_Lo_22 rfl h.1 rfl ?_
  refine bj_iload d_Lo_overtakes_13 rfl ?_
  refine bv_iald (v := (nI (y / 8))) d_Lo_overtakes_15 0 rfl h.2.2.2.1 (by omega) (by first | omega | exact drn_lt hp (by omega) (by omega) | exact hp _ _ (by omega) (by omega) | exact nn_lt hN) hU ?_
  refine bj_aload_n d_Lo_overtakes_16 rfl rfl ?_
  refine bj_get d_Lo_overtakes_17 in_Lo rfl (by decide : 4 < 6) wf_Lo_25 rfl h.1 rfl ?_
  refine bj_iload d_Lo_overtakes_20 rfl ?_
  refine bv_iald (v := (nI (y % 8))) d_Lo_overtakes_22 0 rfl h.2.2.2.2 (by omega) (by first | omega | exact drn_lt hp (by omega) (by omega) | exact hp _ _ (by omega) (by omega) | exact nn_lt hN) hV ?_
  refine bj_cvF sv_Lo_49 d_Lo_overtakes_23 (t_Co_direct l D c ad M h2 hN (by omega) (by omega)) rfl rfl (by decide) (by decide) (by decide) (Nat.le_of_ble_eq_true rfl) rfl h2.1 rfl rfl ?_
  rw [dir_nI hP hp (by omega) (by omega)]
  refine bj_istore (L' := [some (.ref (ad k)), some (.ref (ad k2)), some (.int (nI a)), some (.int (nI b)), some (.int (nI w)), some (.int (nI (drn p a b))), some (.int (nI (drn p (y / 8) (y % 8))))]) d_Lo_overtakes_26 (by decide) rfl ?_
  refine bj_iload d_Lo_overtakes_28 rfl ?_
  refine bj_iload d_Lo_overtakes_30 rfl ?_
  refine bj_icmp_eqN (tgt := 48) d_Lo_overtakes_32 (by decide) (by first | omega | exact drn_lt hp (by omega) (by omega) | exact hp _ _ (by omega) (by omega) | exact nn_lt hN) (by first | omega | exact drn_lt hp (by omega) (by omega) | exact hp _ _ (by omega) (by omega) | exact nn_lt hN) (fun h32 => ?_) (fun h32 => ?_)
  · refine bj_aload_n d_Lo_overtakes_48 rfl rfl ?_
    refine bj_getN d_Lo_overtakes_49 in_Co rfl (by decide : 2 < 3) wf_Lo_63 rfl h2.1 rfl ?_
    refine bj_iload_n d_Lo_overtakes_52 rfl rfl ?_
    refine bv_aald d_Lo_overtakes_53 4 rfl rfl h2.2.1 (by omega) (by first | omega | exact drn_lt hp (by omega) (by omega) | exact hp _ _ (by omega) (by omega) | exact nn_lt hN) ?_
    refine bj_iload_n d_Lo_overtakes_54 rfl rfl ?_
    refine bv_iald (v := (nI (p b a))) d_Lo_overtakes_55 0 rfl (h2.2.2 b hb) (by omega) (by first | omega | exact drn_lt hp (by omega) (by omega) | exact hp _ _ (by omega) (by omega) | exact nn_lt hN) (hP b a hb ha) ?_
    refine bj_aload_n d_Lo_overtakes_56 rfl rfl ?_
    refine bj_getN d_Lo_overtakes_57 in_Co rfl (by decide : 2 < 3) wf_Lo_63 rfl h2.1 rfl ?_
    refine bj_aload_n d_Lo_overtakes_60 rfl rfl ?_
    refine bj_get d_Lo_overtakes_61 in_Lo rfl (by decide : 4 < 6) wf_Lo_25 rfl h.1 rfl ?_
    refine bj_iload d_Lo_overtakes_64 rfl ?_
    refine bv_iald (v := (nI (y % 8))) d_Lo_overtakes_66 0 rfl h.2.2.2.2 (by omega) (by first | omega | exact drn_lt hp (by omega) (by omega) | exact hp _ _ (by omega) (by omega) | exact nn_lt hN) hV ?_
    refine bv_aald d_Lo_overtakes_67 4 rfl rfl h2.2.1 (by omega) (by first | omega | exact drn_lt hp (by omega) (by omega) | exact hp _ _ (by omega) (by omega) | exact nn_lt hN) ?_
    refine bj_aload_n d_Lo_overtakes_68 rfl rfl ?_
    refine bj_get d_Lo_overtakes_69 in_Lo rfl (by decide : 3 < 6) wf_Lo_22 rfl h.1 rfl ?_
    refine bj_iload d_Lo_overtakes_72 rfl ?_
    refine bv_iald (v := (nI (y / 8))) d_Lo_overtakes_74 0 rfl h.2.2.2.1 (by omega) (by first | omega | exact drn_lt hp (by omega) (by omega) | exact hp _ _ (by omega) (by omega) | exact nn_lt hN) hU ?_
    refine bv_iald (v := (nI (p (y % 8) (y / 8)))) d_Lo_overtakes_75 0 rfl (h2.2.2 (y % 8) hy2) (by omega) (by first | omega | exact drn_lt hp (by omega) (by omega) | exact hp _ _ (by omega) (by omega) | exact nn_lt hN) (hP _ _ hy2 hy1) ?_
    refine bj_icmp_geN (tgt := 83) d_Lo_overtakes_76 (by decide) (by first | omega | exact drn_lt hp (by omega) (by omega) | exact hp _ _ (by omega) (by omega) | exact nn_lt hN) (by first | omega | exact drn_lt hp (by omega) (by omega) | exact hp _ _ (by omega) (by omega) | exact nn_lt hN) (fun h76 => ?_) (fun h76 => ?_)
    · refine bj_iconst (v := (nI 0)) d_Lo_overtakes_83 (by decide) ?_
      exact bj_iret d_Lo_overtakes_84 rfl rfl (Nat.le_refl _) (Nat.le_refl _) (qb_f (fun q => by have := (so_ovp (show b < 8 by omega)).mp q; omega))
    · refine bj_iconst (v := (nI 1)) d_Lo_overtakes_79 (by decide) ?_
      refine bj_goto (tgt := 84) d_Lo_overtakes_80 (by decide) ?_
      exact bj_iret d_Lo_overtakes_84 rfl rfl (Nat.le_refl _) (Nat.le_refl _) (qb_t ((so_ovp (show b < 8 by omega)).mpr (by omega)))
  · refine bj_iload d_Lo_overtakes_35 rfl ?_
    refine bj_iload d_Lo_overtakes_37 rfl ?_
    refine bj_icmp_leN (tgt := 46) d_Lo_overtakes_39 (by decide) (by first | omega | exact drn_lt hp (by omega) (by omega) | exact hp _ _ (by omega) (by omega) | exact nn_lt hN) (by first | omega | exact drn_lt hp (by omega) (by omega) | exact hp _ _ (by omega) (by omega) | exact nn_lt hN) (fun h39 => ?_) (fun h39 => ?_)
    · refine bj_iconst (v := (nI 0)) d_Lo_overtakes_46 (by decide) ?_
      exact bj_iret d_Lo_overtakes_47 rfl rfl (Nat.le_refl _) (Nat.le_refl _) (qb_f (fun q => by have := (so_ovp (show b < 8 by omega)).mp q; omega))
    · refine bj_iconst (v := (nI 1)) d_Lo_overtakes_42 (by decide) ?_
      refine bj_goto (tgt := 47) d_Lo_overtakes_43 (by decide) ?_
      exact bj_iret d_Lo_overtakes_47 rfl rfl (Nat.le_refl _) (Nat.le_refl _) (qb_t ((so_ovp (show b < 8 by omega)).mpr (by omega)))
set_option maxRecDepth 100000 in
set_option maxHeartbeats 4000000 in
/-- insert -/
theorem t_Lo_insert {k N k2 pn a b : Nat} {lo co U V : Nat → Int32} {vs : Int32} {P : Nat → Nat → Int32} {p : Nat → Nat → Nat} (h : lo_ok c ad M k N lo co U V pn) (hN : N ≤ 8) (h2 : co_ok c ad M k2 N vs P) (hP : ∀ a b, a < N → b < N → P a b = nI (p a b)) (hp : ∀ a b, a < N → b < N → p a b < 2 ^ 31) {e : Nat → Nat} (he : lo_e U V e pn) (hpn : pn < N * N) (heN : ∀ i, i < pn → e i / 8 < N ∧ e i % 8 < N) (ha : a < N) (hb : b < N) (hk : k2 + 10 ≤ k) : bj_T (bw_G l D c) Y_Lo_insert 2 (0, 0, 0, 0) ad (q_ins c ad M k N lo co p e pn (8 * a + b)) [.ref (ad k), .ref (ad k2), .int (nI a), .int (nI b)] M := by
  show bj_S _ _ _ _ _ _ 0 0 0 [some (.ref (ad k)), some (.ref (ad k2)), some (.int (nI a)), some (.int (nI b)), none] [] M
  have hnn := nn_le hN
  refine bj_aload_n d_Lo_insert_0 rfl rfl ?_
  refine bj_get d_Lo_insert_1 in_Lo rfl (by decide : 5 < 6) wf_Lo_28 rfl h.1 rfl ?_
  refine bj_istore (L' := [some (.ref (ad k)), some (.ref (ad k2)), some (.int (nI a)), some (.int (nI b)), some (.int (nI pn))]) d_Lo_insert_4 (by decide) rfl ?_
  have lp : ∀ (w : Nat), ∀ (M2 : bj_M), ∀ (U2 : Nat → Int32), ∀ (V2 : Nat → Int32), (w ≤ pn) → (lo_ok c ad M2 k N lo co U2 V2 pn) → (lo_m U2 V2 e w pn) → (∀ i, w ≤ i → i < pn → so_ov p (8 * a + b) (e i)) → (lo_fr k M M2) → bj_S (bw_G l D c) Y_Lo_insert 2 (0, 0, 0, 0) ad (q_ins c ad M k N lo co p e pn (8 * a + b)) 0 0 6 [some (.ref (ad k)), some (.ref (ad k2)), some (.int (nI a)), some (.int (nI b)), some (.int (nI w))] [] M2 := by
    intro w M2 U2 V2
    induction hd_lp : w + 1 using Nat.strongRecOn generalizing w M2 U2 V2 with
    | ind d_lp ih_lp =>
      intro hw h3 hm ho hf
      have h4 : co_ok c ad M2 k2 N vs P := h2.in (fun q q1 q2 => hf q (by omega))
      refine bj_iload d_Lo_insert_6 rfl ?_
      refine bj_if_leN (tgt := 63) d_Lo_insert_8 (by decide) (by first | omega | exact nn_lt hN) (fun h8 => ?_) (fun h8 => ?_)
      · have hz : w = 0 ∨ ¬ so_ov p (8 * a + b) (e (w - 1)) := Or.inl (by omega)
        refine bj_aload_n d_Lo_insert_63 rfl rfl ?_
        refine bj_get d_Lo_insert_64 in_Lo rfl (by decide : 3 < 6) wf_Lo_22 rfl h3.1 rfl ?_
        refine bj_iload d_Lo_insert_67 rfl ?_
        refine bj_iload_n d_Lo_insert_69 rfl rfl ?_
        refine bv_iast d_Lo_insert_70 0 rfl h3.2.2.2.1 (by omega) (by first | omega | exact nn_lt hN) (fun N1 hN1 hO1 => ?_)
        have h5 := h3.p3 hN1 hO1
        refine bj_aload_n d_Lo_insert_71 rfl rfl ?_
        refine bj_get d_Lo_insert_72 in_Lo rfl (by decide : 4 < 6) wf_Lo_25 rfl h5.1 rfl ?_
        refine bj_iload d_Lo_insert_75 rfl ?_
        refine bj_iload_n d_Lo_insert_77 rfl rfl ?_
        refine bv_iast d_Lo_insert_78 0 rfl h5.2.2.2.2 (by omega) (by first | omega | exact nn_lt hN) (fun N2 hN2 hO2 => ?_)
        have h6 := h5.p4 hN2 hO2
        refine bj_aload_n d_Lo_insert_79 rfl rfl ?_
        refine bj_dup d_Lo_insert_80 rfl ?_
        refine bj_get d_Lo_insert_81 in_Lo rfl (by decide : 5 < 6) wf_Lo_28 rfl h6.1 rfl ?_
        refine bj_iconst (v := (nI 1)) d_Lo_insert_84 (by decide) ?_
        refine bj_iadd (v := (nI (pn + 1))) d_Lo_insert_85 (nI_add _ _) ?_
        refine bj_put d_Lo_insert_86 in_Lo ok_Lo nm_Lo rfl (by decide : 5 < 6) wf_Lo_28 rfl rfl rfl rfl rfl (Nat.le_of_ble_eq_true rfl) h6.1 ?_
        have h7 := h6.p5 (pn' := pn + 1)
        have hf7 : lo_fr k M (va_up N2 k (some (.inr (3, [.int (nI N), .ref (ad (k + 1)), .ref (ad (k + 2)), .ref (ad (k + 3)), .ref (ad (k + 4)), .int (nI (pn + 1))])))) := ((hf.at (by omega) hO1).at (by omega) hO2).at (j := k) (by omega) (fun q hq => va_up_ne _ _ hq)
        show bj_S _ _ _ _ _ _ 0 0 _ _ [] (va_up N2 k (some (.inr (3, [.int (nI N), .ref (ad (k + 1)), .ref (ad (k + 2)), .ref (ad (k + 3)), .ref (ad (k + 4)), .int (nI (pn + 1))]))))
        generalize va_up N2 k (some (.inr (3, [.int (nI N), .ref (ad (k + 1)), .ref (ad (k + 2)), .ref (ad (k + 3)), .ref (ad (k + 4)), .int (nI (pn + 1))]))) = M7 at h7 hf7 ⊢
        exact bj_vret d_Lo_insert_89 rfl (Nat.le_refl _) (Nat.le_refl _) ⟨rfl, ⟨_, _, w, hw, hz, ho, h7, lo_m_pt hm hw (by omega)⟩, hf7⟩
      · refine bj_aload_n d_Lo_insert_11 rfl rfl ?_
        refine bj_aload_n d_Lo_insert_12 rfl rfl ?_
        refine bj_iload_n d_Lo_insert_13 rfl rfl ?_
        refine bj_iload_n d_Lo_insert_14 rfl rfl ?_
        refine bj_iload d_Lo_insert_15 rfl ?_
        refine bj_iconst (v := (nI 1)) d_Lo_insert_17 (by decide) ?_
        refine bj_isub (v := (nI (w - 1))) d_Lo_insert_18 (pk_sub (by omega)) ?_
        have hx1 := heN (w - 1) (by omega)
        refine bj_cvR sv_Lo_59 d_Lo_insert_19 (t_Lo_overtakes l D c ad M2 h3 hN h4 hP hp ha hb (by omega) (hm.1 (w - 1) (by omega)).1 (hm.1 (w - 1) (by omega)).2 hx1.1 hx1.2) rfl rfl (by decide) (by decide) (by decide) (Nat.le_of_ble_eq_true rfl) rfl h3.1 rfl rfl (fun v1 N1 hq1 => ?_)
        obtain ⟨r9, rfl, hr9, rfl⟩ := hq1
        show bj_S (bw_G l D c) Y_Lo_insert 2 (0, 0, 0, 0) ad (q_ins c ad M k N lo co p e pn (8 * a + b)) 0 0 22 [some (.ref (ad k)), some (.ref (ad k2)), some (.int (nI a)), some (.int (nI b)), some (.int (nI w))] [.int (bt_n r9)] N1
        refine bj_if_eq (tgt := 63) d_Lo_insert_22 (by decide) (fun h22 => ?_) (fun h22 => ?_)
        · have hz : w = 0 ∨ ¬ so_ov p (8 * a + b) (e (w - 1)) := Or.inr (fun q => by
            rw [hr9.mpr q] at h22
            exact absurd h22 (by decide))
          refine bj_aload_n d_Lo_insert_63 rfl rfl ?_
          refine bj_get d_Lo_insert_64 in_Lo rfl (by decide : 3 < 6) wf_Lo_22 rfl h3.1 rfl ?_
          refine bj_iload d_Lo_insert_67 rfl ?_
          refine bj_iload_n d_Lo_insert_69 rfl rfl ?_
          refine bv_iast d_Lo_insert_70 0 rfl h3.2.2.2.1 (by omega) (by first | omega | exact nn_lt hN) (fun N1 hN1 hO1 => ?_)
          have h5 := h3.p3 hN1 hO1
          refine bj_aload_n d_Lo_insert_71 rfl rfl ?_
          refine bj_get d_Lo_insert_72 in_Lo rfl (by decide : 4 < 6) wf_Lo_25 rfl h5.1 rfl ?_
          refine bj_iload d_Lo_insert_75 rfl ?_
          refine bj_iload_n d_Lo_insert_77 rfl rfl ?_
          refine bv_iast d_Lo_insert_78 0 rfl h5.2.2.2.2 (by omega) (by first | omega | exact nn_lt hN) (fun N2 hN2 hO2 => ?_)
          have h6 := h5.p4 hN2 hO2
          refine bj_aload_n d_Lo_insert_79 rfl rfl ?_
          refine bj_dup d_Lo_insert_80 rfl ?_
          refine bj_get d_Lo_insert_81 in_Lo rfl (by decide : 5 < 6) wf_Lo_28 rfl h6.1 rfl ?_
          refine bj_iconst (v := (nI 1)) d_Lo_insert_84 (by decide) ?_
          refine bj_iadd (v := (nI (pn + 1))) d_Lo_insert_85 (nI_add _ _) ?_
          refine bj_put d_Lo_insert_86 in_Lo ok_Lo nm_Lo rfl (by decide : 5 < 6) wf_Lo_28 rfl rfl rfl rfl rfl (Nat.le_of_ble_eq_true rfl) h6.1 ?_
          have h7 := h6.p5 (pn' := pn + 1)
          have hf7 : lo_fr k M (va_up N2 k (some (.inr (3, [.int (nI N), .ref (ad (k + 1)), .ref (ad (k + 2)), .ref (ad (k + 3)), .ref (ad (k + 4)), .int (nI (pn + 1))])))) := ((hf.at (by omega) hO1).at (by omega) hO2).at (j := k) (by omega) (fun q hq => va_up_ne _ _ hq)
          show bj_S _ _ _ _ _ _ 0 0 _ _ [] (va_up N2 k (some (.inr (3, [.int (nI N), .ref (ad (k + 1)), .ref (ad (k + 2)), .ref (ad (k + 3)), .ref (ad (k + 4)), .int (nI (pn + 1))]))))
          generalize va_up N2 k (some (.inr (3, [.int (nI N), .ref (ad (k + 1)), .ref (ad (k + 2)), .ref (ad (k + 3)), .ref (ad (k + 4)), .int (nI (pn + 1))]))) = M7 at h7 hf7 ⊢
          exact bj_vret d_Lo_insert_89 rfl (Nat.le_refl _) (Nat.le_refl _) ⟨rfl, ⟨_, _, w, hw, hz, ho, h7, lo_m_pt hm hw (by omega)⟩, hf7⟩
        · have hz := hr9.mp (bt_nn h22)
          refine bj_aload_n d_Lo_insert_25 rfl rfl ?_
          refine bj_get d_Lo_insert_26 in_Lo rfl (by decide : 3 < 6) wf_Lo_22 rfl h3.1 rfl ?_
          refine bj_iload d_Lo_insert_29 rfl ?_
          refine bj_aload_n d_Lo_insert_31 rfl rfl ?_
          refine bj_get d_Lo_insert_32 in_Lo rfl (by decide : 3 < 6) wf_Lo_22 rfl h3.1 rfl ?_
          refine bj_iload d_Lo_insert_35 rfl ?_
          refine bj_iconst (v := (nI 1)) d_Lo_insert_37 (by decide) ?_
          refine bj_isub (v := (nI (w - 1))) d_Lo_insert_38 (pk_sub (by omega)) ?_
          refine bv_iald d_Lo_insert_39 0 rfl h3.2.2.2.1 (by omega) (by first | omega | exact nn_lt hN) rfl ?_
          refine bv_iast d_Lo_insert_40 0 rfl h3.2.2.2.1 (by omega) (by first | omega | exact nn_lt hN) (fun N1 hN1 hO1 => ?_)
          have h5 := h3.p3 hN1 hO1
          refine bj_aload_n d_Lo_insert_41 rfl rfl ?_
          refine bj_get d_Lo_insert_42 in_Lo rfl (by decide : 4 < 6) wf_Lo_25 rfl h5.1 rfl ?_
          refine bj_iload d_Lo_insert_45 rfl ?_
          refine bj_aload_n d_Lo_insert_47 rfl rfl ?_
          refine bj_get d_Lo_insert_48 in_Lo rfl (by decide : 4 < 6) wf_Lo_25 rfl h5.1 rfl ?_
          refine bj_iload d_Lo_insert_51 rfl ?_
          refine bj_iconst (v := (nI 1)) d_Lo_insert_53 (by decide) ?_
          refine bj_isub (v := (nI (w - 1))) d_Lo_insert_54 (pk_sub (by omega)) ?_
          refine bv_iald d_Lo_insert_55 0 rfl h5.2.2.2.2 (by omega) (by first | omega | exact nn_lt hN) rfl ?_
          refine bv_iast d_Lo_insert_56 0 rfl h5.2.2.2.2 (by omega) (by first | omega | exact nn_lt hN) (fun N2 hN2 hO2 => ?_)
          have h6 := h5.p4 hN2 hO2
          refine bj_iinc (v := (nI (w - 1))) (L' := [some (.ref (ad k)), some (.ref (ad k2)), some (.int (nI a)), some (.int (nI b)), some (.int (nI (w - 1)))]) d_Lo_insert_57 rfl (bj_dec1 (by omega)) (by decide) rfl ?_
          refine bj_goto (tgt := 6) d_Lo_insert_60 (by decide) ?_
          exact ih_lp (w - 1 + 1) (by omega) (w - 1) N2 _ _ rfl (by omega) h6 (lo_m_sh hm (by omega) hw) (fun i hi hi2 => by
            rcases Nat.lt_or_ge i w with q | q
            · rw [show i = w - 1 by omega]; exact hz
            · exact ho i q hi2) ((hf.at (by omega) hO1).at (by omega) hO2)
  exact lp pn M U V (Nat.le_refl _) h ⟨he, fun i h1 h2 => by omega⟩ (fun i h1 h2 => by omega) lo_fr.rf
theorem so_to_in {p : Nat → Nat → Nat} {ps dw e : Nat → Nat} {N i0 j0 pn : Nat} (hN : N ≤ 8) (hp : pm_ok N dw ps) (h : so_to p ps dw N i0 j0 e pn) : ∀ t, t < pn → e t / 8 < N ∧ e t % 8 < N := by
  intro t ht
  obtain ⟨i, j, g1, g2, -, g4, g5⟩ := (h.2.2 (e t)).mp ⟨t, ht, rfl⟩
  have a1 := hp.1 i g1
  have a2 := hp.1 j g2
  rw [g5]
  omega
theorem so_to_pn {p : Nat → Nat → Nat} {ps dw e : Nat → Nat} {N i0 j0 pn : Nat} (h : so_to p ps dw N i0 j0 e pn) (hi : i0 < N) (hj : j0 < N) : pn < N * N := by
  have h1 := h.2.1
  have h2 : (i0 + 1) * N ≤ N * N := Nat.mul_le_mul_right _ hi
  rw [Nat.add_mul] at h2
  omega
theorem so_to_le {p : Nat → Nat → Nat} {ps dw e : Nat → Nat} {N pn : Nat} (h : so_to p ps dw N N 0 e pn) : pn ≤ N * N := h.2.1
set_option maxRecDepth 100000 in
set_option maxHeartbeats 4000000 in
/-- sortPairs -/
theorem t_Lo_sortPairs {k N k2 pn kd : Nat} {lo co U V : Nat → Int32} {vs : Int32} {P : Nat → Nat → Int32} {p : Nat → Nat → Nat} (h : lo_ok c ad M k N lo co U V pn) (hN : N ≤ 8) (h2 : co_ok c ad M k2 N vs P) (hP : ∀ a b, a < N → b < N → P a b = nI (p a b)) (hp : ∀ a b, a < N → b < N → p a b < 2 ^ 31) {dw ps : Nat → Nat} (hd : bv_I (c 0) M kd N (fun i => nI (dw i))) (hpm : pm_ok N dw ps) (hk : k2 + 10 ≤ k) (hkd : kd < k) : bj_T (bw_G l D c) Y_Lo_sortPairs 3 (0, 0, 0, 0) ad (q_sort c ad M k N lo co p ps) [.ref (ad k), .ref (ad k2), .ref (ad kd)] M := by
  show bj_S _ _ _ _ _ _ 0 0 0 [some (.ref (ad k)), some (.ref (ad k2)), some (.ref (ad kd)), none, none] [] M
  refine bj_aload_n d_Lo_sortPairs_0 rfl rfl ?_
  refine bj_iconst (v := (nI 0)) d_Lo_sortPairs_1 (by decide) ?_
  refine bj_put d_Lo_sortPairs_2 in_Lo ok_Lo nm_Lo rfl (by decide : 5 < 6) wf_Lo_28 rfl rfl rfl rfl rfl (Nat.le_of_ble_eq_true rfl) h.1 ?_
  have h7 := h.p5 (pn' := 0)
  have hf7 : lo_fr k M (va_up M k (some (.inr (3, [.int (nI N), .ref (ad (k + 1)), .ref (ad (k + 2)), .ref (ad (k + 3)), .ref (ad (k + 4)), .int (nI 0)])))) := lo_fr.rf.at (j := k) (by omega) (fun q hq => va_up_ne _ _ hq)
  show bj_S _ _ _ _ _ _ 0 0 _ _ [] (va_up M k (some (.inr (3, [.int (nI N), .ref (ad (k + 1)), .ref (ad (k + 2)), .ref (ad (k + 3)), .ref (ad (k + 4)), .int (nI 0)]))))
  generalize va_up M k (some (.inr (3, [.int (nI N), .ref (ad (k + 1)), .ref (ad (k + 2)), .ref (ad (k + 3)), .ref (ad (k + 4)), .int (nI 0)]))) = M7 at h7 hf7 ⊢
  refine bj_iconst (v := (nI 0)) d_Lo_sortPairs_5 (by decide) ?_
  refine bj_istore_n (L' := [some (.ref (ad k)), some (.ref (ad k2)), some (.ref (ad kd)), some (.int (nI 0)), none]) d_Lo_sortPairs_6 rfl (by decide) rfl ?_
  have o1 : ∀ (i : Nat), ∀ (M2 : bj_M), ∀ (U2 : Nat → Int32), ∀ (V2 : Nat → Int32), ∀ (e : Nat → Nat), ∀ (pn2 : Nat), ∀ (z : Option Value), (i ≤ N) → (lo_ok c ad M2 k N lo co U2 V2 pn2) → (lo_e U2 V2 e pn2) → (so_to p ps dw N i 0 e pn2) → (lo_fr k M M2) → bj_S (bw_G l D c) Y_Lo_sortPairs 3 (0, 0, 0, 0) ad (q_sort c ad M k N lo co p ps) 0 0 7 [some (.ref (ad k)), some (.ref (ad k2)), some (.ref (ad kd)), some (.int (nI i)), z] [] M2 := by
    intro i M2 U2 V2 e pn2 z
    induction hd_o1 : N - i using Nat.strongRecOn generalizing i M2 U2 V2 e pn2 z with
    | ind d_o1 ih_o1 =>
      intro hi h3 he hs hf
      refine bj_iload_n d_Lo_sortPairs_7 rfl rfl ?_
      refine bj_aload_n d_Lo_sortPairs_8 rfl rfl ?_
      refine bj_get d_Lo_sortPairs_9 in_Lo rfl (by decide : 0 < 6) wf_Lo_9 rfl h3.1 rfl ?_
      refine bj_icmp_geN (tgt := 65) d_Lo_sortPairs_12 (by decide) (by first | omega | exact drn_lt hp (by omega) (by omega)) (by first | omega | exact drn_lt hp (by omega) (by omega)) (fun h12 => ?_) (fun h12 => ?_)
      · exact bj_vret d_Lo_sortPairs_65 rfl (Nat.le_refl _) (Nat.le_refl _) ⟨rfl, ⟨U2, V2, e, pn2, so_to_le ((show i = N by omega) ▸ hs), so_to_end hN hpm ((show i = N by omega) ▸ hs), h3, he⟩, hf⟩
      · have hi9 := h12
        refine bj_iconst (v := (nI 0)) d_Lo_sortPairs_15 (by decide) ?_
        refine bj_istore (L' := [some (.ref (ad k)), some (.ref (ad k2)), some (.ref (ad kd)), some (.int (nI i)), some (.int (nI 0))]) d_Lo_sortPairs_16 (by decide) rfl ?_
        have in1 : ∀ (j : Nat), ∀ (M2 : bj_M), ∀ (U2 : Nat → Int32), ∀ (V2 : Nat → Int32), ∀ (e : Nat → Nat), ∀ (pn2 : Nat), (j ≤ N) → (lo_ok c ad M2 k N lo co U2 V2 pn2) → (lo_e U2 V2 e pn2) → (so_to p ps dw N i j e pn2) → (lo_fr k M M2) → bj_S (bw_G l D c) Y_Lo_sortPairs 3 (0, 0, 0, 0) ad (q_sort c ad M k N lo co p ps) 0 0 18 [some (.ref (ad k)), some (.ref (ad k2)), some (.ref (ad kd)), some (.int (nI i)), some (.int (nI j))] [] M2 := by
          intro j M2 U2 V2 e pn2
          induction hd_in1 : N - j using Nat.strongRecOn generalizing j M2 U2 V2 e pn2 with
          | ind d_in1 ih_in1 =>
            intro hj h3 he hs hf
            have h4 : co_ok c ad M2 k2 N vs P := h2.in (fun q q1 q2 => hf q (by omega))
            have h5 : bv_I (c 0) M2 kd N (fun i => nI (dw i)) := hd.in (hf kd (by omega))
            refine bj_iload d_Lo_sortPairs_18 rfl ?_
            refine bj_aload_n d_Lo_sortPairs_20 rfl rfl ?_
            refine bj_get d_Lo_sortPairs_21 in_Lo rfl (by decide : 0 < 6) wf_Lo_9 rfl h3.1 rfl ?_
            refine bj_icmp_geN (tgt := 59) d_Lo_sortPairs_24 (by decide) (by first | omega | exact drn_lt hp (by omega) (by omega)) (by first | omega | exact drn_lt hp (by omega) (by omega)) (fun h24 => ?_) (fun h24 => ?_)
            · refine bj_iinc (v := (nI (i + 1))) (L' := [some (.ref (ad k)), some (.ref (ad k2)), some (.ref (ad kd)), some (.int (nI (i + 1))), some (.int (nI j))]) d_Lo_sortPairs_59 rfl (bj_inc1 _) (by decide) rfl ?_
              refine bj_goto (tgt := 7) d_Lo_sortPairs_62 (by decide) ?_
              exact ih_o1 (N - (i + 1)) (by omega) (i + 1) M2 U2 V2 e pn2 _ rfl (by omega) h3 he (so_to_row ((show j = N by omega) ▸ hs)) hf
            · have ha := hpm.1 i hi9
              have hb := hpm.1 j h24
              refine bj_aload_n d_Lo_sortPairs_27 rfl rfl ?_
              refine bj_aload_n d_Lo_sortPairs_28 rfl rfl ?_
              refine bj_iload_n d_Lo_sortPairs_29 rfl rfl ?_
              refine bv_iald d_Lo_sortPairs_30 0 rfl h5 (by omega) (by first | omega | exact drn_lt hp (by omega) (by omega)) rfl ?_
              refine bj_aload_n d_Lo_sortPairs_31 rfl rfl ?_
              refine bj_iload d_Lo_sortPairs_32 rfl ?_
              refine bv_iald d_Lo_sortPairs_34 0 rfl h5 (by omega) (by first | omega | exact drn_lt hp (by omega) (by omega)) rfl ?_
              refine bj_cvF sv_Lo_49 d_Lo_sortPairs_35 (t_Co_direct l D c ad M2 h4 hN (by omega) (by omega)) rfl rfl (by decide) (by decide) (by decide) (Nat.le_of_ble_eq_true rfl) rfl h4.1 rfl rfl ?_
              rw [dir_nI hP hp (by omega) (by omega)]
              refine bj_if_leN (tgt := 53) d_Lo_sortPairs_38 (by decide) (by first | omega | exact drn_lt hp (by omega) (by omega)) (fun h38 => ?_) (fun h38 => ?_)
              · refine bj_iinc (v := (nI (j + 1))) (L' := [some (.ref (ad k)), some (.ref (ad k2)), some (.ref (ad kd)), some (.int (nI i)), some (.int (nI (j + 1)))]) d_Lo_sortPairs_53 rfl (bj_inc1 _) (by decide) rfl ?_
                refine bj_goto (tgt := 18) d_Lo_sortPairs_56 (by decide) ?_
                exact ih_in1 (N - (j + 1)) (by omega) (j + 1) M2 U2 V2 e pn2 rfl (by omega) h3 he (so_to_no hs (by omega)) hf
              · refine bj_aload_n d_Lo_sortPairs_41 rfl rfl ?_
                refine bj_aload_n d_Lo_sortPairs_42 rfl rfl ?_
                refine bj_aload_n d_Lo_sortPairs_43 rfl rfl ?_
                refine bj_iload_n d_Lo_sortPairs_44 rfl rfl ?_
                refine bv_iald d_Lo_sortPairs_45 0 rfl h5 (by omega) (by first | omega | exact drn_lt hp (by omega) (by omega)) rfl ?_
                refine bj_aload_n d_Lo_sortPairs_46 rfl rfl ?_
                refine bj_iload d_Lo_sortPairs_47 rfl ?_
                refine bv_iald d_Lo_sortPairs_49 0 rfl h5 (by omega) (by first | omega | exact drn_lt hp (by omega) (by omega)) rfl ?_
                have hx9 := so_to_in hN hpm hs
                have hpn := so_to_pn hs hi9 h24
                refine bj_cvR sv_Lo_55 d_Lo_sortPairs_50 (t_Lo_insert l D c ad M2 h3 hN h4 hP hp he hpn hx9 ha.1 hb.1 hk) rfl rfl (by decide) (by decide) (by decide) (Nat.le_of_ble_eq_true rfl) rfl h3.1 rfl rfl (fun v1 N1 hq1 => ?_)
                obtain ⟨rfl, ⟨U5, V5, w, hw, g1, g2, h8, he8⟩, hf8⟩ := hq1
                show bj_S (bw_G l D c) Y_Lo_sortPairs 3 (0, 0, 0, 0) ad (q_sort c ad M k N lo co p ps) 0 0 53 [some (.ref (ad k)), some (.ref (ad k2)), some (.ref (ad kd)), some (.int (nI i)), some (.int (nI j))] [] N1
                refine bj_iinc (v := (nI (j + 1))) (L' := [some (.ref (ad k)), some (.ref (ad k2)), some (.ref (ad kd)), some (.int (nI i)), some (.int (nI (j + 1)))]) d_Lo_sortPairs_53 rfl (bj_inc1 _) (by decide) rfl ?_
                refine bj_goto (tgt := 18) d_Lo_sortPairs_56 (by decide) ?_
                exact ih_in1 (N - (j + 1)) (by omega) (j + 1) N1 U5 V5 _ _ rfl (by omega) h8 he8 (so_to_yes hN hpm hs hi9 h24 h38 hw g1 g2) (hf.tr hf8)
        have hi9 := h12
        exact in1 0 M2 U2 V2 e pn2 (Nat.zero_le _) h3 he hs hf
  exact o1 0 M7 U V (fun _ => 0) 0 none (Nat.zero_le _) h7 (fun i hi => absurd hi (Nat.not_lt_zero _)) so_to_0 hf7
end L1
