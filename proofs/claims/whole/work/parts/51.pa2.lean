/-! BeatPaths: nextAt, nextTowards, countSteps, strongestWay (walks by gen/m_pa2.py) -/
section P2

theorem pa_ok.in {c : Nat → ClassId} {ad : Nat → Nat} {M M' : bj_M} {k N : Nat} {f : Nat → Nat → Nat} (h : pa_ok c ad M k N f) (e : ∀ q, k ≤ q → q < k + 2 + N → M' q = M q) : pa_ok c ad M' k N f := ⟨(e k (by omega) (by omega)).trans h.1, h.2.1.in (e _ (by omega) (by omega)), fun a ha => (h.2.2.1 a ha).in (e _ (by omega) (by omega)), h.2.2.2⟩
/-- a step not below s -/
def stp (p : Nat → Nat → Nat) (s : Nat) (x y : Nat) : Bool := decide (s ≤ drn p x y)
/-- the steps to b as told -/
def st_ok (c : Nat → ClassId) (M : bj_M) (k N : Nat) (S : Nat → Nat) : Prop := bv_I (c 0) M (k + 10) N (fun i => nI (S i)) ∧ ∀ i, i < N → S i ≤ 8
theorem st_ok.in {c : Nat → ClassId} {M M' : bj_M} {k N : Nat} {S : Nat → Nat} (h : st_ok c M k N S) (e : M' (k + 10) = M (k + 10)) : st_ok c M' k N S := ⟨h.1.in e, h.2⟩
def q_steps (c : Nat → ClassId) (M : bj_M) (k N : Nat) (p : Nat → Nat → Nat) (b s : Nat) : bj_R → bj_M → Prop := bj_ret (fun r M' => r = none ∧ (∃ S, st_ok c M' k N S ∧ mn_ds (stp p s) N b N S) ∧ ∀ q, q ≠ k + 10 → M' q = M q)
/-- the word of the strongest way -/
def q_way (c : Nat → ClassId) (M : bj_M) (k N : Nat) (p : Nat → Nat → Nat) (a b : Nat) : bj_R → bj_M → Prop := bj_ret (fun r M' => (∀ q, q ≠ k + 10 → M' q = M q) ∧ (∃ g, bv_I (c 0) M' (k + 10) N g) ∧ ((mg_F (drn p) N a b = 0 ∧ r = some (.int (nI 0))) ∨ (mg_F (drn p) N a b ≠ 0 ∧ ∃ S, mn_ds (stp p (mg_F (drn p) N a b)) N b N S ∧ S a < N ∧ r = some (.int (wy_w (wy_nx (stp p (mg_F (drn p) N a b)) N S) (S a) 1 a (nI (a + 1)))))))
variable (l : Launch) (D : va_G) (c : Nat → ClassId) (ad : Nat → Nat) (M : bj_M)
theorem nx_y {p : Nat → Nat → Nat} {S : Nat → Nat} {s w a i : Nat} (h1 : S i = w) (h2 : s ≤ drn p a i) : (decide (S i = w) && stp p s a i) = true := by
  rw [decide_eq_true h1]
  exact decide_eq_true h2
theorem nx_n1 {p : Nat → Nat → Nat} {S : Nat → Nat} {s w a i : Nat} (h1 : S i ≠ w) : (decide (S i = w) && stp p s a i) = false := by
  rw [decide_eq_false h1]
  rfl
theorem nx_n2 {p : Nat → Nat → Nat} {S : Nat → Nat} {s w a i : Nat} (h2 : drn p a i < s) : (decide (S i = w) && stp p s a i) = false := by
  rw [show stp p s a i = false from decide_eq_false (by omega)]
  exact Bool.and_false _
set_option maxRecDepth 100000 in
set_option maxHeartbeats 4000000 in
/-- nextAt -/
theorem t_Pa_nextAt {k N k2 at_ s w : Nat} {vs : Int32} {P : Nat → Nat → Int32} {p f : Nat → Nat → Nat} (h : pa_ok c ad M k N f) (hN : N ≤ 8) (h2 : co_ok c ad M k2 N vs P) (hP : ∀ a b, a < N → b < N → P a b = nI (p a b)) (hp : ∀ a b, a < N → b < N → p a b < 2 ^ 31) {S : Nat → Nat} (hS : st_ok c M k N S) (hat : at_ < N) (hs : s < 2 ^ 31) (hw : w < 2 ^ 31) : bj_T (bw_G l D c) Y_Pa_nextAt 1 (0, 0, 0, 0) ad (bj_fn (oI (ft (fun y => decide (S y = w) && stp p s at_ y) N)) M) [.ref (ad k), .ref (ad k2), .int (nI at_), .int (nI s), .int (nI w)] M := by
  show bj_S _ _ _ _ _ _ 0 0 0 [some (.ref (ad k)), some (.ref (ad k2)), some (.int (nI at_)), some (.int (nI s)), some (.int (nI w)), none] [] M
  refine bj_iconst (v := (nI 0)) d_Pa_nextAt_0 (by decide) ?_
  refine bj_istore (L' := [some (.ref (ad k)), some (.ref (ad k2)), some (.int (nI at_)), some (.int (nI s)), some (.int (nI w)), some (.int (nI 0))]) d_Pa_nextAt_1 (by decide) rfl ?_
  have lp : ∀ (i : Nat), (i ≤ N) → (∀ j, j < i → (fun y => decide (S y = w) && stp p s at_ y) j = false) → bj_S (bw_G l D c) Y_Pa_nextAt 1 (0, 0, 0, 0) ad (bj_fn (oI (ft (fun y => decide (S y = w) && stp p s at_ y) N)) M) 0 0 3 [some (.ref (ad k)), some (.ref (ad k2)), some (.int (nI at_)), some (.int (nI s)), some (.int (nI w)), some (.int (nI i))] [] M := by
    intro i
    induction hd_lp : N - i using Nat.strongRecOn generalizing i with
    | ind d_lp ih_lp =>
      intro hi hq
      refine bj_iload d_Pa_nextAt_3 rfl ?_
      refine bj_aload_n d_Pa_nextAt_5 rfl rfl ?_
      refine bj_get d_Pa_nextAt_6 in_Pa rfl (by decide : 0 < 3) wf_Pa_9 rfl h.1 rfl ?_
      refine bj_icmp_geN (tgt := 44) d_Pa_nextAt_9 (by decide) (by first | omega | exact Nat.lt_of_le_of_lt (hS.2 i (by omega)) (by decide) | exact drn_lt hp hat (by omega)) (by first | omega | exact Nat.lt_of_le_of_lt (hS.2 i (by omega)) (by decide) | exact drn_lt hp hat (by omega)) (fun h9 => ?_) (fun h9 => ?_)
      · refine bj_iconst (v := (-1)) d_Pa_nextAt_44 (by decide) ?_
        exact bj_iret d_Pa_nextAt_45 rfl rfl (Nat.le_refl _) (Nat.le_refl _) ⟨by rw [ft_none.mpr (fun j hj => hq j (by omega))]; rfl, rfl⟩
      · refine bj_aload_n d_Pa_nextAt_12 rfl rfl ?_
        refine bj_get d_Pa_nextAt_13 in_Pa rfl (by decide : 2 < 3) wf_Pa_20 rfl h.1 rfl ?_
        refine bj_iload d_Pa_nextAt_16 rfl ?_
        refine bv_iald d_Pa_nextAt_18 0 rfl hS.1 (by omega) (by first | omega | exact Nat.lt_of_le_of_lt (hS.2 i (by omega)) (by decide) | exact drn_lt hp hat (by omega)) rfl ?_
        refine bj_iload d_Pa_nextAt_19 rfl ?_
        refine bj_icmp_neN (tgt := 38) d_Pa_nextAt_21 (by decide) (by first | omega | exact Nat.lt_of_le_of_lt (hS.2 i (by omega)) (by decide) | exact drn_lt hp hat (by omega)) (by first | omega | exact Nat.lt_of_le_of_lt (hS.2 i (by omega)) (by decide) | exact drn_lt hp hat (by omega)) (fun h21 => ?_) (fun h21 => ?_)
        · have hz := nx_n1 (p := p) (s := s) (a := at_) h21
          refine bj_iinc (v := (nI (i + 1))) (L' := [some (.ref (ad k)), some (.ref (ad k2)), some (.int (nI at_)), some (.int (nI s)), some (.int (nI w)), some (.int (nI (i + 1)))]) d_Pa_nextAt_38 rfl (bj_inc1 _) (by decide) rfl ?_
          refine bj_goto (tgt := 3) d_Pa_nextAt_41 (by decide) ?_
          exact ih_lp (N - (i + 1)) (by omega) (i + 1) rfl (by omega) (fun j hj => by
            rcases Nat.lt_or_ge j i with q | q
            · exact hq j q
            · rw [show j = i by omega]; exact hz)
        · refine bj_aload_n d_Pa_nextAt_24 rfl rfl ?_
          refine bj_iload_n d_Pa_nextAt_25 rfl rfl ?_
          refine bj_iload d_Pa_nextAt_26 rfl ?_
          refine bj_cvF sv_Pa_24 d_Pa_nextAt_28 (t_Co_direct l D c ad M h2 hN (by omega) (by omega)) rfl rfl (by decide) (by decide) (by decide) (Nat.le_of_ble_eq_true rfl) rfl h2.1 rfl rfl ?_
          rw [dir_nI hP hp (by omega) (by omega)]
          refine bj_iload_n d_Pa_nextAt_31 rfl rfl ?_
          refine bj_icmp_ltN (tgt := 38) d_Pa_nextAt_32 (by decide) (by first | omega | exact Nat.lt_of_le_of_lt (hS.2 i (by omega)) (by decide) | exact drn_lt hp hat (by omega)) (by first | omega | exact Nat.lt_of_le_of_lt (hS.2 i (by omega)) (by decide) | exact drn_lt hp hat (by omega)) (fun h32 => ?_) (fun h32 => ?_)
          · have hz := nx_n2 (S := S) (w := w) h32
            refine bj_iinc (v := (nI (i + 1))) (L' := [some (.ref (ad k)), some (.ref (ad k2)), some (.int (nI at_)), some (.int (nI s)), some (.int (nI w)), some (.int (nI (i + 1)))]) d_Pa_nextAt_38 rfl (bj_inc1 _) (by decide) rfl ?_
            refine bj_goto (tgt := 3) d_Pa_nextAt_41 (by decide) ?_
            exact ih_lp (N - (i + 1)) (by omega) (i + 1) rfl (by omega) (fun j hj => by
              rcases Nat.lt_or_ge j i with q | q
              · exact hq j q
              · rw [show j = i by omega]; exact hz)
          · refine bj_iload d_Pa_nextAt_35 rfl ?_
            exact bj_iret d_Pa_nextAt_37 rfl rfl (Nat.le_refl _) (Nat.le_refl _) ⟨by rw [ft_eq.mpr ⟨by omega, nx_y h21 h32, hq⟩]; rfl, rfl⟩
  exact lp 0 (Nat.zero_le _) (fun j hj => absurd hj (Nat.not_lt_zero _))
theorem nt_eq {p : Nat → Nat → Nat} {S : Nat → Nat} {N s a : Nat} (h0 : 0 < S a) : ft (fun y => decide (S y = S a - 1) && stp p s a y) N = ft (fun y => decide (S y + 1 = S a) && stp p s a y) N := ft_to (fun j _ => by
  rw [decide_eq_decide.mpr (show S j = S a - 1 ↔ S j + 1 = S a by omega)])
theorem nt_none {p : Nat → Nat → Nat} {S : Nat → Nat} {N s a : Nat} (h0 : 0 < S a) (h : ft (fun y => decide (S y = S a - 1) && stp p s a y) N = none) : wy_nx (stp p s) N S a = a := by
  unfold wy_nx
  rw [← nt_eq h0, h]
  rfl
theorem nt_some {p : Nat → Nat → Nat} {S : Nat → Nat} {N s a : Nat} (h0 : 0 < S a) (h : ft (fun y => decide (S y = S a - 1) && stp p s a y) N ≠ none) : oI (ft (fun y => decide (S y = S a - 1) && stp p s a y) N) = nI (wy_nx (stp p s) N S a) := by
  unfold wy_nx
  rw [← nt_eq h0]
  cases e : ft (fun y => decide (S y = S a - 1) && stp p s a y) N with
  | none => exact absurd e h
  | some d => rfl
set_option maxRecDepth 100000 in
set_option maxHeartbeats 4000000 in
/-- nextTowards -/
theorem t_Pa_nextTowards {k N k2 at_ s : Nat} {vs : Int32} {P : Nat → Nat → Int32} {p f : Nat → Nat → Nat} (h : pa_ok c ad M k N f) (hN : N ≤ 8) (h2 : co_ok c ad M k2 N vs P) (hP : ∀ a b, a < N → b < N → P a b = nI (p a b)) (hp : ∀ a b, a < N → b < N → p a b < 2 ^ 31) {S : Nat → Nat} (hS : st_ok c M k N S) (hat : at_ < N) (hs : s < 2 ^ 31) (h0 : 0 < S at_) : bj_T (bw_G l D c) Y_Pa_nextTowards 2 (0, 0, 0, 0) ad (bj_fn (nI (wy_nx (stp p s) N S at_)) M) [.ref (ad k), .ref (ad k2), .int (nI at_), .int (nI s)] M := by
  show bj_S _ _ _ _ _ _ 0 0 0 [some (.ref (ad k)), some (.ref (ad k2)), some (.int (nI at_)), some (.int (nI s)), none] [] M
  refine bj_aload_n d_Pa_nextTowards_0 rfl rfl ?_
  refine bj_aload_n d_Pa_nextTowards_1 rfl rfl ?_
  refine bj_iload_n d_Pa_nextTowards_2 rfl rfl ?_
  refine bj_iload_n d_Pa_nextTowards_3 rfl rfl ?_
  refine bj_aload_n d_Pa_nextTowards_4 rfl rfl ?_
  refine bj_get d_Pa_nextTowards_5 in_Pa rfl (by decide : 2 < 3) wf_Pa_20 rfl h.1 rfl ?_
  refine bj_iload_n d_Pa_nextTowards_8 rfl rfl ?_
  refine bv_iald d_Pa_nextTowards_9 0 rfl hS.1 (by omega) (by first | omega | exact Nat.lt_of_le_of_lt (hS.2 at_ hat) (by decide)) rfl ?_
  refine bj_iconst (v := (nI 1)) d_Pa_nextTowards_10 (by decide) ?_
  refine bj_isub (v := (nI ((S at_) - 1))) d_Pa_nextTowards_11 (pk_sub (by omega)) ?_
  refine bj_cvF sv_Pa_60 d_Pa_nextTowards_12 (t_Pa_nextAt l D c ad M h hN h2 hP hp hS hat hs (by have := hS.2 at_ hat; omega)) rfl rfl (by decide) (by decide) (by decide) (Nat.le_of_ble_eq_true rfl) rfl h.1 rfl rfl ?_
  refine bj_istore (L' := [some (.ref (ad k)), some (.ref (ad k2)), some (.int (nI at_)), some (.int (nI s)), some (.int (oI (ft (fun y => decide (S y = S at_ - 1) && stp p s at_ y) N)))]) d_Pa_nextTowards_15 (by decide) rfl ?_
  refine bj_iload d_Pa_nextTowards_17 rfl ?_
  refine bj_iconst (v := (-1)) d_Pa_nextTowards_19 (by decide) ?_
  refine bj_icmp_ne (tgt := 27) d_Pa_nextTowards_20 (by decide) (fun h20 => ?_) (fun h20 => ?_)
  · refine bj_iload d_Pa_nextTowards_27 rfl ?_
    exact bj_iret d_Pa_nextTowards_29 rfl rfl (Nat.le_refl _) (Nat.le_refl _) ⟨by rw [nt_some h0 (fun e => h20 ((ft_m1 (by omega)).mpr e))], rfl⟩
  · refine bj_iload_n d_Pa_nextTowards_23 rfl rfl ?_
    refine bj_goto (tgt := 29) d_Pa_nextTowards_24 (by decide) ?_
    exact bj_iret d_Pa_nextTowards_29 rfl rfl (Nat.le_refl _) (Nat.le_refl _) ⟨by rw [nt_none h0 ((ft_m1 (by omega)).mp h20)], rfl⟩
theorem cs_no {p : Nat → Nat → Nat} {S : Nat → Nat} {N s w a : Nat} (h : ft (fun y => decide (S y = w - 1) && stp p s a y) N = none) : ∀ y, y < N → stp p s a y = true → S y ≠ w - 1 := by
  intro y hy hr e
  have := ft_none.mp h y hy
  rw [hr, decide_eq_true e] at this
  cases this
theorem cs_yes {p : Nat → Nat → Nat} {S : Nat → Nat} {N s w a : Nat} (h : ft (fun y => decide (S y = w - 1) && stp p s a y) N ≠ none) : ∃ y, y < N ∧ stp p s a y = true ∧ S y = w - 1 := by
  cases e : ft (fun y => decide (S y = w - 1) && stp p s a y) N with
  | none => exact absurd e h
  | some d =>
    obtain ⟨g1, g2, -⟩ := ft_eq.mp e
    rw [Bool.and_eq_true] at g2
    exact ⟨d, g1, g2.2, of_decide_eq_true g2.1⟩
set_option maxRecDepth 100000 in
set_option maxHeartbeats 4000000 in
/-- countSteps -/
theorem t_Pa_countSteps {k N k2 b s : Nat} {vs : Int32} {P : Nat → Nat → Int32} {p f : Nat → Nat → Nat} (h : pa_ok c ad M k N f) (hN : N ≤ 8) (h2 : co_ok c ad M k2 N vs P) (hP : ∀ a b, a < N → b < N → P a b = nI (p a b)) (hp : ∀ a b, a < N → b < N → p a b < 2 ^ 31) {g : Nat → Int32} (hg : bv_I (c 0) M (k + 10) N g) (hb : b < N) (hs : s < 2 ^ 31) (hk : k2 + 10 ≤ k) : bj_T (bw_G l D c) Y_Pa_countSteps 2 (0, 0, 0, 0) ad (q_steps c M k N p b s) [.ref (ad k), .ref (ad k2), .int (nI b), .int (nI s)] M := by
  show bj_S _ _ _ _ _ _ 0 0 0 [some (.ref (ad k)), some (.ref (ad k2)), some (.int (nI b)), some (.int (nI s)), none, none] [] M
  refine bj_aload_n d_Pa_countSteps_0 rfl rfl ?_
  refine bj_get d_Pa_countSteps_1 in_Pa rfl (by decide : 2 < 3) wf_Pa_20 rfl h.1 rfl ?_
  refine bj_aload_n d_Pa_countSteps_4 rfl rfl ?_
  refine bj_get d_Pa_countSteps_5 in_Pa rfl (by decide : 0 < 3) wf_Pa_9 rfl h.1 rfl ?_
  refine bj_csR ss_Pa_54 d_Pa_countSteps_8 (t_Ar_fill l D c ad M hg (by omega)) rfl rfl (by decide) (by decide) (by decide) (Nat.le_of_ble_eq_true rfl) rfl (fun v1 N1 hq1 => ?_)
  obtain ⟨rfl, hF1, hO1⟩ := hq1
  show bj_S (bw_G l D c) Y_Pa_countSteps 2 (0, 0, 0, 0) ad (q_steps c M k N p b s) 0 0 11 [some (.ref (ad k)), some (.ref (ad k2)), some (.int (nI b)), some (.int (nI s)), none, none] [] N1
  have h7 : pa_ok c ad N1 k N f := h.in (fun q q1 q2 => hO1 q (by omega))
  refine bj_aload_n d_Pa_countSteps_11 rfl rfl ?_
  refine bj_get d_Pa_countSteps_12 in_Pa rfl (by decide : 2 < 3) wf_Pa_20 rfl h7.1 rfl ?_
  refine bj_iload_n d_Pa_countSteps_15 rfl rfl ?_
  refine bj_iconst (v := (nI 0)) d_Pa_countSteps_16 (by decide) ?_
  refine bv_iast d_Pa_countSteps_17 0 rfl hF1 (by omega) (by omega) (fun N2 hN2 hO2 => ?_)
  refine bj_iconst (v := (nI 1)) d_Pa_countSteps_18 (by decide) ?_
  refine bj_istore (L' := [some (.ref (ad k)), some (.ref (ad k2)), some (.int (nI b)), some (.int (nI s)), some (.int (nI 1)), none]) d_Pa_countSteps_19 (by decide) rfl ?_
  have o1 : ∀ (w : Nat), ∀ (M2 : bj_M), ∀ (S : Nat → Nat), ∀ (z : Option Value), (1 ≤ w) → (w ≤ N) → (st_ok c M2 k N S) → (∀ q, q ≠ k + 10 → M2 q = M q) → (∀ j, j < N → mn_up (stp p s) N b w S j) → bj_S (bw_G l D c) Y_Pa_countSteps 2 (0, 0, 0, 0) ad (q_steps c M k N p b s) 0 0 21 [some (.ref (ad k)), some (.ref (ad k2)), some (.int (nI b)), some (.int (nI s)), some (.int (nI w)), z] [] M2 := by
    intro w M2 S z
    induction hd_o1 : N - w using Nat.strongRecOn generalizing w M2 S z with
    | ind d_o1 ih_o1 =>
      intro hw hw2 h5 ho hu
      have h3 : pa_ok c ad M2 k N f := h.in (fun q q1 q2 => ho q (by omega))
      refine bj_iload d_Pa_countSteps_21 rfl ?_
      refine bj_aload_n d_Pa_countSteps_23 rfl rfl ?_
      refine bj_get d_Pa_countSteps_24 in_Pa rfl (by decide : 0 < 3) wf_Pa_9 rfl h3.1 rfl ?_
      refine bj_icmp_geN (tgt := 93) d_Pa_countSteps_27 (by decide) (by omega) (by omega) (fun h27 => ?_) (fun h27 => ?_)
      · exact bj_vret d_Pa_countSteps_93 rfl (Nat.le_refl _) (Nat.le_refl _) ⟨rfl, ⟨S, h5, mn_up_end hb (fun j hj => (show w = N by omega) ▸ hu j hj)⟩, ho⟩
      · refine bj_iconst (v := (nI 0)) d_Pa_countSteps_30 (by decide) ?_
        refine bj_istore (L' := [some (.ref (ad k)), some (.ref (ad k2)), some (.int (nI b)), some (.int (nI s)), some (.int (nI w)), some (.int (nI 0))]) d_Pa_countSteps_31 (by decide) rfl ?_
        have in1 : ∀ (i : Nat), ∀ (M3 : bj_M), ∀ (S : Nat → Nat), (i ≤ N) → (st_ok c M3 k N S) → (∀ q, q ≠ k + 10 → M3 q = M q) → (∀ j, j < i → mn_up (stp p s) N b (w + 1) S j) → (∀ j, i ≤ j → j < N → mn_up (stp p s) N b w S j) → bj_S (bw_G l D c) Y_Pa_countSteps 2 (0, 0, 0, 0) ad (q_steps c M k N p b s) 0 0 33 [some (.ref (ad k)), some (.ref (ad k2)), some (.int (nI b)), some (.int (nI s)), some (.int (nI w)), some (.int (nI i))] [] M3 := by
          intro i M3 S
          induction hd_in1 : N - i using Nat.strongRecOn generalizing i M3 S with
          | ind d_in1 ih_in1 =>
            intro hi h5 ho hu hv
            have h3 : pa_ok c ad M3 k N f := h.in (fun q q1 q2 => ho q (by omega))
            have h4 : co_ok c ad M3 k2 N vs P := h2.in (fun q q1 q2 => ho q (by omega))
            have ho9 : ∀ y, y < N → mn_up (stp p s) N b w S y ∨ mn_up (stp p s) N b (w + 1) S y := fun y hy => by
                    rcases Nat.lt_or_ge y i with q | q
                    · exact Or.inr (hu y q)
                    · exact Or.inl (hv y q hy)
            refine bj_iload d_Pa_countSteps_33 rfl ?_
            refine bj_aload_n d_Pa_countSteps_35 rfl rfl ?_
            refine bj_get d_Pa_countSteps_36 in_Pa rfl (by decide : 0 < 3) wf_Pa_9 rfl h3.1 rfl ?_
            refine bj_icmp_geN (tgt := 87) d_Pa_countSteps_39 (by decide) (by first | omega | exact Nat.lt_of_le_of_lt (h5.2 i (by omega)) (by decide)) (by first | omega | exact Nat.lt_of_le_of_lt (h5.2 i (by omega)) (by decide)) (fun h39 => ?_) (fun h39 => ?_)
            · refine bj_iinc (v := (nI (w + 1))) (L' := [some (.ref (ad k)), some (.ref (ad k2)), some (.int (nI b)), some (.int (nI s)), some (.int (nI (w + 1))), some (.int (nI i))]) d_Pa_countSteps_87 rfl (bj_inc1 _) (by decide) rfl ?_
              refine bj_goto (tgt := 21) d_Pa_countSteps_90 (by decide) ?_
              exact ih_o1 (N - (w + 1)) (by omega) (w + 1) M3 S _ rfl (by omega) (by omega) h5 ho (fun j hj => hu j (by omega))
            · refine bj_aload_n d_Pa_countSteps_42 rfl rfl ?_
              refine bj_get d_Pa_countSteps_43 in_Pa rfl (by decide : 2 < 3) wf_Pa_20 rfl h3.1 rfl ?_
              refine bj_iload d_Pa_countSteps_46 rfl ?_
              refine bv_iald d_Pa_countSteps_48 0 rfl h5.1 (by omega) (by first | omega | exact Nat.lt_of_le_of_lt (h5.2 i (by omega)) (by decide)) rfl ?_
              refine bj_aload_n d_Pa_countSteps_49 rfl rfl ?_
              refine bj_get d_Pa_countSteps_50 in_Pa rfl (by decide : 0 < 3) wf_Pa_9 rfl h3.1 rfl ?_
              refine bj_icmp_neN (tgt := 81) d_Pa_countSteps_53 (by decide) (by first | omega | exact Nat.lt_of_le_of_lt (h5.2 i (by omega)) (by decide)) (by first | omega | exact Nat.lt_of_le_of_lt (h5.2 i (by omega)) (by decide)) (fun h53 => ?_) (fun h53 => ?_)
              · have hz := mn_up_far (hv i (Nat.le_refl _) h39) h53
                refine bj_iinc (v := (nI (i + 1))) (L' := [some (.ref (ad k)), some (.ref (ad k2)), some (.int (nI b)), some (.int (nI s)), some (.int (nI w)), some (.int (nI (i + 1)))]) d_Pa_countSteps_81 rfl (bj_inc1 _) (by decide) rfl ?_
                refine bj_goto (tgt := 33) d_Pa_countSteps_84 (by decide) ?_
                exact ih_in1 (N - (i + 1)) (by omega) (i + 1) M3 S rfl (by omega) h5 ho (fun j hj => by
                  rcases Nat.lt_or_ge j i with q | q
                  · exact hu j q
                  · rw [show j = i by omega]; exact hz) (fun j hj hj2 => hv j (by omega) hj2)
              · refine bj_aload_n d_Pa_countSteps_56 rfl rfl ?_
                refine bj_aload_n d_Pa_countSteps_57 rfl rfl ?_
                refine bj_iload d_Pa_countSteps_58 rfl ?_
                refine bj_iload_n d_Pa_countSteps_60 rfl rfl ?_
                refine bj_iload d_Pa_countSteps_61 rfl ?_
                refine bj_iconst (v := (nI 1)) d_Pa_countSteps_63 (by decide) ?_
                refine bj_isub (v := (nI (w - 1))) d_Pa_countSteps_64 (pk_sub (by omega)) ?_
                refine bj_cvF sv_Pa_60 d_Pa_countSteps_65 (t_Pa_nextAt l D c ad M3 h3 hN h4 hP hp h5 (by omega) hs (by omega)) rfl rfl (by decide) (by decide) (by decide) (Nat.le_of_ble_eq_true rfl) rfl h3.1 rfl rfl ?_
                refine bj_iconst (v := (-1)) d_Pa_countSteps_68 (by decide) ?_
                refine bj_icmp_eq (tgt := 81) d_Pa_countSteps_69 (by decide) (fun h69 => ?_) (fun h69 => ?_)
                · have hz := mn_up_no hw h27 (hv i (Nat.le_refl _) h39) h53 (fun y hy => ho9 y hy) (cs_no ((ft_m1 (by omega)).mp h69))
                  refine bj_iinc (v := (nI (i + 1))) (L' := [some (.ref (ad k)), some (.ref (ad k2)), some (.int (nI b)), some (.int (nI s)), some (.int (nI w)), some (.int (nI (i + 1)))]) d_Pa_countSteps_81 rfl (bj_inc1 _) (by decide) rfl ?_
                  refine bj_goto (tgt := 33) d_Pa_countSteps_84 (by decide) ?_
                  exact ih_in1 (N - (i + 1)) (by omega) (i + 1) M3 S rfl (by omega) h5 ho (fun j hj => by
                    rcases Nat.lt_or_ge j i with q | q
                    · exact hu j q
                    · rw [show j = i by omega]; exact hz) (fun j hj hj2 => hv j (by omega) hj2)
                · obtain ⟨y, hy, hr, hsy⟩ := cs_yes (fun e => h69 ((ft_m1 (by omega)).mpr e))
                  have hz := mn_up_yes hw h27 (hv i (Nat.le_refl _) h39) h53 hy (ho9 y hy) hr hsy
                  refine bj_aload_n d_Pa_countSteps_72 rfl rfl ?_
                  refine bj_get d_Pa_countSteps_73 in_Pa rfl (by decide : 2 < 3) wf_Pa_20 rfl h3.1 rfl ?_
                  refine bj_iload d_Pa_countSteps_76 rfl ?_
                  refine bj_iload d_Pa_countSteps_78 rfl ?_
                  refine bv_iast d_Pa_countSteps_80 0 rfl h5.1 (by omega) (by first | omega | exact Nat.lt_of_le_of_lt (h5.2 i (by omega)) (by decide)) (fun N1 hN1 hO1 => ?_)
                  refine bj_iinc (v := (nI (i + 1))) (L' := [some (.ref (ad k)), some (.ref (ad k2)), some (.int (nI b)), some (.int (nI s)), some (.int (nI w)), some (.int (nI (i + 1)))]) d_Pa_countSteps_81 rfl (bj_inc1 _) (by decide) rfl ?_
                  refine bj_goto (tgt := 33) d_Pa_countSteps_84 (by decide) ?_
                  exact ih_in1 (N - (i + 1)) (by omega) (i + 1) N1 (va_up S i w) rfl (by omega) ⟨bv_I.upn hN1, fun j hj => by
                    by_cases e : j = i
                    · subst e; rw [va_up_self]; omega
                    · rw [va_up_ne _ _ e]; exact h5.2 j hj⟩ (fun q hq => (hO1 q hq).trans (ho q hq)) (fun j hj => by
                    rcases Nat.lt_or_ge j i with q | q
                    · exact mn_up_ne (hu j q) (by omega)
                    · rw [show j = i by omega]; exact hz) (fun j hj hj2 => mn_up_ne (hv j (by omega) hj2) (by omega))
        exact in1 0 M2 S (Nat.zero_le _) h5 ho (fun j hj => absurd hj (Nat.not_lt_zero _)) (fun j _ hj => hu j hj)
  exact o1 1 N2 (fun j => if j = b then 0 else N) none (Nat.le_refl _) (by omega) ⟨hN2.to (fun j hj => by
    show va_up _ _ _ j = nI (if j = b then 0 else N)
    unfold va_up
    split <;> rfl), fun j hj => by
    show (if j = b then 0 else N) ≤ 8
    split <;> omega⟩ (fun q hq => (hO2 q hq).trans (hO1 q hq)) (mn_up_0 (if_pos rfl) (fun j _ e => if_neg e))
theorem wy_w_s {nx : Nat → Nat} {d i a : Nat} {w : Int32} (h : 0 < d) : wy_w nx d i a w = wy_w nx (d - 1) (i + 1) (nx a) (w ||| (nI (nx a + 1) <<< (nI (4 * i) &&& 31))) := by
  cases d with
  | zero => cases h
  | succ d => rfl
theorem wy_w_0 {nx : Nat → Nat} {d i a : Nat} {w : Int32} (h : d = 0) : wy_w nx d i a w = w := by
  subst h
  rfl
set_option maxRecDepth 100000 in
set_option maxHeartbeats 4000000 in
/-- strongestWay -/
theorem t_Pa_strongestWay {k N k2 a b : Nat} {vs : Int32} {P : Nat → Nat → Int32} {p : Nat → Nat → Nat} (h : pa_ok c ad M k N (mg_F (drn p) N)) (hN : N ≤ 8) (h2 : co_ok c ad M k2 N vs P) (hP : ∀ a b, a < N → b < N → P a b = nI (p a b)) (hp : ∀ a b, a < N → b < N → p a b < 2 ^ 31) {g : Nat → Int32} (hg : bv_I (c 0) M (k + 10) N g) (ha : a < N) (hb : b < N) (hk : k2 + 10 ≤ k) : bj_T (bw_G l D c) Y_Pa_strongestWay 3 (0, 0, 0, 0) ad (q_way c M k N p a b) [.ref (ad k), .ref (ad k2), .int (nI a), .int (nI b)] M := by
  show bj_S _ _ _ _ _ _ 0 0 0 [some (.ref (ad k)), some (.ref (ad k2)), some (.int (nI a)), some (.int (nI b)), none, none, none, none] [] M
  refine bj_aload_n d_Pa_strongestWay_0 rfl rfl ?_
  refine bj_get d_Pa_strongestWay_1 in_Pa rfl (by decide : 1 < 3) wf_Pa_17 rfl h.1 rfl ?_
  refine bj_iload_n d_Pa_strongestWay_4 rfl rfl ?_
  refine bv_aald d_Pa_strongestWay_5 4 rfl rfl h.2.1 (by omega) (by first | omega | exact h.2.2.2 a b ha hb) ?_
  refine bj_iload_n d_Pa_strongestWay_6 rfl rfl ?_
  refine bv_iald d_Pa_strongestWay_7 0 rfl (h.2.2.1 a ha) (by omega) (by first | omega | exact h.2.2.2 a b ha hb) rfl ?_
  refine bj_istore (L' := [some (.ref (ad k)), some (.ref (ad k2)), some (.int (nI a)), some (.int (nI b)), some (.int (nI (mg_F (drn p) N a b))), none, none, none]) d_Pa_strongestWay_8 (by decide) rfl ?_
  refine bj_iload d_Pa_strongestWay_10 rfl ?_
  refine bj_if_neN (tgt := 17) d_Pa_strongestWay_12 (by decide) (by first | omega | exact h.2.2.2 a b ha hb) (fun h12 => ?_) (fun h12 => ?_)
  · refine bj_aload_n d_Pa_strongestWay_17 rfl rfl ?_
    refine bj_aload_n d_Pa_strongestWay_18 rfl rfl ?_
    refine bj_iload_n d_Pa_strongestWay_19 rfl rfl ?_
    refine bj_iload d_Pa_strongestWay_20 rfl ?_
    refine bj_cvR sv_Pa_46 d_Pa_strongestWay_22 (t_Pa_countSteps l D c ad M h hN h2 hP hp hg hb (h.2.2.2 a b ha hb) hk) rfl rfl (by decide) (by decide) (by decide) (Nat.le_of_ble_eq_true rfl) rfl h.1 rfl rfl (fun v1 N1 hq1 => ?_)
    obtain ⟨rfl, ⟨S, hT1, hD1⟩, hO1⟩ := hq1
    show bj_S (bw_G l D c) Y_Pa_strongestWay 3 (0, 0, 0, 0) ad (q_way c M k N p a b) 0 0 25 [some (.ref (ad k)), some (.ref (ad k2)), some (.int (nI a)), some (.int (nI b)), some (.int (nI (mg_F (drn p) N a b))), none, none, none] [] N1
    have h7 : pa_ok c ad N1 k N (mg_F (drn p) N) := h.in (fun q q1 q2 => hO1 q (by omega))
    have h8 : co_ok c ad N1 k2 N vs P := h2.in (fun q q1 q2 => hO1 q (by omega))
    obtain ⟨k9, hk9⟩ := mn_of_tg (b := b) (mg_F_ac (drn p) N a b ha hb (by omega)) 0 (mn_nr_0.mpr rfl)
    have hSa : S a < N := mn_ds_lt hD1 ha hk9
    refine bj_iload_n d_Pa_strongestWay_25 rfl rfl ?_
    refine bj_iconst (v := (nI 1)) d_Pa_strongestWay_26 (by decide) ?_
    refine bj_iadd (v := (nI (a + 1))) d_Pa_strongestWay_27 (nI_add _ _) ?_
    refine bj_istore (L' := [some (.ref (ad k)), some (.ref (ad k2)), some (.int (nI a)), some (.int (nI b)), some (.int (nI (mg_F (drn p) N a b))), some (.int (nI (a + 1))), none, none]) d_Pa_strongestWay_28 (by decide) rfl ?_
    refine bj_iload_n d_Pa_strongestWay_30 rfl rfl ?_
    refine bj_istore (L' := [some (.ref (ad k)), some (.ref (ad k2)), some (.int (nI a)), some (.int (nI b)), some (.int (nI (mg_F (drn p) N a b))), some (.int (nI (a + 1))), some (.int (nI a)), none]) d_Pa_strongestWay_31 (by decide) rfl ?_
    refine bj_iconst (v := (nI 1)) d_Pa_strongestWay_33 (by decide) ?_
    refine bj_istore (L' := [some (.ref (ad k)), some (.ref (ad k2)), some (.int (nI a)), some (.int (nI b)), some (.int (nI (mg_F (drn p) N a b))), some (.int (nI (a + 1))), some (.int (nI a)), some (.int (nI 1))]) d_Pa_strongestWay_34 (by decide) rfl ?_
    have lp : ∀ (i : Nat), ∀ (at_ : Nat), ∀ (x : Int32), (1 ≤ i) → (i + S at_ ≤ N) → (at_ < N) → (S at_ < N) → (wy_w (wy_nx (stp p (mg_F (drn p) N a b)) N S) (S at_) i at_ x = (wy_w (wy_nx (stp p (mg_F (drn p) N a b)) N S) (S a) 1 a (nI (a + 1)))) → bj_S (bw_G l D c) Y_Pa_strongestWay 3 (0, 0, 0, 0) ad (q_way c M k N p a b) 0 0 36 [some (.ref (ad k)), some (.ref (ad k2)), some (.int (nI a)), some (.int (nI b)), some (.int (nI (mg_F (drn p) N a b))), some (.int x), some (.int (nI at_)), some (.int (nI i))] [] N1 := by
      intro i at_ x
      induction hd_lp : N - i using Nat.strongRecOn generalizing i at_ x with
      | ind d_lp ih_lp =>
        intro hi1 hi hat hSt hw
        refine bj_iload d_Pa_strongestWay_36 rfl ?_
        refine bj_aload_n d_Pa_strongestWay_38 rfl rfl ?_
        refine bj_get d_Pa_strongestWay_39 in_Pa rfl (by decide : 0 < 3) wf_Pa_9 rfl h7.1 rfl ?_
        refine bj_icmp_geN (tgt := 82) d_Pa_strongestWay_42 (by decide) (by first | omega | exact h.2.2.2 a b ha hb) (by first | omega | exact h.2.2.2 a b ha hb) (fun h42 => ?_) (fun h42 => ?_)
        · have hz : S at_ = 0 := by omega
          refine bj_iload d_Pa_strongestWay_82 rfl ?_
          exact bj_iret d_Pa_strongestWay_84 rfl rfl (Nat.le_refl _) (Nat.le_refl _) ⟨hO1, ⟨_, hT1.1⟩, Or.inr ⟨h12, S, hD1, hSa, by rw [← hw, wy_w_0 hz]⟩⟩
        · refine bj_iload d_Pa_strongestWay_45 rfl ?_
          refine bj_iload_n d_Pa_strongestWay_47 rfl rfl ?_
          refine bj_icmp_eqN (tgt := 82) d_Pa_strongestWay_48 (by decide) (by first | omega | exact h.2.2.2 a b ha hb) (by first | omega | exact h.2.2.2 a b ha hb) (fun h48 => ?_) (fun h48 => ?_)
          · have hz : S at_ = 0 := by rw [h48]; exact mn_ds_b hD1 hb
            refine bj_iload d_Pa_strongestWay_82 rfl ?_
            exact bj_iret d_Pa_strongestWay_84 rfl rfl (Nat.le_refl _) (Nat.le_refl _) ⟨hO1, ⟨_, hT1.1⟩, Or.inr ⟨h12, S, hD1, hSa, by rw [← hw, wy_w_0 hz]⟩⟩
          · have hpos : 0 < S at_ := Nat.pos_of_ne_zero (fun e => h48 (mn_ds_0 hD1 (Nat.le_refl _) hat e))
            obtain ⟨-, g1, g2, g3⟩ := wy_nx_ok hD1 (Nat.le_refl _) hat hSt h48
            have hw2 : wy_w (wy_nx (stp p (mg_F (drn p) N a b)) N S) (S at_ - 1) (i + 1) (wy_nx (stp p (mg_F (drn p) N a b)) N S at_) (x ||| (nI ((wy_nx (stp p (mg_F (drn p) N a b)) N S at_) + 1) <<< (nI (4 * i) &&& 31))) = (wy_w (wy_nx (stp p (mg_F (drn p) N a b)) N S) (S a) 1 a (nI (a + 1))) := by rw [← hw]; exact (wy_w_s hpos).symm
            refine bj_aload_n d_Pa_strongestWay_51 rfl rfl ?_
            refine bj_aload_n d_Pa_strongestWay_52 rfl rfl ?_
            refine bj_iload d_Pa_strongestWay_53 rfl ?_
            refine bj_iload d_Pa_strongestWay_55 rfl ?_
            refine bj_cvF sv_Pa_50 d_Pa_strongestWay_57 (t_Pa_nextTowards l D c ad N1 h7 hN h8 hP hp hT1 hat (h.2.2.2 a b ha hb) hpos) rfl rfl (by decide) (by decide) (by decide) (Nat.le_of_ble_eq_true rfl) rfl h7.1 rfl rfl ?_
            refine bj_istore (L' := [some (.ref (ad k)), some (.ref (ad k2)), some (.int (nI a)), some (.int (nI b)), some (.int (nI (mg_F (drn p) N a b))), some (.int x), some (.int (nI (wy_nx (stp p (mg_F (drn p) N a b)) N S at_))), some (.int (nI i))]) d_Pa_strongestWay_60 (by decide) rfl ?_
            refine bj_iload d_Pa_strongestWay_62 rfl ?_
            refine bj_iload d_Pa_strongestWay_64 rfl ?_
            refine bj_iconst (v := (nI 1)) d_Pa_strongestWay_66 (by decide) ?_
            refine bj_iadd (v := (nI ((wy_nx (stp p (mg_F (drn p) N a b)) N S at_) + 1))) d_Pa_strongestWay_67 (nI_add _ _) ?_
            refine bj_iconst (v := (nI 4)) d_Pa_strongestWay_68 (by decide) ?_
            refine bj_iload d_Pa_strongestWay_69 rfl ?_
            refine bj_imul (v := (nI (4 * i))) d_Pa_strongestWay_71 (pk_mul _ _) ?_
            refine bj_ishl (v := ((nI ((wy_nx (stp p (mg_F (drn p) N a b)) N S at_) + 1)) <<< ((nI (4 * i)) &&& 31))) d_Pa_strongestWay_72 rfl ?_
            refine bj_ior (v := (x ||| ((nI ((wy_nx (stp p (mg_F (drn p) N a b)) N S at_) + 1)) <<< ((nI (4 * i)) &&& 31)))) d_Pa_strongestWay_73 rfl ?_
            refine bj_istore (L' := [some (.ref (ad k)), some (.ref (ad k2)), some (.int (nI a)), some (.int (nI b)), some (.int (nI (mg_F (drn p) N a b))), some (.int (x ||| ((nI ((wy_nx (stp p (mg_F (drn p) N a b)) N S at_) + 1)) <<< ((nI (4 * i)) &&& 31)))), some (.int (nI (wy_nx (stp p (mg_F (drn p) N a b)) N S at_))), some (.int (nI i))]) d_Pa_strongestWay_74 (by decide) rfl ?_
            refine bj_iinc (v := (nI (i + 1))) (L' := [some (.ref (ad k)), some (.ref (ad k2)), some (.int (nI a)), some (.int (nI b)), some (.int (nI (mg_F (drn p) N a b))), some (.int (x ||| ((nI ((wy_nx (stp p (mg_F (drn p) N a b)) N S at_) + 1)) <<< ((nI (4 * i)) &&& 31)))), some (.int (nI (wy_nx (stp p (mg_F (drn p) N a b)) N S at_))), some (.int (nI (i + 1)))]) d_Pa_strongestWay_76 rfl (bj_inc1 _) (by decide) rfl ?_
            refine bj_goto (tgt := 36) d_Pa_strongestWay_79 (by decide) ?_
            exact ih_lp (N - (i + 1)) (by omega) (i + 1) (wy_nx (stp p (mg_F (drn p) N a b)) N S at_) _ rfl (by omega) (by omega) g1 (by omega) (by rw [show S (wy_nx (stp p (mg_F (drn p) N a b)) N S at_) = S at_ - 1 by omega]; exact hw2)
    exact lp 1 a (nI (a + 1)) (Nat.le_refl _) (by omega) ha hSa rfl
  · refine bj_iconst (v := (nI 0)) d_Pa_strongestWay_15 (by decide) ?_
    exact bj_iret d_Pa_strongestWay_16 rfl rfl (Nat.le_refl _) (Nat.le_refl _) ⟨fun _ _ => rfl, ⟨_, hg⟩, Or.inl ⟨h12, rfl⟩⟩
end P2
