/-! BeatPathOffice: the whole of it; moveInDrawnOrder, winnerSet, inOrder (walks by gen/m_of2.py) -/
section O2

/-- the office but for what is only used within a call -/
def of_ok (c : Nat → ClassId) (ad : Nat → Nat) (M : bj_M) (N op : Nat) (se : Bool) (dw sg sz : Nat → Nat) (rk : Nat → Nat → Int32) (tm : Nat → Nat → Nat) : Prop :=
  M 0 = some (.inr (4, of_F ad N op se)) ∧ bv_I (c 0) M 1 N (fun i => nI (dw i)) ∧ bv_R (c 3) M 2 12 (fun b => ad (3 + b)) ∧ (∀ b, b < 12 → ba_ok c ad M (3 + b) (15 + b) (27 + b) (nI (sg b)) (sz b) (rk b) (fun i => nI (tm b i))) ∧ co_ok c ad M 39 N (nI (vsum sg sz tm)) (fun a b => nI (psum sg sz rk tm 12 a b))
/-- what is only used within a call -/
def sc_ok (c : Nat → ClassId) (ad : Nat → Nat) (M : bj_M) (N : Nat) : Prop := (∃ vs P, co_ok c ad M 49 N vs P) ∧ (∃ f, pa_ok c ad M 59 N f) ∧ (∃ g, bv_I (c 0) M 69 N g) ∧ ∃ lo co U V pn, lo_ok c ad M 70 N lo co U V pn
def of_iv (N op : Nat) (dw sg sz : Nat → Nat) (tm : Nat → Nat → Nat) : Prop := 1 ≤ N ∧ N ≤ 8 ∧ op ≤ 12 ∧ (∃ ps, pm_ok N dw ps) ∧ (∀ b, b < 12 → sg b ≤ 2 ∧ sz b ≤ 6 ∧ ∀ i, i < sz b → tm b i ≤ 10000) ∧ ∀ b, op ≤ b → b < 12 → sg b = 0 ∧ sz b = 0
def of_all (c : Nat → ClassId) (ad : Nat → Nat) (M : bj_M) (N op : Nat) (se : Bool) (dw sg sz : Nat → Nat) (rk : Nat → Nat → Int32) (tm : Nat → Nat → Nat) : Prop := of_iv N op dw sg sz tm ∧ of_ok c ad M N op se dw sg sz rk tm ∧ sc_ok c ad M N
/-- nothing outside the office is written -/
def of_fr (M M' : bj_M) : Prop := ∀ q, 76 ≤ q → M' q = M q
theorem of_fr.rf {M : bj_M} : of_fr M M := fun _ _ => rfl
theorem of_fr.tr {M M' M'' : bj_M} (h : of_fr M M') (h' : of_fr M' M'') : of_fr M M'' := fun q hq => (h' q hq).trans (h q hq)
section V
variable {c : Nat → ClassId} {ad : Nat → Nat} {M M' : bj_M} {N op : Nat} {se : Bool} {dw sg sz : Nat → Nat} {rk : Nat → Nat → Int32} {tm : Nat → Nat → Nat}
theorem of_ok.in (h : of_ok c ad M N op se dw sg sz rk tm) (hN : N ≤ 8) (e : ∀ q, q < 49 → M' q = M q) : of_ok c ad M' N op se dw sg sz rk tm := ⟨(e 0 (by omega)).trans h.1, h.2.1.in (e 1 (by omega)), h.2.2.1.in (e 2 (by omega)), fun b hb => (h.2.2.2.1 b hb).in (e _ (by omega)) (e _ (by omega)) (e _ (by omega)), h.2.2.2.2.in (fun q q1 q2 => e q (by omega))⟩
theorem sc_ok.in (h : sc_ok c ad M N) (hN : N ≤ 8) (e : ∀ q, 49 ≤ q → q < 76 → M' q = M q) : sc_ok c ad M' N := by
  obtain ⟨⟨vs, P, h1⟩, ⟨f, h2⟩, ⟨g, h3⟩, lo, co, U, V, pn, h4⟩ := h
  exact ⟨⟨vs, P, h1.in (fun q q1 q2 => e q (by omega) (by omega))⟩, ⟨f, h2.in (fun q q1 q2 => e q (by omega) (by omega))⟩, ⟨g, h3.in (e 69 (by omega) (by omega))⟩, lo, co, U, V, pn, h4.in (fun q q1 q2 => e q (by omega) (by omega))⟩
theorem sc_ok.trial {vs : Int32} {P : Nat → Nat → Int32} (h : sc_ok c ad M N) (hN : N ≤ 8) (h1 : co_ok c ad M' 49 N vs P) (hf : co_fr 49 N M M') : sc_ok c ad M' N := by
  obtain ⟨-, ⟨f, h2⟩, ⟨g, h3⟩, lo, co, U, V, pn, h4⟩ := h
  exact ⟨⟨vs, P, h1⟩, ⟨f, h2.in (fun q q1 q2 => hf q (by omega))⟩, ⟨g, h3.in (hf 69 (by omega))⟩, lo, co, U, V, pn, h4.in (fun q q1 q2 => hf q (by omega))⟩
theorem sc_ok.paths {f : Nat → Nat → Nat} (h : sc_ok c ad M N) (hN : N ≤ 8) (h1 : pa_ok c ad M' 59 N f) (hf : pa_fr 59 N M M') : sc_ok c ad M' N := by
  obtain ⟨⟨vs, P, h0⟩, -, ⟨g, h3⟩, lo, co, U, V, pn, h4⟩ := h
  exact ⟨⟨vs, P, h0.in (fun q q1 q2 => hf q (by omega))⟩, ⟨f, h1⟩, ⟨g, h3.in (hf 69 (by omega))⟩, lo, co, U, V, pn, h4.in (fun q q1 q2 => hf q (by omega))⟩
theorem sc_ok.locks {lo co U V : Nat → Int32} {pn : Nat} (h : sc_ok c ad M N) (hN : N ≤ 8) (h1 : lo_ok c ad M' 70 N lo co U V pn) (hf : lo_fr 70 M M') : sc_ok c ad M' N := by
  obtain ⟨⟨vs, P, h0⟩, ⟨f, h2⟩, ⟨g, h3⟩, -⟩ := h
  exact ⟨⟨vs, P, h0.in (fun q q1 q2 => hf q (by omega))⟩, ⟨f, h2.in (fun q q1 q2 => hf q (by omega))⟩, ⟨g, h3.in (hf 69 (by omega))⟩, lo, co, U, V, pn, h1⟩
end V
def q_move (c : Nat → ClassId) (M : bj_M) (N : Nat) (dw : Nat → Nat) (fr pl : Nat) : bj_R → bj_M → Prop := bj_ret (fun r M' => r = none ∧ bv_I (c 0) M' 1 N (fun i => nI (tdw dw fr pl i)) ∧ ∀ q, q ≠ 1 → M' q = M q)
/-- who wins -/
def winb (p : Nat → Nat → Nat) (N : Nat) : Int32 := bm (ubn (mg_F (drn p) N) N) N
def q_wins (c : Nat → ClassId) (ad : Nat → Nat) (M : bj_M) (N : Nat) (p : Nat → Nat → Nat) : bj_R → bj_M → Prop := bj_ret (fun r M' => r = some (.int (winb p N)) ∧ pa_ok c ad M' 59 N (mg_F (drn p) N) ∧ pa_fr 59 N M M')
/-- what the order is told from: the pairs, sorted -/
def ord_is (p : Nat → Nat → Nat) (N : Nat) (dw : Nat → Nat) (lk : Nat → Nat → Bool) : Prop := ∃ ps e pn, pm_ok N dw ps ∧ so_all p ps N e pn ∧ lk = so_lk e pn
def q_order (c : Nat → ClassId) (ad : Nat → Nat) (M : bj_M) (N : Nat) (dw : Nat → Nat) (p : Nat → Nat → Nat) (x : Int32) : bj_R → bj_M → Prop := bj_ret (fun r M' => ((ic N x = false ∧ r = some (.int (-1))) ∨ ∃ lk a, a < N ∧ x = nI a ∧ ord_is p N dw lk ∧ ln_at lk dw N a < N ∧ r = some (.int (nI (ln_at lk dw N a)))) ∧ (∃ lo co U V pn, lo_ok c ad M' 70 N lo co U V pn) ∧ lo_fr 70 M M')
theorem so_ne {p : Nat → Nat → Nat} {ps : Nat → Nat} {N pn : Nat} {e : Nat → Nat} (h : so_all p ps N e pn) : ∀ i, i < pn → e i / 8 ≠ e i % 8 := fun i hi q => by
  have h1 := (h.2.1 i hi).2.2
  rw [q] at h1
  unfold drn at h1
  rw [if_neg (Nat.lt_irrefl _)] at h1
  exact absurd h1 (Nat.lt_irrefl _)
theorem so_free {p : Nat → Nat → Nat} {ps dw : Nat → Nat} {N pn : Nat} {e : Nat → Nat} (hp : pm_ok N dw ps) (h : so_all p ps N e pn) : ∀ j, j < N → ∃ i, i < N ∧ ft (ln_q (so_lk e pn) dw N (ln_left (so_lk e pn) dw N j)) N = some i ∧ ln_at (so_lk e pn) dw N j = dw i := fun j hj => by
  obtain ⟨g1, g2⟩ := ml_run_ok (u := fun i => e i / 8) (v := fun i => e i % 8) pn (so_ne h)
  obtain ⟨i, q1, q2, q3, -⟩ := ln_free (lk := so_lk e pn) hp g1 g2 hj
  exact ⟨i, q1, q2, q3⟩
variable (l : Launch) (D : va_G) (c : Nat → ClassId) (ad : Nat → Nat) (M : bj_M)
set_option maxRecDepth 100000 in
set_option maxHeartbeats 4000000 in
/-- moveInDrawnOrder -/
theorem t_Of_moveInDrawnOrder {N op : Nat} {se : Bool} (hO : M 0 = some (.inr (4, of_F ad N op se))) (hN : N ≤ 8) {dw ps : Nat → Nat} {a pl : Nat} (hd : bv_I (c 0) M 1 N (fun i => nI (dw i))) (hpm : pm_ok N dw ps) (ha : a < N) (hpl : pl < N) : bj_T (bw_G l D c) Y_Of_moveInDrawnOrder 0 (0, 0, 0, 0) ad (q_move c M N dw (ps a) pl) [.ref (ad 0), .int (nI a), .int (nI pl)] M := by
  show bj_S _ _ _ _ _ _ 0 0 0 [some (.ref (ad 0)), some (.int (nI a)), some (.int (nI pl)), none, none] [] M
  have hps := hpm.2 a ha
  refine bj_iconst (v := (nI 0)) d_Of_moveInDrawnOrder_0 (by decide) ?_
  refine bj_istore_n (L' := [some (.ref (ad 0)), some (.int (nI a)), some (.int (nI pl)), some (.int (nI 0)), none]) d_Of_moveInDrawnOrder_1 rfl (by decide) rfl ?_
  refine bj_iconst (v := (nI 0)) d_Of_moveInDrawnOrder_2 (by decide) ?_
  refine bj_istore (L' := [some (.ref (ad 0)), some (.int (nI a)), some (.int (nI pl)), some (.int (nI 0)), some (.int (nI 0))]) d_Of_moveInDrawnOrder_3 (by decide) rfl ?_
  have l1 : ∀ (p : Nat), ∀ (fr : Nat), (p ≤ N) → (fr = (if ps a < p then ps a else 0)) → bj_S (bw_G l D c) Y_Of_moveInDrawnOrder 0 (0, 0, 0, 0) ad (q_move c M N dw (ps a) pl) 0 0 5 [some (.ref (ad 0)), some (.int (nI a)), some (.int (nI pl)), some (.int (nI fr)), some (.int (nI p))] [] M := by
    intro p fr
    induction hd_l1 : N - p using Nat.strongRecOn generalizing p fr with
    | ind d_l1 ih_l1 =>
      intro hp9 hfr
      refine bj_iload d_Of_moveInDrawnOrder_5 rfl ?_
      refine bj_aload_n d_Of_moveInDrawnOrder_7 rfl rfl ?_
      refine bj_get d_Of_moveInDrawnOrder_8 in_Of rfl (by decide : 0 < 9) wf_Of_9 rfl hO rfl ?_
      refine bj_icmp_geN (tgt := 34) d_Of_moveInDrawnOrder_11 (by decide) (by first | omega | exact Nat.lt_trans (hpm.1 p (by omega)).1 (by omega)) (by first | omega | exact Nat.lt_trans (hpm.1 p (by omega)).1 (by omega)) (fun h11 => ?_) (fun h11 => ?_)
      · have hfr2 : fr = ps a := by rw [hfr]; exact if_pos (by omega)
        subst hfr2
        refine bj_iload_n d_Of_moveInDrawnOrder_34 rfl rfl ?_
        refine bj_istore (L' := [some (.ref (ad 0)), some (.int (nI a)), some (.int (nI pl)), some (.int (nI (ps a))), some (.int (nI (ps a)))]) d_Of_moveInDrawnOrder_35 (by decide) rfl ?_
        have l2 : ∀ (i : Nat), ∀ (M3 : bj_M), (ps a ≤ i) → (i ≤ pl ∨ i = ps a) → (bv_I (c 0) M3 1 N (fun x => nI (mv1 dw (ps a) i x))) → (∀ q, q ≠ 1 → M3 q = M q) → bj_S (bw_G l D c) Y_Of_moveInDrawnOrder 0 (0, 0, 0, 0) ad (q_move c M N dw (ps a) pl) 0 0 37 [some (.ref (ad 0)), some (.int (nI a)), some (.int (nI pl)), some (.int (nI (ps a))), some (.int (nI i))] [] M3 := by
          intro i M3
          induction hd_l2 : N - i using Nat.strongRecOn generalizing i M3 with
          | ind d_l2 ih_l2 =>
            intro hi hi2 h3 ho3
            have hO3 := (ho3 0 (by decide)).trans hO
            refine bj_iload d_Of_moveInDrawnOrder_37 rfl ?_
            refine bj_iload_n d_Of_moveInDrawnOrder_39 rfl rfl ?_
            refine bj_icmp_geN (tgt := 65) d_Of_moveInDrawnOrder_40 (by decide) (by first | omega | exact Nat.lt_trans (hpm.1 p (by omega)).1 (by omega)) (by first | omega | exact Nat.lt_trans (hpm.1 p (by omega)).1 (by omega)) (fun h40 => ?_) (fun h40 => ?_)
            · refine bj_iload_n d_Of_moveInDrawnOrder_65 rfl rfl ?_
              refine bj_istore (L' := [some (.ref (ad 0)), some (.int (nI a)), some (.int (nI pl)), some (.int (nI (ps a))), some (.int (nI (ps a)))]) d_Of_moveInDrawnOrder_66 (by decide) rfl ?_
              have l3 : ∀ (i : Nat), ∀ (M4 : bj_M), (i ≤ ps a) → (pl ≤ i ∨ i = ps a) → (bv_I (c 0) M4 1 N (fun x => nI (mv2 dw (ps a) pl i x))) → (∀ q, q ≠ 1 → M4 q = M q) → bj_S (bw_G l D c) Y_Of_moveInDrawnOrder 0 (0, 0, 0, 0) ad (q_move c M N dw (ps a) pl) 0 0 68 [some (.ref (ad 0)), some (.int (nI a)), some (.int (nI pl)), some (.int (nI (ps a))), some (.int (nI i))] [] M4 := by
                intro i M4
                induction hd_l3 : i + 1 using Nat.strongRecOn generalizing i M4 with
                | ind d_l3 ih_l3 =>
                  intro hi hi2 h4 ho4
                  have hO4 := (ho4 0 (by decide)).trans hO
                  refine bj_iload d_Of_moveInDrawnOrder_68 rfl ?_
                  refine bj_iload_n d_Of_moveInDrawnOrder_70 rfl rfl ?_
                  refine bj_icmp_leN (tgt := 96) d_Of_moveInDrawnOrder_71 (by decide) (by first | omega | exact Nat.lt_trans (hpm.1 p (by omega)).1 (by omega)) (by first | omega | exact Nat.lt_trans (hpm.1 p (by omega)).1 (by omega)) (fun h71 => ?_) (fun h71 => ?_)
                  · refine bj_aload_n d_Of_moveInDrawnOrder_96 rfl rfl ?_
                    refine bj_get d_Of_moveInDrawnOrder_97 in_Of rfl (by decide : 1 < 9) wf_Of_13 rfl hO4 rfl ?_
                    refine bj_iload_n d_Of_moveInDrawnOrder_100 rfl rfl ?_
                    refine bj_iload_n d_Of_moveInDrawnOrder_101 rfl rfl ?_
                    refine bv_iast d_Of_moveInDrawnOrder_102 0 rfl h4 (by omega) (by first | omega | exact Nat.lt_trans (hpm.1 p (by omega)).1 (by omega)) (fun N1 hN1 hO1 => ?_)
                    exact bj_vret d_Of_moveInDrawnOrder_103 rfl (Nat.le_refl _) (Nat.le_refl _) ⟨rfl, (bv_I.upn hN1).to (fun x hx => by rw [← mv2_e (i := i) (by omega), hps.2]), fun q hq => (hO1 q hq).trans (ho4 q hq)⟩
                  · refine bj_aload_n d_Of_moveInDrawnOrder_74 rfl rfl ?_
                    refine bj_get d_Of_moveInDrawnOrder_75 in_Of rfl (by decide : 1 < 9) wf_Of_13 rfl hO4 rfl ?_
                    refine bj_iload d_Of_moveInDrawnOrder_78 rfl ?_
                    refine bj_aload_n d_Of_moveInDrawnOrder_80 rfl rfl ?_
                    refine bj_get d_Of_moveInDrawnOrder_81 in_Of rfl (by decide : 1 < 9) wf_Of_13 rfl hO4 rfl ?_
                    refine bj_iload d_Of_moveInDrawnOrder_84 rfl ?_
                    refine bj_iconst (v := (nI 1)) d_Of_moveInDrawnOrder_86 (by decide) ?_
                    refine bj_isub (v := (nI (i - 1))) d_Of_moveInDrawnOrder_87 (pk_sub (by omega)) ?_
                    refine bv_iald (v := (nI (dw (i - 1)))) d_Of_moveInDrawnOrder_88 0 rfl h4 (by omega) (by first | omega | exact Nat.lt_trans (hpm.1 p (by omega)).1 (by omega)) (by show nI _ = nI _; rw [mv2_r hi (by omega)]) ?_
                    refine bv_iast d_Of_moveInDrawnOrder_89 0 rfl h4 (by omega) (by first | omega | exact Nat.lt_trans (hpm.1 p (by omega)).1 (by omega)) (fun N1 hN1 hO1 => ?_)
                    refine bj_iinc (v := (nI (i - 1))) (L' := [some (.ref (ad 0)), some (.int (nI a)), some (.int (nI pl)), some (.int (nI (ps a))), some (.int (nI (i - 1)))]) d_Of_moveInDrawnOrder_90 rfl (bj_dec1 (by omega)) (by decide) rfl ?_
                    refine bj_goto (tgt := 68) d_Of_moveInDrawnOrder_93 (by decide) ?_
                    exact ih_l3 (i - 1 + 1) (by omega) (i - 1) N1 rfl (by omega) (by omega) ((bv_I.upn hN1).to (fun x hx => by rw [mv2_s hi (by omega)])) (fun q hq => (hO1 q hq).trans (ho4 q hq))
              exact l3 (ps a) M3 (Nat.le_refl _) (Or.inr rfl) (h3.to (fun x hx => by rw [mv1_e (pl := pl) (by omega)])) ho3
            · refine bj_aload_n d_Of_moveInDrawnOrder_43 rfl rfl ?_
              refine bj_get d_Of_moveInDrawnOrder_44 in_Of rfl (by decide : 1 < 9) wf_Of_13 rfl hO3 rfl ?_
              refine bj_iload d_Of_moveInDrawnOrder_47 rfl ?_
              refine bj_aload_n d_Of_moveInDrawnOrder_49 rfl rfl ?_
              refine bj_get d_Of_moveInDrawnOrder_50 in_Of rfl (by decide : 1 < 9) wf_Of_13 rfl hO3 rfl ?_
              refine bj_iload d_Of_moveInDrawnOrder_53 rfl ?_
              refine bj_iconst (v := (nI 1)) d_Of_moveInDrawnOrder_55 (by decide) ?_
              refine bj_iadd (v := (nI (i + 1))) d_Of_moveInDrawnOrder_56 (nI_add _ _) ?_
              refine bv_iald (v := (nI (dw (i + 1)))) d_Of_moveInDrawnOrder_57 0 rfl h3 (by omega) (by first | omega | exact Nat.lt_trans (hpm.1 p (by omega)).1 (by omega)) (by show nI _ = nI _; rw [mv1_r]) ?_
              refine bv_iast d_Of_moveInDrawnOrder_58 0 rfl h3 (by omega) (by first | omega | exact Nat.lt_trans (hpm.1 p (by omega)).1 (by omega)) (fun N1 hN1 hO1 => ?_)
              refine bj_iinc (v := (nI (i + 1))) (L' := [some (.ref (ad 0)), some (.int (nI a)), some (.int (nI pl)), some (.int (nI (ps a))), some (.int (nI (i + 1)))]) d_Of_moveInDrawnOrder_59 rfl (bj_inc1 _) (by decide) rfl ?_
              refine bj_goto (tgt := 37) d_Of_moveInDrawnOrder_62 (by decide) ?_
              exact ih_l2 (N - (i + 1)) (by omega) (i + 1) N1 rfl (by omega) (by omega) ((bv_I.upn hN1).to (fun x hx => by rw [mv1_s hi])) (fun q hq => (hO1 q hq).trans (ho3 q hq))
        exact l2 (ps a) M (Nat.le_refl _) (Or.inr rfl) (hd.to (fun x hx => by unfold mv1; rw [if_neg (by omega)])) (fun _ _ => rfl)
      · refine bj_aload_n d_Of_moveInDrawnOrder_14 rfl rfl ?_
        refine bj_get d_Of_moveInDrawnOrder_15 in_Of rfl (by decide : 1 < 9) wf_Of_13 rfl hO rfl ?_
        refine bj_iload d_Of_moveInDrawnOrder_18 rfl ?_
        refine bv_iald d_Of_moveInDrawnOrder_20 0 rfl hd (by omega) (by first | omega | exact Nat.lt_trans (hpm.1 p (by omega)).1 (by omega)) rfl ?_
        refine bj_iload_n d_Of_moveInDrawnOrder_21 rfl rfl ?_
        refine bj_icmp_neN (tgt := 28) d_Of_moveInDrawnOrder_22 (by decide) (by first | omega | exact Nat.lt_trans (hpm.1 p (by omega)).1 (by omega)) (by first | omega | exact Nat.lt_trans (hpm.1 p (by omega)).1 (by omega)) (fun h22 => ?_) (fun h22 => ?_)
        · have hz : ps a ≠ p := fun e => h22 (by rw [← e]; exact hps.2)
          refine bj_iinc (v := (nI (p + 1))) (L' := [some (.ref (ad 0)), some (.int (nI a)), some (.int (nI pl)), some (.int (nI fr)), some (.int (nI (p + 1)))]) d_Of_moveInDrawnOrder_28 rfl (bj_inc1 _) (by decide) rfl ?_
          refine bj_goto (tgt := 5) d_Of_moveInDrawnOrder_31 (by decide) ?_
          exact ih_l1 (N - (p + 1)) (by omega) (p + 1) fr rfl (by omega) (by 
            rw [hfr]
            by_cases e : ps a < p
            · rw [if_pos e, if_pos (by omega)]
            · rw [if_neg e, if_neg (by omega)])
        · have hz : ps a = p := by rw [← h22]; exact (hpm.1 p h11).2
          refine bj_iload d_Of_moveInDrawnOrder_25 rfl ?_
          refine bj_istore_n (L' := [some (.ref (ad 0)), some (.int (nI a)), some (.int (nI pl)), some (.int (nI p)), some (.int (nI p))]) d_Of_moveInDrawnOrder_27 rfl (by decide) rfl ?_
          refine bj_iinc (v := (nI (p + 1))) (L' := [some (.ref (ad 0)), some (.int (nI a)), some (.int (nI pl)), some (.int (nI p)), some (.int (nI (p + 1)))]) d_Of_moveInDrawnOrder_28 rfl (bj_inc1 _) (by decide) rfl ?_
          refine bj_goto (tgt := 5) d_Of_moveInDrawnOrder_31 (by decide) ?_
          exact ih_l1 (N - (p + 1)) (by omega) (p + 1) p rfl (by omega) (by rw [if_pos (by omega)]; omega)
  exact l1 0 0 (Nat.zero_le _) (if_neg (Nat.not_lt_zero _)).symm
set_option maxRecDepth 100000 in
set_option maxHeartbeats 4000000 in
/-- winnerSet -/
theorem t_Of_winnerSet {N op : Nat} {se : Bool} (hO : M 0 = some (.inr (4, of_F ad N op se))) (hN : N ≤ 8) {k2 : Nat} {vs : Int32} {P : Nat → Nat → Int32} {p : Nat → Nat → Nat} (h2 : co_ok c ad M k2 N vs P) (hP : ∀ a b, a < N → b < N → P a b = nI (p a b)) (hp : ∀ a b, a < N → b < N → p a b < 2 ^ 31) (hk : k2 + 10 ≤ 59) {f : Nat → Nat → Nat} (hA : pa_ok c ad M 59 N f) : bj_T (bw_G l D c) Y_Of_winnerSet 3 (0, 0, 0, 0) ad (q_wins c ad M N p) [.ref (ad 0), .ref (ad k2)] M := by
  show bj_S _ _ _ _ _ _ 0 0 0 [some (.ref (ad 0)), some (.ref (ad k2))] [] M
  refine bj_aload_n d_Of_winnerSet_0 rfl rfl ?_
  refine bj_get d_Of_winnerSet_1 in_Of rfl (by decide : 7 < 9) wf_Of_46 rfl hO rfl ?_
  refine bj_aload_n d_Of_winnerSet_4 rfl rfl ?_
  refine bj_cvR sv_Of_145 d_Of_winnerSet_5 (t_Pa_weigh l D c ad M hA hN h2 hP hp hk) rfl rfl (by decide) (by decide) (by decide) (Nat.le_of_ble_eq_true rfl) rfl hA.1 rfl rfl (fun v1 N1 hq1 => ?_)
  obtain ⟨rfl, hA1, hf1⟩ := hq1
  show bj_S (bw_G l D c) Y_Of_winnerSet 3 (0, 0, 0, 0) ad (q_wins c ad M N p) 0 0 8 [some (.ref (ad 0)), some (.ref (ad k2))] [] N1
  have hO2 := (hf1 0 (by omega)).trans hO
  refine bj_aload_n d_Of_winnerSet_8 rfl rfl ?_
  refine bj_get d_Of_winnerSet_9 in_Of rfl (by decide : 7 < 9) wf_Of_46 rfl hO2 rfl ?_
  refine bj_cvF sv_Of_218 d_Of_winnerSet_12 (t_Pa_unbeaten l D c ad N1 hA1 hN) rfl rfl (by decide) (by decide) (by decide) (Nat.le_of_ble_eq_true rfl) rfl hA1.1 rfl rfl ?_
  exact bj_iret d_Of_winnerSet_15 rfl rfl (Nat.le_refl _) (Nat.le_refl _) ⟨rfl, hA1, hf1⟩
set_option maxRecDepth 100000 in
set_option maxHeartbeats 4000000 in
/-- inOrder -/
theorem t_Of_inOrder {N op : Nat} {se : Bool} (hO : M 0 = some (.inr (4, of_F ad N op se))) (hN : N ≤ 8) {k2 : Nat} {vs : Int32} {P : Nat → Nat → Int32} {p : Nat → Nat → Nat} (h2 : co_ok c ad M k2 N vs P) (hP : ∀ a b, a < N → b < N → P a b = nI (p a b)) (hp : ∀ a b, a < N → b < N → p a b < 2 ^ 31) (hk : k2 + 10 ≤ 59) {dw ps : Nat → Nat} {x : Int32} {lo co U V : Nat → Int32} {pn : Nat} (hd : bv_I (c 0) M 1 N (fun i => nI (dw i))) (hpm : pm_ok N dw ps) (hL : lo_ok c ad M 70 N lo co U V pn) : bj_T (bw_G l D c) Y_Of_inOrder 5 (0, 0, 0, 0) ad (q_order c ad M N dw p x) [.ref (ad 0), .ref (ad k2), .int x] M := by
  show bj_S _ _ _ _ _ _ 0 0 0 [some (.ref (ad 0)), some (.ref (ad k2)), some (.int x)] [] M
  refine bj_aload_n d_Of_inOrder_0 rfl rfl ?_
  refine bj_iload_n d_Of_inOrder_1 rfl rfl ?_
  refine bj_cvF sv_Of_60 d_Of_inOrder_2 (t_Of_isCandidate l D c ad M hO hN) rfl rfl (by decide) (by decide) (by decide) (Nat.le_of_ble_eq_true rfl) rfl hO rfl rfl ?_
  refine bj_if_ne (tgt := 10) d_Of_inOrder_5 (by decide) (fun h5 => ?_) (fun h5 => ?_)
  · obtain ⟨a, ha, hx⟩ := ic_t (by omega) (bt_nn h5)
    refine bj_aload_n d_Of_inOrder_10 rfl rfl ?_
    refine bj_get d_Of_inOrder_11 in_Of rfl (by decide : 8 < 9) wf_Of_53 rfl hO rfl ?_
    refine bj_aload_n d_Of_inOrder_14 rfl rfl ?_
    refine bj_aload_n d_Of_inOrder_15 rfl rfl ?_
    refine bj_get d_Of_inOrder_16 in_Of rfl (by decide : 1 < 9) wf_Of_13 rfl hO rfl ?_
    refine bj_cvR sv_Of_180 d_Of_inOrder_19 (t_Lo_lockPairs l D c ad M hL hN h2 hP hp hd hpm (by omega) (by omega)) rfl rfl (by decide) (by decide) (by decide) (Nat.le_of_ble_eq_true rfl) rfl hL.1 rfl rfl (fun v1 N1 hq1 => ?_)
    obtain ⟨rfl, ⟨lo1, co1, U1, V1, e, pn1, hpn1, hs1, hL1, hK1⟩, hf1⟩ := hq1
    show bj_S (bw_G l D c) Y_Of_inOrder 5 (0, 0, 0, 0) ad (q_order c ad M N dw p x) 0 0 22 [some (.ref (ad 0)), some (.ref (ad k2)), some (.int x)] [] N1
    have hO2 := (hf1 0 (by omega)).trans hO
    have hd2 : bv_I (c 0) N1 1 N (fun i => nI (dw i)) := hd.in (hf1 1 (by omega))
    refine bj_aload_n d_Of_inOrder_22 rfl rfl ?_
    refine bj_get d_Of_inOrder_23 in_Of rfl (by decide : 8 < 9) wf_Of_53 rfl hO2 rfl ?_
    refine bj_aload_n d_Of_inOrder_26 rfl rfl ?_
    refine bj_get d_Of_inOrder_27 in_Of rfl (by decide : 1 < 9) wf_Of_13 rfl hO2 rfl ?_
    refine bj_iload_n d_Of_inOrder_30 rfl rfl ?_
    have hfr := so_free hpm hs1
    subst hx
    refine bj_cvF sv_Of_221 d_Of_inOrder_31 (t_Lo_lineUp l D c ad N1 hL1 hN hd2 (fun i hi => (hpm.1 i hi).1) hK1 ha hfr) rfl rfl (by decide) (by decide) (by decide) (Nat.le_of_ble_eq_true rfl) rfl hL1.1 rfl rfl ?_
    exact bj_iret d_Of_inOrder_34 rfl rfl (Nat.le_refl _) (Nat.le_refl _) ⟨Or.inr ⟨_, a, ha, rfl, ⟨ps, e, pn1, hpm, hs1, rfl⟩, (by obtain ⟨i, q1, -, q3⟩ := hfr a ha; rw [q3]; exact (hpm.1 i q1).1), rfl⟩, ⟨_, _, _, _, _, hL1⟩, hf1⟩
  · refine bj_iconst (v := (-1)) d_Of_inOrder_8 (by decide) ?_
    exact bj_iret d_Of_inOrder_9 rfl rfl (Nat.le_refl _) (Nat.le_refl _) ⟨Or.inl ⟨bt_n0.mp h5, rfl⟩, ⟨_, _, _, _, _, hL⟩, lo_fr.rf⟩
end O2
