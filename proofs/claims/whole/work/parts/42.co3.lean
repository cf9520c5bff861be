/-! Count.putIn, takeOut (walks by gen/m_co3.py) -/
section C3
/-- a batch: its stage, its ballots -/
def ba_ok (c : Nat → ClassId) (ad : Nat → Nat) (M : bj_M) (k kr kt : Nat) (sg : Int32) (sz : Nat) (rk tm : Nat → Int32) : Prop := M k = some (.inr (0, [.int sg, .int (nI sz), .ref (ad kr), .ref (ad kt)])) ∧ bv_I (c 0) M kr 6 rk ∧ bv_I (c 0) M kt 6 tm
theorem ba_ok.in {c : Nat → ClassId} {ad : Nat → Nat} {M M' : bj_M} {k kr kt : Nat} {sg : Int32} {sz : Nat} {rk tm : Nat → Int32} (h : ba_ok c ad M k kr kt sg sz rk tm) (e1 : M' k = M k) (e2 : M' kr = M kr) (e3 : M' kt = M kt) : ba_ok c ad M' k kr kt sg sz rk tm := ⟨e1.trans h.1, h.2.1.in e2, h.2.2.in e3⟩
/-- all ballots of a batch come to a count -/
def co_sum (rk tm : Nat → Int32) (P : Nat → Nat → Int32) : Nat → Nat → Nat → Int32
  | 0 => P
  | i + 1 => co_add (rk i) (tm i) (co_sum rk tm P i)
def co_vs (tm : Nat → Int32) (vs : Int32) : Nat → Int32
  | 0 => vs
  | i + 1 => co_vs tm vs i + tm i
def q_Co_putIn (c : Nat → ClassId) (ad : Nat → Nat) (M : bj_M) (k N : Nat) (vs : Int32) (P : Nat → Nat → Int32) (rk tm : Nat → Int32) (sz : Nat) : bj_R → bj_M → Prop := bj_ret (fun r M' => r = none ∧ co_ok c ad M' k N (co_vs tm vs sz) (co_sum rk tm P sz) ∧ co_fr k N M M')
variable (l : Launch) (D : va_G) (c : Nat → ClassId) (ad : Nat → Nat) (M : bj_M)
set_option maxRecDepth 100000 in
set_option maxHeartbeats 4000000 in
/-- putIn: the ballots of a batch -/
theorem t_Co_putIn {k N kb kr kt sz : Nat} {vs sg : Int32} {P : Nat → Nat → Int32} {rk tm : Nat → Int32} (h : co_ok c ad M k N vs P) (hN : N ≤ 8) (hb : ba_ok c ad M kb kr kt sg sz rk tm) (hsz : sz ≤ 6) (h1 : kb < k) (h2 : kr < k) (h3 : kt < k) : bj_T (bw_G l D c) Y_Co_putIn 3 (0, 0, 0, 0) ad (q_Co_putIn c ad M k N vs P rk tm sz) [.ref (ad k), .ref (ad kb)] M := by
  show bj_S _ _ _ _ _ _ 0 0 0 [some (.ref (ad k)), some (.ref (ad kb)), none] [] M
  refine bj_iconst (v := (nI 0)) d_Co_putIn_0 (by decide) ?_
  refine bj_istore_n (L' := [some (.ref (ad k)), some (.ref (ad kb)), some (.int (nI 0))]) d_Co_putIn_1 rfl (by decide) rfl ?_
  have lp : ∀ (i : Nat), ∀ (M2 : bj_M), (i ≤ sz) → (co_ok c ad M2 k N (co_vs tm vs i) (co_sum rk tm P i)) → (co_fr k N M M2) → bj_S (bw_G l D c) Y_Co_putIn 3 (0, 0, 0, 0) ad (q_Co_putIn c ad M k N vs P rk tm sz) 0 0 2 [some (.ref (ad k)), some (.ref (ad kb)), some (.int (nI i))] [] M2 := by
    intro i M2
    induction hd_lp : sz - i using Nat.strongRecOn generalizing i M2 with
    | ind d_lp ih_lp =>
      intro hi h2c hf
      have hb2 : ba_ok c ad M2 kb kr kt sg sz rk tm := hb.in (hf _ (by omega)) (hf _ (by omega)) (hf _ (by omega))
      refine bj_iload_n d_Co_putIn_2 rfl rfl ?_
      refine bj_aload_n d_Co_putIn_3 rfl rfl ?_
      refine bj_getN d_Co_putIn_4 in_Ba rfl (by decide : 1 < 4) wf_Co_29 rfl hb2.1 rfl ?_
      refine bj_icmp_geN (tgt := 32) d_Co_putIn_7 (by decide) (by omega) (by omega) (fun h7 => ?_) (fun h7 => ?_)
      · exact bj_vret d_Co_putIn_32 rfl (Nat.le_refl _) (Nat.le_refl _) ⟨rfl, by rw [show sz = i by omega]; exact h2c, hf⟩
      · refine bj_aload_n d_Co_putIn_10 rfl rfl ?_
        refine bj_aload_n d_Co_putIn_11 rfl rfl ?_
        refine bj_getN d_Co_putIn_12 in_Ba rfl (by decide : 2 < 4) wf_Co_34 rfl hb2.1 rfl ?_
        refine bj_iload_n d_Co_putIn_15 rfl rfl ?_
        refine bv_iald d_Co_putIn_16 0 rfl hb2.2.1 (by omega) (by omega) rfl ?_
        refine bj_aload_n d_Co_putIn_17 rfl rfl ?_
        refine bj_getN d_Co_putIn_18 in_Ba rfl (by decide : 3 < 4) wf_Co_38 rfl hb2.1 rfl ?_
        refine bj_iload_n d_Co_putIn_21 rfl rfl ?_
        refine bv_iald d_Co_putIn_22 0 rfl hb2.2.2 (by omega) (by omega) rfl ?_
        refine bj_cvR sv_Co_41 d_Co_putIn_23 (t_Co_add l D c ad M2 h2c hN) rfl rfl (by decide) (by decide) (by decide) (Nat.le_of_ble_eq_true rfl) rfl h2c.1 rfl rfl (fun v1 N1 hq1 => ?_)
        obtain ⟨rfl, hc1, hf1⟩ := hq1
        show bj_S (bw_G l D c) Y_Co_putIn 3 (0, 0, 0, 0) ad (q_Co_putIn c ad M k N vs P rk tm sz) 0 0 26 [some (.ref (ad k)), some (.ref (ad kb)), some (.int (nI i))] [] N1
        refine bj_iinc (v := (nI (i + 1))) (L' := [some (.ref (ad k)), some (.ref (ad kb)), some (.int (nI (i + 1)))]) d_Co_putIn_26 rfl (bj_inc1 _) (by decide) rfl ?_
        refine bj_goto (tgt := 2) d_Co_putIn_29 (by decide) ?_
        exact ih_lp (sz - (i + 1)) (by omega) (i + 1) N1 rfl (by omega) hc1 (hf.tr hf1)
  exact lp 0 M (Nat.zero_le _) h co_fr.rf
set_option maxRecDepth 100000 in
set_option maxHeartbeats 4000000 in
/-- takeOut: the ballots of a batch -/
theorem t_Co_takeOut {k N kb kr kt sz : Nat} {vs sg : Int32} {P : Nat → Nat → Int32} {rk tm : Nat → Int32} (h : co_ok c ad M k N vs P) (hN : N ≤ 8) (hb : ba_ok c ad M kb kr kt sg sz rk tm) (hsz : sz ≤ 6) (h1 : kb < k) (h2 : kr < k) (h3 : kt < k) : bj_T (bw_G l D c) Y_Co_takeOut 3 (0, 0, 0, 0) ad (q_Co_putIn c ad M k N vs P rk (fun i => - tm i) sz) [.ref (ad k), .ref (ad kb)] M := by
  show bj_S _ _ _ _ _ _ 0 0 0 [some (.ref (ad k)), some (.ref (ad kb)), none] [] M
  refine bj_iconst (v := (nI 0)) d_Co_takeOut_0 (by decide) ?_
  refine bj_istore_n (L' := [some (.ref (ad k)), some (.ref (ad kb)), some (.int (nI 0))]) d_Co_takeOut_1 rfl (by decide) rfl ?_
  have lp : ∀ (i : Nat), ∀ (M2 : bj_M), (i ≤ sz) → (co_ok c ad M2 k N (co_vs (fun i => - tm i) vs i) (co_sum rk (fun i => - tm i) P i)) → (co_fr k N M M2) → bj_S (bw_G l D c) Y_Co_takeOut 3 (0, 0, 0, 0) ad (q_Co_putIn c ad M k N vs P rk (fun i => - tm i) sz) 0 0 2 [some (.ref (ad k)), some (.ref (ad kb)), some (.int (nI i))] [] M2 := by
    intro i M2
    induction hd_lp : sz - i using Nat.strongRecOn generalizing i M2 with
    | ind d_lp ih_lp =>
      intro hi h2c hf
      have hb2 : ba_ok c ad M2 kb kr kt sg sz rk tm := hb.in (hf _ (by omega)) (hf _ (by omega)) (hf _ (by omega))
      refine bj_iload_n d_Co_takeOut_2 rfl rfl ?_
      refine bj_aload_n d_Co_takeOut_3 rfl rfl ?_
      refine bj_getN d_Co_takeOut_4 in_Ba rfl (by decide : 1 < 4) wf_Co_29 rfl hb2.1 rfl ?_
      refine bj_icmp_geN (tgt := 33) d_Co_takeOut_7 (by decide) (by omega) (by omega) (fun h7 => ?_) (fun h7 => ?_)
      · exact bj_vret d_Co_takeOut_33 rfl (Nat.le_refl _) (Nat.le_refl _) ⟨rfl, by rw [show sz = i by omega]; exact h2c, hf⟩
      · refine bj_aload_n d_Co_takeOut_10 rfl rfl ?_
        refine bj_aload_n d_Co_takeOut_11 rfl rfl ?_
        refine bj_getN d_Co_takeOut_12 in_Ba rfl (by decide : 2 < 4) wf_Co_34 rfl hb2.1 rfl ?_
        refine bj_iload_n d_Co_takeOut_15 rfl rfl ?_
        refine bv_iald d_Co_takeOut_16 0 rfl hb2.2.1 (by omega) (by omega) rfl ?_
        refine bj_aload_n d_Co_takeOut_17 rfl rfl ?_
        refine bj_getN d_Co_takeOut_18 in_Ba rfl (by decide : 3 < 4) wf_Co_38 rfl hb2.1 rfl ?_
        refine bj_iload_n d_Co_takeOut_21 rfl rfl ?_
        refine bv_iald d_Co_takeOut_22 0 rfl hb2.2.2 (by omega) (by omega) rfl ?_
        refine bj_ineg (v := (-(tm i))) d_Co_takeOut_23 rfl ?_
        refine bj_cvR sv_Co_41 d_Co_takeOut_24 (t_Co_add l D c ad M2 h2c hN) rfl rfl (by decide) (by decide) (by decide) (Nat.le_of_ble_eq_true rfl) rfl h2c.1 rfl rfl (fun v1 N1 hq1 => ?_)
        obtain ⟨rfl, hc1, hf1⟩ := hq1
        show bj_S (bw_G l D c) Y_Co_takeOut 3 (0, 0, 0, 0) ad (q_Co_putIn c ad M k N vs P rk (fun i => - tm i) sz) 0 0 27 [some (.ref (ad k)), some (.ref (ad kb)), some (.int (nI i))] [] N1
        refine bj_iinc (v := (nI (i + 1))) (L' := [some (.ref (ad k)), some (.ref (ad kb)), some (.int (nI (i + 1)))]) d_Co_takeOut_27 rfl (bj_inc1 _) (by decide) rfl ?_
        refine bj_goto (tgt := 2) d_Co_takeOut_30 (by decide) ?_
        exact ih_lp (sz - (i + 1)) (by omega) (i + 1) N1 rfl (by omega) hc1 (hf.tr hf1)
  exact lp 0 M (Nat.zero_le _) h co_fr.rf
end C3
