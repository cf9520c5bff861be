/-! Count.add, putIn, takeOut (walks by gen/m_co2.py) -/
section C2
/-- cells outside a count stay -/
def co_fr (k N : Nat) (M M' : bj_M) : Prop := ∀ q, ¬ (k ≤ q ∧ q < k + 2 + N) → M' q = M q
theorem co_fr.rf {k N : Nat} {M : bj_M} : co_fr k N M M := fun _ _ => rfl
theorem co_fr.tr {k N : Nat} {M M' M'' : bj_M} (h : co_fr k N M M') (h' : co_fr k N M' M'') : co_fr k N M M'' := fun q hq => (h' q hq).trans (h q hq)
theorem co_fr.at {k N j : Nat} {M M' M'' : bj_M} (h : co_fr k N M M') (hj : k ≤ j ∧ j < k + 2 + N) (ho : ∀ q, q ≠ j → M'' q = M' q) : co_fr k N M M'' := fun q hq => (ho q (fun e => hq (by rw [e]; exact hj))).trans (h q hq)
theorem co_ok.to {c : Nat → ClassId} {ad : Nat → Nat} {M : bj_M} {k N : Nat} {vs : Int32} {P P' : Nat → Nat → Int32} (h : co_ok c ad M k N vs P) (e : ∀ a b, a < N → b < N → P a b = P' a b) : co_ok c ad M k N vs P' := ⟨h.1, h.2.1, fun a ha => (h.2.2 a ha).to (fun b hb => e a b ha hb)⟩
theorem co_ok.in {c : Nat → ClassId} {ad : Nat → Nat} {M M' : bj_M} {k N : Nat} {vs : Int32} {P : Nat → Nat → Int32} (h : co_ok c ad M k N vs P) (e : ∀ q, k ≤ q → q < k + 2 + N → M' q = M q) : co_ok c ad M' k N vs P := ⟨(e k (by omega) (by omega)).trans h.1, h.2.1.in (e _ (by omega) (by omega)), fun a ha => (h.2.2 a ha).in (e _ (by omega) (by omega))⟩
/-- one row of the grid is written -/
theorem co_ok.row {c : Nat → ClassId} {ad : Nat → Nat} {M M' : bj_M} {k N a : Nat} {vs : Int32} {P : Nat → Nat → Int32} {g : Nat → Int32} (h : co_ok c ad M k N vs P) (ha : a < N) (hr : bv_I (c 0) M' (k + 2 + a) N g) (ho : ∀ q, q ≠ k + 2 + a → M' q = M q) : co_ok c ad M' k N vs (va_up P a g) := by
  refine ⟨(ho k (by omega)).trans h.1, h.2.1.in (ho _ (by omega)), fun i hi => ?_⟩
  by_cases e : i = a
  · subst e
    rw [va_up_self]
    exact hr
  · rw [va_up_ne _ _ e]
    exact (h.2.2 i hi).in (ho _ (by omega))
theorem co_ok.vs {c : Nat → ClassId} {ad : Nat → Nat} {M : bj_M} {k N : Nat} {vs vs' : Int32} {P : Nat → Nat → Int32} (h : co_ok c ad M k N vs P) : co_ok c ad (va_up M k (some (.inr (2, [.int (nI N), .int vs', .ref (ad (k + 1))])))) k N vs' P :=
  ⟨va_up_self _ _ _, h.2.1.in (va_up_ne _ _ (by omega)), fun a ha => (h.2.2 a ha).in (va_up_ne _ _ (by omega))⟩
/-- v voters more with the ranking w -/
def co_add (w v : Int32) (P : Nat → Nat → Int32) (a b : Nat) : Int32 := P a b + (if bef w a b = true then v else 0)
/-- the same, as far as row a0, place b0 -/
def co_mid (w v : Int32) (P : Nat → Nat → Int32) (a0 b0 a b : Nat) : Int32 := if a < a0 ∨ (a = a0 ∧ b < b0) then co_add w v P a b else P a b
def q_Co_add (c : Nat → ClassId) (ad : Nat → Nat) (M : bj_M) (k N : Nat) (vs : Int32) (P : Nat → Nat → Int32) (w v : Int32) : bj_R → bj_M → Prop := bj_ret (fun r M' => r = none ∧ co_ok c ad M' k N (vs + v) (co_add w v P) ∧ co_fr k N M M')
variable (l : Launch) (D : va_G) (c : Nat → ClassId) (ad : Nat → Nat) (M : bj_M)
theorem co_mid_put {w v : Int32} {P : Nat → Nat → Int32} {a0 b0 : Nat} (h : bef w a0 b0 = true) (a b : Nat) : va_up (co_mid w v P a0 b0) a0 (va_up (co_mid w v P a0 b0 a0) b0 (co_mid w v P a0 b0 a0 b0 + v)) a b = co_mid w v P a0 (b0 + 1) a b := by
  by_cases e : a = a0
  · subst e
    rw [va_up_self]
    by_cases e2 : b = b0
    · subst e2
      rw [va_up_self]
      simp [co_mid, co_add, h]
    · rw [va_up_ne _ _ e2]
      unfold co_mid
      by_cases h2 : b < b0
      · rw [if_pos (Or.inr ⟨rfl, h2⟩), if_pos (Or.inr ⟨rfl, by omega⟩)]
      · rw [if_neg (by omega), if_neg (by omega)]
  · rw [va_up_ne _ _ e]
    unfold co_mid
    by_cases h2 : a < a0
    · rw [if_pos (Or.inl h2), if_pos (Or.inl h2)]
    · rw [if_neg (by omega), if_neg (by omega)]
theorem co_mid_no {w v : Int32} {P : Nat → Nat → Int32} {a0 b0 : Nat} (h : bef w a0 b0 = false) (a b : Nat) : co_mid w v P a0 b0 a b = co_mid w v P a0 (b0 + 1) a b := by
  unfold co_mid
  by_cases e : a = a0 ∧ b = b0
  · obtain ⟨rfl, rfl⟩ := e
    rw [if_neg (by omega), if_pos (Or.inr ⟨rfl, by omega⟩)]
    simp [co_add, h]
  · by_cases h2 : a < a0 ∨ (a = a0 ∧ b < b0)
    · rw [if_pos h2, if_pos (by omega)]
    · rw [if_neg h2, if_neg (by omega)]
theorem co_mid_next {w v : Int32} {P : Nat → Nat → Int32} {a0 b0 a b N : Nat} (h : N ≤ b0) (hb : b < N) : co_mid w v P a0 b0 a b = co_mid w v P (a0 + 1) 0 a b := by
  unfold co_mid
  by_cases h2 : a < a0 ∨ (a = a0 ∧ b < b0)
  · rw [if_pos h2, if_pos (by omega)]
  · rw [if_neg h2, if_neg (by omega)]
set_option maxRecDepth 100000 in
set_option maxHeartbeats 4000000 in
/-- add: the ranking's voters come to the count -/
theorem t_Co_add {k N : Nat} {vs w v : Int32} {P : Nat → Nat → Int32} (h : co_ok c ad M k N vs P) (hN : N ≤ 8) : bj_T (bw_G l D c) Y_Co_add 2 (0, 0, 0, 0) ad (q_Co_add c ad M k N vs P w v) [.ref (ad k), .int w, .int v] M := by
  show bj_S _ _ _ _ _ _ 0 0 0 [some (.ref (ad k)), some (.int w), some (.int v), none, none] [] M
  refine bj_aload_n d_Co_add_0 rfl rfl ?_
  refine bj_dup d_Co_add_1 rfl ?_
  refine bj_get d_Co_add_2 in_Co rfl (by decide : 1 < 3) wf_Co_15 rfl h.1 rfl ?_
  refine bj_iload_n d_Co_add_5 rfl rfl ?_
  refine bj_iadd (v := (vs + v)) d_Co_add_6 rfl ?_
  refine bj_put d_Co_add_7 in_Co ok_Co nm_Co rfl (by decide : 1 < 3) wf_Co_15 rfl rfl rfl rfl rfl (Nat.le_of_ble_eq_true rfl) h.1 ?_
  have h1 := h.vs (vs' := vs + v)
  have hf1 : co_fr k N M (va_up M k (some (.inr (2, [.int (nI N), .int (vs + v), .ref (ad (k + 1))])))) := fun q hq => va_up_ne _ _ (by omega)
  show bj_S _ _ _ _ _ _ 0 0 _ _ [] (va_up M k (some (.inr (2, [.int (nI N), .int (vs + v), .ref (ad (k + 1))]))))
  generalize va_up M k (some (.inr (2, [.int (nI N), .int (vs + v), .ref (ad (k + 1))]))) = M1 at h1 hf1 ⊢
  refine bj_iconst (v := (nI 0)) d_Co_add_10 (by decide) ?_
  refine bj_istore_n (L' := [some (.ref (ad k)), some (.int w), some (.int v), some (.int (nI 0)), none]) d_Co_add_11 rfl (by decide) rfl ?_
  have outer : ∀ (a0 : Nat) (x : Option Value) (M2 : bj_M), a0 ≤ N → co_ok c ad M2 k N (vs + v) (co_mid w v P a0 0) → co_fr k N M M2 → bj_S (bw_G l D c) Y_Co_add 2 (0, 0, 0, 0) ad (q_Co_add c ad M k N vs P w v) 0 0 12 [some (.ref (ad k)), some (.int w), some (.int v), some (.int (nI a0)), x] [] M2 := by
    intro a0 x M2
    induction hd : N - a0 using Nat.strongRecOn generalizing a0 x M2 with
    | ind d ih =>
      intro ha0 h2 hf
      refine bj_iload_n d_Co_add_12 rfl rfl ?_
      refine bj_aload_n d_Co_add_13 rfl rfl ?_
      refine bj_get d_Co_add_14 in_Co rfl (by decide : 0 < 3) wf_Co_9 rfl h2.1 rfl ?_
      refine bj_icmp_geN (tgt := 67) d_Co_add_17 (by decide) (by omega) (by omega) (fun h17 => ?_) (fun h17 => ?_)
      · exact bj_vret d_Co_add_67 rfl (Nat.le_refl _) (Nat.le_refl _) ⟨rfl, h2.to (fun a b ha hb => by rw [co_mid, if_pos (Or.inl (by omega))]), hf⟩
      · refine bj_iconst (v := (nI 0)) d_Co_add_20 (by decide) ?_
        refine bj_istore (L' := [some (.ref (ad k)), some (.int w), some (.int v), some (.int (nI a0)), some (.int (nI 0))]) d_Co_add_21 (by decide) rfl ?_
        have inner : ∀ (b0 : Nat) (M3 : bj_M), b0 ≤ N → co_ok c ad M3 k N (vs + v) (co_mid w v P a0 b0) → co_fr k N M M3 → bj_S (bw_G l D c) Y_Co_add 2 (0, 0, 0, 0) ad (q_Co_add c ad M k N vs P w v) 0 0 23 [some (.ref (ad k)), some (.int w), some (.int v), some (.int (nI a0)), some (.int (nI b0))] [] M3 := by
          intro b0 M3
          induction hd2 : N - b0 using Nat.strongRecOn generalizing b0 M3 with
          | ind d2 ih2 =>
            intro hb0 h3 hf3
            refine bj_iload d_Co_add_23 rfl ?_
            refine bj_aload_n d_Co_add_25 rfl rfl ?_
            refine bj_get d_Co_add_26 in_Co rfl (by decide : 0 < 3) wf_Co_9 rfl h3.1 rfl ?_
            refine bj_icmp_geN (tgt := 61) d_Co_add_29 (by decide) (by omega) (by omega) (fun h29 => ?_) (fun h29 => ?_)
            · refine bj_iinc (v := (nI (a0 + 1))) (L' := [some (.ref (ad k)), some (.int w), some (.int v), some (.int (nI (a0 + 1))), some (.int (nI b0))]) d_Co_add_61 rfl (bj_inc1 _) (by decide) rfl ?_
              refine bj_goto (tgt := 12) d_Co_add_64 (by decide) ?_
              exact ih (N - (a0 + 1)) (by omega) (a0 + 1) _ M3 rfl (by omega) (h3.to (fun a b ha hb => co_mid_next (by omega) (by omega))) hf3
            · refine bj_iload_n d_Co_add_32 rfl rfl ?_
              refine bj_iload_n d_Co_add_33 rfl rfl ?_
              refine bj_iload d_Co_add_34 rfl ?_
              refine bj_csF ss_Co_45 d_Co_add_36 (t_Co_comesBefore l D c ad M3 (by omega) (by omega)) rfl rfl (by decide) (by decide) (by decide) (Nat.le_of_ble_eq_true rfl) rfl ?_
              refine bj_if_eq (tgt := 55) d_Co_add_39 (by decide) (fun h39 => ?_) (fun h39 => ?_)
              · have e := bt_n0.mp h39
                refine bj_iinc (v := (nI (b0 + 1))) (L' := [some (.ref (ad k)), some (.int w), some (.int v), some (.int (nI a0)), some (.int (nI (b0 + 1)))]) d_Co_add_55 rfl (bj_inc1 _) (by decide) rfl ?_
                refine bj_goto (tgt := 23) d_Co_add_58 (by decide) ?_
                exact ih2 (N - (b0 + 1)) (by omega) (b0 + 1) M3 rfl (by omega) (h3.to (fun a b ha hb => co_mid_no (by assumption) a b)) hf3
              · have e := bt_nn h39
                refine bj_aload_n d_Co_add_42 rfl rfl ?_
                refine bj_get d_Co_add_43 in_Co rfl (by decide : 2 < 3) wf_Co_20 rfl h3.1 rfl ?_
                refine bj_iload_n d_Co_add_46 rfl rfl ?_
                refine bv_aald d_Co_add_47 4 rfl rfl h3.2.1 (by omega) (by omega) ?_
                refine bj_iload d_Co_add_48 rfl ?_
                refine bj_dup2 d_Co_add_50 rfl rfl ?_
                refine bv_iald d_Co_add_51 0 rfl (h3.2.2 a0 (by omega)) (by omega) (by omega) rfl ?_
                refine bj_iload_n d_Co_add_52 rfl rfl ?_
                refine bj_iadd (v := ((co_mid w v P a0 b0 a0 b0) + v)) d_Co_add_53 rfl ?_
                refine bv_iast d_Co_add_54 0 rfl (h3.2.2 a0 (by omega)) (by omega) (by omega) (fun N1 hN1 hO1 => ?_)
                have h4 := h3.row (by omega) hN1 hO1
                have hf4 := hf3.at (by omega) hO1
                refine bj_iinc (v := (nI (b0 + 1))) (L' := [some (.ref (ad k)), some (.int w), some (.int v), some (.int (nI a0)), some (.int (nI (b0 + 1)))]) d_Co_add_55 rfl (bj_inc1 _) (by decide) rfl ?_
                refine bj_goto (tgt := 23) d_Co_add_58 (by decide) ?_
                exact ih2 (N - (b0 + 1)) (by omega) (b0 + 1) N1 rfl (by omega) (h4.to (fun a b ha hb => co_mid_put (by assumption) a b)) hf4
        exact inner 0 M2 (Nat.zero_le _) h2 hf
        
  exact outer 0 none M1 (Nat.zero_le _) (h1.to (fun a b _ _ => by rw [co_mid, if_neg (by omega)])) hf1
  
end C2
