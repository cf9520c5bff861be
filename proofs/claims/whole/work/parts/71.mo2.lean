/-! the reference: tie, drawn, open, ballot, turn, correct, state, voters, seal (walks by gen/m_mo2.py) -/
section M2

theorem rk_up {rk : Nat → Nat → Int32} {b i j : Nat} {w : Int32} (hi : i < 6) : va_up (fun j => rk (j / 6) (j % 6)) (6 * b + i) w j = va_up rk b (va_up (rk b) i w) (j / 6) (j % 6) := by
  by_cases e : j = 6 * b + i
  · subst e
    rw [va_up_self, show (6 * b + i) / 6 = b by omega, va_up_self, show (6 * b + i) % 6 = i by omega, va_up_self]
  · rw [va_up_ne _ _ e]
    by_cases e2 : j / 6 = b
    · rw [e2, va_up_self, va_up_ne _ _ (show j % 6 ≠ i by omega)]
    · rw [va_up_ne _ _ e2]
theorem tm_up {tm : Nat → Nat → Nat} {b i j w : Nat} (hi : i < 6) : va_up (fun j => nI (tm (j / 6) (j % 6))) (6 * b + i) (nI w) j = nI (va_up tm b (va_up (tm b) i w) (j / 6) (j % 6)) := by
  by_cases e : j = 6 * b + i
  · subst e
    rw [va_up_self, show (6 * b + i) / 6 = b by omega, va_up_self, show (6 * b + i) % 6 = i by omega, va_up_self]
  · rw [va_up_ne _ _ e]
    by_cases e2 : j / 6 = b
    · rw [e2, va_up_self, va_up_ne _ _ (show j % 6 ≠ i by omega)]
    · rw [va_up_ne _ _ e2]
theorem to_3 {x : Int32} (h1 : ¬ x < 0) (h2 : x ≤ nI 2) : x = 0 ∨ x = nI 1 ∨ x = nI 2 := by
  obtain ⟨j, hj, rfl⟩ := nI_of h1
  have := (nI_leI hj (by decide)).mp h2
  have : j = 0 ∨ j = 1 ∨ j = 2 := by omega
  rcases this with rfl | rfl | rfl
  · exact Or.inl rfl
  · exact Or.inr (Or.inl rfl)
  · exact Or.inr (Or.inr rfl)
theorem to_n1 {x : Int32} (h1 : x < 0) : ¬ (x = 0 ∨ x = nI 1 ∨ x = nI 2) := by
  rintro (rfl | rfl | rfl) <;> exact absurd h1 (by decide)
theorem to_n2 {x : Int32} (h1 : ¬ x ≤ nI 2) : ¬ (x = 0 ∨ x = nI 1 ∨ x = nI 2) := by
  rintro (rfl | rfl | rfl) <;> exact h1 (by decide)
variable (l : Launch) (D : va_G) (c : Nat → ClassId) (ad : Nat → Nat) (M : bj_M)
set_option maxRecDepth 100000 in
set_option maxHeartbeats 4000000 in
/-- drawn -/
theorem t_Mo_drawn {N op : Nat} {cd : Int32} {se : Bool} {dw sg sz : Nat → Nat} {rk : Nat → Nat → Int32} {tm : Nat → Nat → Nat} (hA : mo_all c ad M N cd se op dw sg sz rk tm) (hiv : of_iv N op dw sg sz tm) {x1 : Int32} : bj_T (bw_G l D c) Y_Mo_drawn 2 (0, 0, 0, 0) ad (q_mod true (Rv (icC (ic N x1)) (at1 (fun i => nI (dw i)) x1)) (mo_st c ad M N se op dw sg sz rk tm) (mo_st c ad M N se op dw sg sz rk tm)) [.ref (ad 80), .int x1] M := by
  show bj_S _ _ _ _ _ _ 0 0 0 [some (.ref (ad 80)), some (.int x1)] [] M
  obtain ⟨⟨li, hm0⟩, hsc⟩ := hA
  obtain ⟨hN1, hN, hop, ⟨ps, hpm⟩, hbt, hun⟩ := hiv
  refine bj_aload_n d_Mo_drawn_0 rfl rfl ?_
  refine bj_aload_n d_Mo_drawn_1 rfl rfl ?_
  refine bj_iload_n d_Mo_drawn_2 rfl rfl ?_
  refine bj_cvF sv_Mo_57 d_Mo_drawn_3 (t_Mo_isCandidate l D c ad M hm0 hN) rfl rfl (by decide) (by decide) (by decide) (Nat.le_of_ble_eq_true rfl) rfl hm0.1 rfl rfl ?_
  refine bj_if_eq (tgt := 13) d_Mo_drawn_6 (by decide) (fun h6 => ?_) (fun h6 => ?_)
  · refine bj_iconst (v := (nI 1)) d_Mo_drawn_13 (by decide) ?_
    refine bj_put d_Mo_drawn_14 in_Mo ok_Mo nm_Mo rfl (by decide : 1 < 17) wf_Mo_51 rfl rfl rfl rfl rfl (Nat.le_of_ble_eq_true rfl) hm0.1 ?_
    have hm1 := hm0.hd (cd' := (nI 1)) (se' := se) (op' := op) (li' := li)
    have hx1 : mo_fx M (va_up M 80 (some (.inr (5, mo_F ad N (nI 1) se op li)))) := mo_fx.rf.at (j := 80) (by omega) (fun q hq => va_up_ne _ _ hq)
    have hw1 : ∀ q, q ≠ 80 → (va_up M 80 (some (.inr (5, mo_F ad N (nI 1) se op li)))) q = M q := fun q hq => va_up_ne _ _ hq
    show bj_S _ _ _ _ _ _ 0 0 _ _ [] (va_up M 80 (some (.inr (5, mo_F ad N (nI 1) se op li))))
    generalize va_up M 80 (some (.inr (5, mo_F ad N (nI 1) se op li))) = P1 at hm1 hx1 hw1 ⊢
    refine bj_aload_n d_Mo_drawn_17 rfl rfl ?_
    refine bj_get d_Mo_drawn_18 in_Mo rfl (by decide : 1 < 17) wf_Mo_51 rfl hm1.1 rfl ?_
    refine bj_if_leN (tgt := 28) d_Mo_drawn_21 (by decide) (by decide) (fun h => absurd h (by decide)) (fun _ => ?_)
    refine bj_iconst (v := (nI 0)) d_Mo_drawn_24 (by decide) ?_
    refine bj_goto (tgt := 34) d_Mo_drawn_25 (by decide) ?_
    exact bj_iret d_Mo_drawn_34 rfl rfl (Nat.le_refl _) (Nat.le_refl _) (q_modn 1 (by decide) (by decide) (Rv_n (icC_f (fun q => by rw [bt_n0.mp h6] at q; cases q)) (by decide)) ⟨⟨⟨_, hm1⟩, hsc.fx hx1⟩, hx1.fr⟩)
  · refine bj_iconst (v := (nI 0)) d_Mo_drawn_9 (by decide) ?_
    refine bj_goto (tgt := 14) d_Mo_drawn_10 (by decide) ?_
    refine bj_put d_Mo_drawn_14 in_Mo ok_Mo nm_Mo rfl (by decide : 1 < 17) wf_Mo_51 rfl rfl rfl rfl rfl (Nat.le_of_ble_eq_true rfl) hm0.1 ?_
    have hm1 := hm0.hd (cd' := (nI 0)) (se' := se) (op' := op) (li' := li)
    have hx1 : mo_fx M (va_up M 80 (some (.inr (5, mo_F ad N (nI 0) se op li)))) := mo_fx.rf.at (j := 80) (by omega) (fun q hq => va_up_ne _ _ hq)
    have hw1 : ∀ q, q ≠ 80 → (va_up M 80 (some (.inr (5, mo_F ad N (nI 0) se op li)))) q = M q := fun q hq => va_up_ne _ _ hq
    show bj_S _ _ _ _ _ _ 0 0 _ _ [] (va_up M 80 (some (.inr (5, mo_F ad N (nI 0) se op li))))
    generalize va_up M 80 (some (.inr (5, mo_F ad N (nI 0) se op li))) = P1 at hm1 hx1 hw1 ⊢
    refine bj_aload_n d_Mo_drawn_17 rfl rfl ?_
    refine bj_get d_Mo_drawn_18 in_Mo rfl (by decide : 1 < 17) wf_Mo_51 rfl hm1.1 rfl ?_
    refine bj_if_leN (tgt := 28) d_Mo_drawn_21 (by decide) (by decide) (fun _ => ?_) (fun h => absurd h (by decide))
    have h1 := bt_nn h6
    obtain ⟨a, ha, rfl⟩ := ic_t (by omega) h1
    refine bj_aload_n d_Mo_drawn_28 rfl rfl ?_
    refine bj_get d_Mo_drawn_29 in_Mo rfl (by decide : 3 < 17) wf_Mo_7 rfl hm1.1 rfl ?_
    refine bj_iload_n d_Mo_drawn_32 rfl rfl ?_
    refine bv_iald d_Mo_drawn_33 0 rfl hm1.2.1 (by omega) (by omega) rfl ?_
    exact bj_iret d_Mo_drawn_34 rfl rfl (Nat.le_refl _) (Nat.le_refl _) (q_mod0 (Rv_at1 (icC_t h1) (by omega) rfl) ⟨⟨⟨_, hm1⟩, hsc.fx hx1⟩, hx1.fr⟩)
set_option maxRecDepth 100000 in
set_option maxHeartbeats 4000000 in
/-- state -/
theorem t_Mo_state {N op : Nat} {cd : Int32} {se : Bool} {dw sg sz : Nat → Nat} {rk : Nat → Nat → Int32} {tm : Nat → Nat → Nat} (hA : mo_all c ad M N cd se op dw sg sz rk tm) (hiv : of_iv N op dw sg sz tm) {x1 : Int32} : bj_T (bw_G l D c) Y_Mo_state 2 (0, 0, 0, 0) ad (q_mod true (Rv (icC (ic op x1)) (at1 (fun i => nI (sg i)) x1)) (mo_st c ad M N se op dw sg sz rk tm) (mo_st c ad M N se op dw sg sz rk tm)) [.ref (ad 80), .int x1] M := by
  show bj_S _ _ _ _ _ _ 0 0 0 [some (.ref (ad 80)), some (.int x1)] [] M
  obtain ⟨⟨li, hm0⟩, hsc⟩ := hA
  obtain ⟨hN1, hN, hop, ⟨ps, hpm⟩, hbt, hun⟩ := hiv
  refine bj_aload_n d_Mo_state_0 rfl rfl ?_
  refine bj_aload_n d_Mo_state_1 rfl rfl ?_
  refine bj_iload_n d_Mo_state_2 rfl rfl ?_
  refine bj_cvF sv_Mo_73 d_Mo_state_3 (t_Mo_isBatch l D c ad M hm0 hN) rfl rfl (by decide) (by decide) (by decide) (Nat.le_of_ble_eq_true rfl) rfl hm0.1 rfl rfl ?_
  refine bj_if_eq (tgt := 13) d_Mo_state_6 (by decide) (fun h6 => ?_) (fun h6 => ?_)
  · refine bj_iconst (v := (nI 1)) d_Mo_state_13 (by decide) ?_
    refine bj_put d_Mo_state_14 in_Mo ok_Mo nm_Mo rfl (by decide : 1 < 17) wf_Mo_51 rfl rfl rfl rfl rfl (Nat.le_of_ble_eq_true rfl) hm0.1 ?_
    have hm1 := hm0.hd (cd' := (nI 1)) (se' := se) (op' := op) (li' := li)
    have hx1 : mo_fx M (va_up M 80 (some (.inr (5, mo_F ad N (nI 1) se op li)))) := mo_fx.rf.at (j := 80) (by omega) (fun q hq => va_up_ne _ _ hq)
    have hw1 : ∀ q, q ≠ 80 → (va_up M 80 (some (.inr (5, mo_F ad N (nI 1) se op li)))) q = M q := fun q hq => va_up_ne _ _ hq
    show bj_S _ _ _ _ _ _ 0 0 _ _ [] (va_up M 80 (some (.inr (5, mo_F ad N (nI 1) se op li))))
    generalize va_up M 80 (some (.inr (5, mo_F ad N (nI 1) se op li))) = P1 at hm1 hx1 hw1 ⊢
    refine bj_aload_n d_Mo_state_17 rfl rfl ?_
    refine bj_get d_Mo_state_18 in_Mo rfl (by decide : 1 < 17) wf_Mo_51 rfl hm1.1 rfl ?_
    refine bj_if_leN (tgt := 28) d_Mo_state_21 (by decide) (by decide) (fun h => absurd h (by decide)) (fun _ => ?_)
    refine bj_iconst (v := (nI 0)) d_Mo_state_24 (by decide) ?_
    refine bj_goto (tgt := 34) d_Mo_state_25 (by decide) ?_
    exact bj_iret d_Mo_state_34 rfl rfl (Nat.le_refl _) (Nat.le_refl _) (q_modn 1 (by decide) (by decide) (Rv_n (icC_f (fun q => by rw [bt_n0.mp h6] at q; cases q)) (by decide)) ⟨⟨⟨_, hm1⟩, hsc.fx hx1⟩, hx1.fr⟩)
  · refine bj_iconst (v := (nI 0)) d_Mo_state_9 (by decide) ?_
    refine bj_goto (tgt := 14) d_Mo_state_10 (by decide) ?_
    refine bj_put d_Mo_state_14 in_Mo ok_Mo nm_Mo rfl (by decide : 1 < 17) wf_Mo_51 rfl rfl rfl rfl rfl (Nat.le_of_ble_eq_true rfl) hm0.1 ?_
    have hm1 := hm0.hd (cd' := (nI 0)) (se' := se) (op' := op) (li' := li)
    have hx1 : mo_fx M (va_up M 80 (some (.inr (5, mo_F ad N (nI 0) se op li)))) := mo_fx.rf.at (j := 80) (by omega) (fun q hq => va_up_ne _ _ hq)
    have hw1 : ∀ q, q ≠ 80 → (va_up M 80 (some (.inr (5, mo_F ad N (nI 0) se op li)))) q = M q := fun q hq => va_up_ne _ _ hq
    show bj_S _ _ _ _ _ _ 0 0 _ _ [] (va_up M 80 (some (.inr (5, mo_F ad N (nI 0) se op li))))
    generalize va_up M 80 (some (.inr (5, mo_F ad N (nI 0) se op li))) = P1 at hm1 hx1 hw1 ⊢
    refine bj_aload_n d_Mo_state_17 rfl rfl ?_
    refine bj_get d_Mo_state_18 in_Mo rfl (by decide : 1 < 17) wf_Mo_51 rfl hm1.1 rfl ?_
    refine bj_if_leN (tgt := 28) d_Mo_state_21 (by decide) (by decide) (fun _ => ?_) (fun h => absurd h (by decide))
    have h1 := bt_nn h6
    obtain ⟨a, ha, rfl⟩ := ic_t (by omega) h1
    refine bj_aload_n d_Mo_state_28 rfl rfl ?_
    refine bj_get d_Mo_state_29 in_Mo rfl (by decide : 5 < 17) wf_Mo_13 rfl hm1.1 rfl ?_
    refine bj_iload_n d_Mo_state_32 rfl rfl ?_
    refine bv_iald d_Mo_state_33 0 rfl hm1.2.2.1 (by omega) (by omega) rfl ?_
    exact bj_iret d_Mo_state_34 rfl rfl (Nat.le_refl _) (Nat.le_refl _) (q_mod0 (Rv_at1 (icC_t h1) (by omega) rfl) ⟨⟨⟨_, hm1⟩, hsc.fx hx1⟩, hx1.fr⟩)
set_option maxRecDepth 100000 in
set_option maxHeartbeats 4000000 in
/-- open -/
theorem t_Mo_open {N op : Nat} {cd : Int32} {se : Bool} {dw sg sz : Nat → Nat} {rk : Nat → Nat → Int32} {tm : Nat → Nat → Nat} (hA : mo_all c ad M N cd se op dw sg sz rk tm) (hiv : of_iv N op dw sg sz tm)  : bj_T (bw_G l D c) Y_Mo_open 2 (0, 0, 0, 0) ad (q_mod true (Rv (if se = true ∨ op = 12 then 1 else 0) (nI op)) (mo_st c ad M N se (op + 1) dw sg sz rk tm) (mo_st c ad M N se op dw sg sz rk tm)) [.ref (ad 80)] M := by
  show bj_S _ _ _ _ _ _ 0 0 0 [some (.ref (ad 80))] [] M
  obtain ⟨⟨li, hm0⟩, hsc⟩ := hA
  obtain ⟨hN1, hN, hop, ⟨ps, hpm⟩, hbt, hun⟩ := hiv
  refine bj_aload_n d_Mo_open_0 rfl rfl ?_
  refine bj_aload_n d_Mo_open_1 rfl rfl ?_
  refine bj_get d_Mo_open_2 in_Mo rfl (by decide : 2 < 17) wf_Mo_61 rfl hm0.1 rfl ?_
  refine bj_if_ne (tgt := 17) d_Mo_open_5 (by decide) (fun h5 => ?_) (fun h5 => ?_)
  · refine bj_iconst (v := (nI 1)) d_Mo_open_17 (by decide) ?_
    refine bj_goto (tgt := 22) d_Mo_open_18 (by decide) ?_
    refine bj_put d_Mo_open_22 in_Mo ok_Mo nm_Mo rfl (by decide : 1 < 17) wf_Mo_51 rfl rfl rfl rfl rfl (Nat.le_of_ble_eq_true rfl) hm0.1 ?_
    have hm1 := hm0.hd (cd' := (nI 1)) (se' := se) (op' := op) (li' := li)
    have hx1 : mo_fx M (va_up M 80 (some (.inr (5, mo_F ad N (nI 1) se op li)))) := mo_fx.rf.at (j := 80) (by omega) (fun q hq => va_up_ne _ _ hq)
    have hw1 : ∀ q, q ≠ 80 → (va_up M 80 (some (.inr (5, mo_F ad N (nI 1) se op li)))) q = M q := fun q hq => va_up_ne _ _ hq
    show bj_S _ _ _ _ _ _ 0 0 _ _ [] (va_up M 80 (some (.inr (5, mo_F ad N (nI 1) se op li))))
    generalize va_up M 80 (some (.inr (5, mo_F ad N (nI 1) se op li))) = P1 at hm1 hx1 hw1 ⊢
    refine bj_aload_n d_Mo_open_25 rfl rfl ?_
    refine bj_get d_Mo_open_26 in_Mo rfl (by decide : 1 < 17) wf_Mo_51 rfl hm1.1 rfl ?_
    refine bj_if_leN (tgt := 34) d_Mo_open_29 (by decide) (by decide) (fun h => absurd h (by decide)) (fun _ => ?_)
    refine bj_iconst (v := (nI 0)) d_Mo_open_32 (by decide) ?_
    exact bj_iret d_Mo_open_33 rfl rfl (Nat.le_refl _) (Nat.le_refl _) (q_modn 1 (by decide) (by decide) (Rv_n (if_pos (by first | exact Or.inl (bt_nn h5) | exact Or.inr h14)) (by decide)) ⟨⟨⟨_, hm1⟩, hsc.fx hx1⟩, hx1.fr⟩)
  · refine bj_aload_n d_Mo_open_8 rfl rfl ?_
    refine bj_get d_Mo_open_9 in_Mo rfl (by decide : 4 < 17) wf_Mo_54 rfl hm0.1 rfl ?_
    refine bj_bipush (v := (nI 12)) d_Mo_open_12 (by decide) ?_
    refine bj_icmp_neN (tgt := 21) d_Mo_open_14 (by decide) (by omega) (by omega) (fun h14 => ?_) (fun h14 => ?_)
    · refine bj_iconst (v := (nI 0)) d_Mo_open_21 (by decide) ?_
      refine bj_put d_Mo_open_22 in_Mo ok_Mo nm_Mo rfl (by decide : 1 < 17) wf_Mo_51 rfl rfl rfl rfl rfl (Nat.le_of_ble_eq_true rfl) hm0.1 ?_
      have hm1 := hm0.hd (cd' := (nI 0)) (se' := se) (op' := op) (li' := li)
      have hx1 : mo_fx M (va_up M 80 (some (.inr (5, mo_F ad N (nI 0) se op li)))) := mo_fx.rf.at (j := 80) (by omega) (fun q hq => va_up_ne _ _ hq)
      have hw1 : ∀ q, q ≠ 80 → (va_up M 80 (some (.inr (5, mo_F ad N (nI 0) se op li)))) q = M q := fun q hq => va_up_ne _ _ hq
      show bj_S _ _ _ _ _ _ 0 0 _ _ [] (va_up M 80 (some (.inr (5, mo_F ad N (nI 0) se op li))))
      generalize va_up M 80 (some (.inr (5, mo_F ad N (nI 0) se op li))) = P1 at hm1 hx1 hw1 ⊢
      refine bj_aload_n d_Mo_open_25 rfl rfl ?_
      refine bj_get d_Mo_open_26 in_Mo rfl (by decide : 1 < 17) wf_Mo_51 rfl hm1.1 rfl ?_
      refine bj_if_leN (tgt := 34) d_Mo_open_29 (by decide) (by decide) (fun _ => ?_) (fun h => absurd h (by decide))
      refine bj_aload_n d_Mo_open_34 rfl rfl ?_
      refine bj_dup d_Mo_open_35 rfl ?_
      refine bj_get d_Mo_open_36 in_Mo rfl (by decide : 4 < 17) wf_Mo_54 rfl hm1.1 rfl ?_
      refine bj_iconst (v := (nI 1)) d_Mo_open_39 (by decide) ?_
      refine bj_iadd (v := (nI (op + 1))) d_Mo_open_40 (nI_add _ _) ?_
      refine bj_put d_Mo_open_41 in_Mo ok_Mo nm_Mo rfl (by decide : 4 < 17) wf_Mo_54 rfl rfl rfl rfl rfl (Nat.le_of_ble_eq_true rfl) hm1.1 ?_
      have hm2 := hm1.hd (cd' := (nI 0)) (se' := se) (op' := (op + 1)) (li' := li)
      have hx2 : mo_fx M (va_up P1 80 (some (.inr (5, mo_F ad N (nI 0) se (op + 1) li)))) := hx1.at (j := 80) (by omega) (fun q hq => va_up_ne _ _ hq)
      have hw2 : ∀ q, q ≠ 80 → (va_up P1 80 (some (.inr (5, mo_F ad N (nI 0) se (op + 1) li)))) q = P1 q := fun q hq => va_up_ne _ _ hq
      show bj_S _ _ _ _ _ _ 0 0 _ _ [] (va_up P1 80 (some (.inr (5, mo_F ad N (nI 0) se (op + 1) li))))
      generalize va_up P1 80 (some (.inr (5, mo_F ad N (nI 0) se (op + 1) li))) = P2 at hm2 hx2 hw2 ⊢
      refine bj_aload_n d_Mo_open_44 rfl rfl ?_
      refine bj_get d_Mo_open_45 in_Mo rfl (by decide : 4 < 17) wf_Mo_54 rfl hm2.1 rfl ?_
      refine bj_iconst (v := (nI 1)) d_Mo_open_48 (by decide) ?_
      refine bj_isub (v := (nI op)) d_Mo_open_49 (pk_sub (by omega)) ?_
      exact bj_iret d_Mo_open_50 rfl rfl (Nat.le_refl _) (Nat.le_refl _) (q_mod0 (Rv_0 (if_neg (fun q => q.elim (fun q => by rw [bt_n0.mp h5] at q; cases q) (fun q => h14 q)))) ⟨⟨⟨_, hm2⟩, hsc.fx hx2⟩, hx2.fr⟩)
    · refine bj_iconst (v := (nI 1)) d_Mo_open_17 (by decide) ?_
      refine bj_goto (tgt := 22) d_Mo_open_18 (by decide) ?_
      refine bj_put d_Mo_open_22 in_Mo ok_Mo nm_Mo rfl (by decide : 1 < 17) wf_Mo_51 rfl rfl rfl rfl rfl (Nat.le_of_ble_eq_true rfl) hm0.1 ?_
      have hm1 := hm0.hd (cd' := (nI 1)) (se' := se) (op' := op) (li' := li)
      have hx1 : mo_fx M (va_up M 80 (some (.inr (5, mo_F ad N (nI 1) se op li)))) := mo_fx.rf.at (j := 80) (by omega) (fun q hq => va_up_ne _ _ hq)
      have hw1 : ∀ q, q ≠ 80 → (va_up M 80 (some (.inr (5, mo_F ad N (nI 1) se op li)))) q = M q := fun q hq => va_up_ne _ _ hq
      show bj_S _ _ _ _ _ _ 0 0 _ _ [] (va_up M 80 (some (.inr (5, mo_F ad N (nI 1) se op li))))
      generalize va_up M 80 (some (.inr (5, mo_F ad N (nI 1) se op li))) = P1 at hm1 hx1 hw1 ⊢
      refine bj_aload_n d_Mo_open_25 rfl rfl ?_
      refine bj_get d_Mo_open_26 in_Mo rfl (by decide : 1 < 17) wf_Mo_51 rfl hm1.1 rfl ?_
      refine bj_if_leN (tgt := 34) d_Mo_open_29 (by decide) (by decide) (fun h => absurd h (by decide)) (fun _ => ?_)
      refine bj_iconst (v := (nI 0)) d_Mo_open_32 (by decide) ?_
      exact bj_iret d_Mo_open_33 rfl rfl (Nat.le_refl _) (Nat.le_refl _) (q_modn 1 (by decide) (by decide) (Rv_n (if_pos (by first | exact Or.inl (bt_nn h5) | exact Or.inr h14)) (by decide)) ⟨⟨⟨_, hm1⟩, hsc.fx hx1⟩, hx1.fr⟩)
set_option maxRecDepth 100000 in
set_option maxHeartbeats 4000000 in
/-- seal -/
theorem t_Mo_seal {N op : Nat} {cd : Int32} {se : Bool} {dw sg sz : Nat → Nat} {rk : Nat → Nat → Int32} {tm : Nat → Nat → Nat} (hA : mo_all c ad M N cd se op dw sg sz rk tm) (hiv : of_iv N op dw sg sz tm)  : bj_T (bw_G l D c) Y_Mo_seal 2 (0, 0, 0, 0) ad (q_mod true (Rv 0 (bt_n (!se))) (mo_st c ad M N (true) op dw sg sz rk tm) (mo_st c ad M N se op dw sg sz rk tm)) [.ref (ad 80)] M := by
  show bj_S _ _ _ _ _ _ 0 0 0 [some (.ref (ad 80)), none] [] M
  obtain ⟨⟨li, hm0⟩, hsc⟩ := hA
  obtain ⟨hN1, hN, hop, ⟨ps, hpm⟩, hbt, hun⟩ := hiv
  refine bj_aload_n d_Mo_seal_0 rfl rfl ?_
  refine bj_iconst (v := (nI 0)) d_Mo_seal_1 (by decide) ?_
  refine bj_put d_Mo_seal_2 in_Mo ok_Mo nm_Mo rfl (by decide : 1 < 17) wf_Mo_51 rfl rfl rfl rfl rfl (Nat.le_of_ble_eq_true rfl) hm0.1 ?_
  have hm1 := hm0.hd (cd' := (nI 0)) (se' := se) (op' := op) (li' := li)
  have hx1 : mo_fx M (va_up M 80 (some (.inr (5, mo_F ad N (nI 0) se op li)))) := mo_fx.rf.at (j := 80) (by omega) (fun q hq => va_up_ne _ _ hq)
  have hw1 : ∀ q, q ≠ 80 → (va_up M 80 (some (.inr (5, mo_F ad N (nI 0) se op li)))) q = M q := fun q hq => va_up_ne _ _ hq
  show bj_S _ _ _ _ _ _ 0 0 _ _ [] (va_up M 80 (some (.inr (5, mo_F ad N (nI 0) se op li))))
  generalize va_up M 80 (some (.inr (5, mo_F ad N (nI 0) se op li))) = P1 at hm1 hx1 hw1 ⊢
  refine bj_aload_n d_Mo_seal_5 rfl rfl ?_
  refine bj_get d_Mo_seal_6 in_Mo rfl (by decide : 2 < 17) wf_Mo_61 rfl hm1.1 rfl ?_
  refine bj_istore_n (L' := [some (.ref (ad 80)), some (.int (bt_n se))]) d_Mo_seal_9 rfl (by decide) rfl ?_
  refine bj_aload_n d_Mo_seal_10 rfl rfl ?_
  refine bj_iconst (v := (nI 1)) d_Mo_seal_11 (by decide) ?_
  refine bj_put d_Mo_seal_12 in_Mo ok_Mo nm_Mo rfl (by decide : 2 < 17) wf_Mo_61 rfl rfl rfl rfl rfl (Nat.le_of_ble_eq_true rfl) hm1.1 ?_
  have hm2 := hm1.hd (cd' := (nI 0)) (se' := true) (op' := op) (li' := li)
  have hx2 : mo_fx M (va_up P1 80 (some (.inr (5, mo_F ad N (nI 0) true op li)))) := hx1.at (j := 80) (by omega) (fun q hq => va_up_ne _ _ hq)
  have hw2 : ∀ q, q ≠ 80 → (va_up P1 80 (some (.inr (5, mo_F ad N (nI 0) true op li)))) q = P1 q := fun q hq => va_up_ne _ _ hq
  show bj_S _ _ _ _ _ _ 0 0 _ _ [] (va_up P1 80 (some (.inr (5, mo_F ad N (nI 0) true op li))))
  generalize va_up P1 80 (some (.inr (5, mo_F ad N (nI 0) true op li))) = P2 at hm2 hx2 hw2 ⊢
  refine bj_iload_n d_Mo_seal_15 rfl rfl ?_
  refine bj_if_ne (tgt := 23) d_Mo_seal_16 (by decide) (fun h16 => ?_) (fun h16 => ?_)
  · refine bj_iconst (v := (nI 0)) d_Mo_seal_23 (by decide) ?_
    exact bj_iret d_Mo_seal_24 rfl rfl (Nat.le_refl _) (Nat.le_refl _) (q_mod0 ⟨rfl, by rw [bt_nn h16]; rfl⟩ ⟨⟨⟨_, hm2⟩, hsc.fx hx2⟩, hx2.fr⟩)
  · refine bj_iconst (v := (nI 1)) d_Mo_seal_19 (by decide) ?_
    refine bj_goto (tgt := 24) d_Mo_seal_20 (by decide) ?_
    exact bj_iret d_Mo_seal_24 rfl rfl (Nat.le_refl _) (Nat.le_refl _) (q_mod0 ⟨rfl, by rw [bt_n0.mp h16]; rfl⟩ ⟨⟨⟨_, hm2⟩, hsc.fx hx2⟩, hx2.fr⟩)
set_option maxRecDepth 100000 in
set_option maxHeartbeats 4000000 in
/-- turn -/
theorem t_Mo_turn {N op : Nat} {cd : Int32} {se : Bool} {dw sg sz : Nat → Nat} {rk : Nat → Nat → Int32} {tm : Nat → Nat → Nat} (hA : mo_all c ad M N cd se op dw sg sz rk tm) (hiv : of_iv N op dw sg sz tm) {x1 x2 : Int32} : bj_T (bw_G l D c) Y_Mo_turn 2 (0, 0, 0, 0) ad (q_mod false (Rc none (turF op se sg ((x1 : Int32).toNatClampNeg) x1 x2) 1) (mo_st c ad M N se op dw (va_up sg ((x1 : Int32).toNatClampNeg) (if x2 = nI 1 then 2 else 1)) sz rk tm) (mo_st c ad M N se op dw sg sz rk tm)) [.ref (ad 80), .int x1, .int x2] M := by
  show bj_S _ _ _ _ _ _ 0 0 0 [some (.ref (ad 80)), some (.int x1), some (.int x2)] [] M
  obtain ⟨⟨li, hm0⟩, hsc⟩ := hA
  obtain ⟨hN1, hN, hop, ⟨ps, hpm⟩, hbt, hun⟩ := hiv
  refine bj_aload_n d_Mo_turn_0 rfl rfl ?_
  refine bj_aload_n d_Mo_turn_1 rfl rfl ?_
  refine bj_iload_n d_Mo_turn_2 rfl rfl ?_
  refine bj_cvF sv_Mo_73 d_Mo_turn_3 (t_Mo_isBatch l D c ad M hm0 hN) rfl rfl (by decide) (by decide) (by decide) (Nat.le_of_ble_eq_true rfl) rfl hm0.1 rfl rfl ?_
  refine bj_if_eq (tgt := 18) d_Mo_turn_6 (by decide) (fun h6 => ?_) (fun h6 => ?_)
  · refine bj_iconst (v := (nI 1)) d_Mo_turn_18 (by decide) ?_
    refine bj_goto (tgt := 23) d_Mo_turn_19 (by decide) ?_
    refine bj_put d_Mo_turn_23 in_Mo ok_Mo nm_Mo rfl (by decide : 1 < 17) wf_Mo_51 rfl rfl rfl rfl rfl (Nat.le_of_ble_eq_true rfl) hm0.1 ?_
    have hm1 := hm0.hd (cd' := (nI 1)) (se' := se) (op' := op) (li' := li)
    have hx1 : mo_fx M (va_up M 80 (some (.inr (5, mo_F ad N (nI 1) se op li)))) := mo_fx.rf.at (j := 80) (by omega) (fun q hq => va_up_ne _ _ hq)
    have hw1 : ∀ q, q ≠ 80 → (va_up M 80 (some (.inr (5, mo_F ad N (nI 1) se op li)))) q = M q := fun q hq => va_up_ne _ _ hq
    show bj_S _ _ _ _ _ _ 0 0 _ _ [] (va_up M 80 (some (.inr (5, mo_F ad N (nI 1) se op li))))
    generalize va_up M 80 (some (.inr (5, mo_F ad N (nI 1) se op li))) = P1 at hm1 hx1 hw1 ⊢
    refine bj_aload_n d_Mo_turn_26 rfl rfl ?_
    refine bj_get d_Mo_turn_27 in_Mo rfl (by decide : 1 < 17) wf_Mo_51 rfl hm1.1 rfl ?_
    refine bj_if_leN (tgt := 34) d_Mo_turn_30 (by decide) (by decide) (fun h => absurd h (by decide)) (fun _ => ?_)
    exact bj_vret d_Mo_turn_33 rfl (Nat.le_refl _) (Nat.le_refl _) (q_modn 1 (by decide) (by decide) (Or.inl ⟨fun q => by first | (rw [bt_n0.mp h6] at q; exact absurd q.1 (by decide)) | exact to_n1 h10 q.2 | exact to_n2 h15 q.2, rfl, rfl⟩) ⟨⟨⟨_, hm1⟩, hsc.fx hx1⟩, hx1.fr⟩)
  · refine bj_iload_n d_Mo_turn_9 rfl rfl ?_
    refine bj_if_lt (tgt := 18) d_Mo_turn_10 (by decide) (fun h10 => ?_) (fun h10 => ?_)
    · refine bj_iconst (v := (nI 1)) d_Mo_turn_18 (by decide) ?_
      refine bj_goto (tgt := 23) d_Mo_turn_19 (by decide) ?_
      refine bj_put d_Mo_turn_23 in_Mo ok_Mo nm_Mo rfl (by decide : 1 < 17) wf_Mo_51 rfl rfl rfl rfl rfl (Nat.le_of_ble_eq_true rfl) hm0.1 ?_
      have hm1 := hm0.hd (cd' := (nI 1)) (se' := se) (op' := op) (li' := li)
      have hx1 : mo_fx M (va_up M 80 (some (.inr (5, mo_F ad N (nI 1) se op li)))) := mo_fx.rf.at (j := 80) (by omega) (fun q hq => va_up_ne _ _ hq)
      have hw1 : ∀ q, q ≠ 80 → (va_up M 80 (some (.inr (5, mo_F ad N (nI 1) se op li)))) q = M q := fun q hq => va_up_ne _ _ hq
      show bj_S _ _ _ _ _ _ 0 0 _ _ [] (va_up M 80 (some (.inr (5, mo_F ad N (nI 1) se op li))))
      generalize va_up M 80 (some (.inr (5, mo_F ad N (nI 1) se op li))) = P1 at hm1 hx1 hw1 ⊢
      refine bj_aload_n d_Mo_turn_26 rfl rfl ?_
      refine bj_get d_Mo_turn_27 in_Mo rfl (by decide : 1 < 17) wf_Mo_51 rfl hm1.1 rfl ?_
      refine bj_if_leN (tgt := 34) d_Mo_turn_30 (by decide) (by decide) (fun h => absurd h (by decide)) (fun _ => ?_)
      exact bj_vret d_Mo_turn_33 rfl (Nat.le_refl _) (Nat.le_refl _) (q_modn 1 (by decide) (by decide) (Or.inl ⟨fun q => by first | (rw [bt_n0.mp h6] at q; exact absurd q.1 (by decide)) | exact to_n1 h10 q.2 | exact to_n2 h15 q.2, rfl, rfl⟩) ⟨⟨⟨_, hm1⟩, hsc.fx hx1⟩, hx1.fr⟩)
    · refine bj_iload_n d_Mo_turn_13 rfl rfl ?_
      refine bj_iconst (v := (nI 2)) d_Mo_turn_14 (by decide) ?_
      refine bj_icmp_le (tgt := 22) d_Mo_turn_15 (by decide) (fun h15 => ?_) (fun h15 => ?_)
      · refine bj_iconst (v := (nI 0)) d_Mo_turn_22 (by decide) ?_
        refine bj_put d_Mo_turn_23 in_Mo ok_Mo nm_Mo rfl (by decide : 1 < 17) wf_Mo_51 rfl rfl rfl rfl rfl (Nat.le_of_ble_eq_true rfl) hm0.1 ?_
        have hm1 := hm0.hd (cd' := (nI 0)) (se' := se) (op' := op) (li' := li)
        have hx1 : mo_fx M (va_up M 80 (some (.inr (5, mo_F ad N (nI 0) se op li)))) := mo_fx.rf.at (j := 80) (by omega) (fun q hq => va_up_ne _ _ hq)
        have hw1 : ∀ q, q ≠ 80 → (va_up M 80 (some (.inr (5, mo_F ad N (nI 0) se op li)))) q = M q := fun q hq => va_up_ne _ _ hq
        show bj_S _ _ _ _ _ _ 0 0 _ _ [] (va_up M 80 (some (.inr (5, mo_F ad N (nI 0) se op li))))
        generalize va_up M 80 (some (.inr (5, mo_F ad N (nI 0) se op li))) = P1 at hm1 hx1 hw1 ⊢
        refine bj_aload_n d_Mo_turn_26 rfl rfl ?_
        refine bj_get d_Mo_turn_27 in_Mo rfl (by decide : 1 < 17) wf_Mo_51 rfl hm1.1 rfl ?_
        refine bj_if_leN (tgt := 34) d_Mo_turn_30 (by decide) (by decide) (fun _ => ?_) (fun h => absurd h (by decide))
        have h1 := bt_nn h6
        obtain ⟨a, ha, rfl⟩ := ic_t (by omega) h1
        have hcl : (nI a).toNatClampNeg = a := nI_clamp (by omega)
        have hba := hbt a (by omega)
        refine bj_aload_n d_Mo_turn_34 rfl rfl ?_
        refine bj_aload_n d_Mo_turn_35 rfl rfl ?_
        refine bj_get d_Mo_turn_36 in_Mo rfl (by decide : 2 < 17) wf_Mo_61 rfl hm1.1 rfl ?_
        refine bj_if_ne (tgt := 52) d_Mo_turn_39 (by decide) (fun h39 => ?_) (fun h39 => ?_)
        · refine bj_iconst (v := (nI 2)) d_Mo_turn_52 (by decide) ?_
          refine bj_goto (tgt := 57) d_Mo_turn_53 (by decide) ?_
          refine bj_put d_Mo_turn_57 in_Mo ok_Mo nm_Mo rfl (by decide : 1 < 17) wf_Mo_51 rfl rfl rfl rfl rfl (Nat.le_of_ble_eq_true rfl) hm1.1 ?_
          have hm2 := hm1.hd (cd' := (nI 2)) (se' := se) (op' := op) (li' := li)
          have hx2 : mo_fx M (va_up P1 80 (some (.inr (5, mo_F ad N (nI 2) se op li)))) := hx1.at (j := 80) (by omega) (fun q hq => va_up_ne _ _ hq)
          have hw2 : ∀ q, q ≠ 80 → (va_up P1 80 (some (.inr (5, mo_F ad N (nI 2) se op li)))) q = P1 q := fun q hq => va_up_ne _ _ hq
          show bj_S _ _ _ _ _ _ 0 0 _ _ [] (va_up P1 80 (some (.inr (5, mo_F ad N (nI 2) se op li))))
          generalize va_up P1 80 (some (.inr (5, mo_F ad N (nI 2) se op li))) = P2 at hm2 hx2 hw2 ⊢
          refine bj_aload_n d_Mo_turn_60 rfl rfl ?_
          refine bj_get d_Mo_turn_61 in_Mo rfl (by decide : 1 < 17) wf_Mo_51 rfl hm2.1 rfl ?_
          refine bj_if_neN (tgt := 83) d_Mo_turn_64 (by decide) (by decide) (fun _ => ?_) (fun h => absurd h (by decide))
          exact bj_vret d_Mo_turn_83 rfl (Nat.le_refl _) (Nat.le_refl _) (q_modn 2 (by decide) (by decide) (Or.inr ⟨⟨h1, to_3 h10 h15⟩, Or.inl ⟨fun q => by first | (rw [q.1] at h39; exact h39 rfl) | (rw [hcl] at q; exact h49 q.2), rfl, rfl⟩⟩) ⟨⟨⟨_, hm2⟩, hsc.fx hx2⟩, hx2.fr⟩)
        · refine bj_aload_n d_Mo_turn_42 rfl rfl ?_
          refine bj_get d_Mo_turn_43 in_Mo rfl (by decide : 5 < 17) wf_Mo_13 rfl hm1.1 rfl ?_
          refine bj_iload_n d_Mo_turn_46 rfl rfl ?_
          refine bv_iald d_Mo_turn_47 0 rfl hm1.2.2.1 (by omega) (by omega) rfl ?_
          refine bj_iload_n d_Mo_turn_48 rfl rfl ?_
          refine bj_icmp_eq (tgt := 56) d_Mo_turn_49 (by decide) (fun h49 => ?_) (fun h49 => ?_)
          · refine bj_iconst (v := (nI 0)) d_Mo_turn_56 (by decide) ?_
            refine bj_put d_Mo_turn_57 in_Mo ok_Mo nm_Mo rfl (by decide : 1 < 17) wf_Mo_51 rfl rfl rfl rfl rfl (Nat.le_of_ble_eq_true rfl) hm1.1 ?_
            have hm2 := hm1.hd (cd' := (nI 0)) (se' := se) (op' := op) (li' := li)
            have hx2 : mo_fx M (va_up P1 80 (some (.inr (5, mo_F ad N (nI 0) se op li)))) := hx1.at (j := 80) (by omega) (fun q hq => va_up_ne _ _ hq)
            have hw2 : ∀ q, q ≠ 80 → (va_up P1 80 (some (.inr (5, mo_F ad N (nI 0) se op li)))) q = P1 q := fun q hq => va_up_ne _ _ hq
            show bj_S _ _ _ _ _ _ 0 0 _ _ [] (va_up P1 80 (some (.inr (5, mo_F ad N (nI 0) se op li))))
            generalize va_up P1 80 (some (.inr (5, mo_F ad N (nI 0) se op li))) = P2 at hm2 hx2 hw2 ⊢
            refine bj_aload_n d_Mo_turn_60 rfl rfl ?_
            refine bj_get d_Mo_turn_61 in_Mo rfl (by decide : 1 < 17) wf_Mo_51 rfl hm2.1 rfl ?_
            refine bj_if_neN (tgt := 83) d_Mo_turn_64 (by decide) (by decide) (fun h => absurd h (by decide)) (fun _ => ?_)
            refine bj_aload_n d_Mo_turn_67 rfl rfl ?_
            refine bj_get d_Mo_turn_68 in_Mo rfl (by decide : 5 < 17) wf_Mo_13 rfl hm2.1 rfl ?_
            refine bj_iload_n d_Mo_turn_71 rfl rfl ?_
            refine bj_iload_n d_Mo_turn_72 rfl rfl ?_
            refine bj_iconst (v := (nI 1)) d_Mo_turn_73 (by decide) ?_
            refine bj_icmp_ne (tgt := 81) d_Mo_turn_74 (by decide) (fun h74 => ?_) (fun h74 => ?_)
            · refine bj_iconst (v := (nI 1)) d_Mo_turn_81 (by decide) ?_
              refine bv_iast d_Mo_turn_82 0 rfl hm2.2.2.1 (by omega) (by omega) (fun N1 hN1 hO1 => ?_)
              have hmn := hm2.p2 (sg' := va_up sg a 1) (bv_I.upn hN1) hO1
              have hxn : mo_fx M N1 := hx2.at (by omega) hO1
              exact bj_vret d_Mo_turn_83 rfl (Nat.le_refl _) (Nat.le_refl _) (q_mod0 (Or.inr ⟨⟨h1, to_3 h10 h15⟩, Or.inr ⟨⟨bt_n0.mp h39, by rw [hcl]; exact h49⟩, rfl, rfl⟩⟩) (by rw [hcl, if_neg h74]; exact ⟨⟨⟨_, hmn⟩, hsc.fx hxn⟩, hxn.fr⟩))
            · refine bj_iconst (v := (nI 2)) d_Mo_turn_77 (by decide) ?_
              refine bj_goto (tgt := 82) d_Mo_turn_78 (by decide) ?_
              refine bv_iast d_Mo_turn_82 0 rfl hm2.2.2.1 (by omega) (by omega) (fun N1 hN1 hO1 => ?_)
              have hmn := hm2.p2 (sg' := va_up sg a 2) (bv_I.upn hN1) hO1
              have hxn : mo_fx M N1 := hx2.at (by omega) hO1
              exact bj_vret d_Mo_turn_83 rfl (Nat.le_refl _) (Nat.le_refl _) (q_mod0 (Or.inr ⟨⟨h1, to_3 h10 h15⟩, Or.inr ⟨⟨bt_n0.mp h39, by rw [hcl]; exact h49⟩, rfl, rfl⟩⟩) (by rw [hcl, if_pos h74]; exact ⟨⟨⟨_, hmn⟩, hsc.fx hxn⟩, hxn.fr⟩))
          · refine bj_iconst (v := (nI 2)) d_Mo_turn_52 (by decide) ?_
            refine bj_goto (tgt := 57) d_Mo_turn_53 (by decide) ?_
            refine bj_put d_Mo_turn_57 in_Mo ok_Mo nm_Mo rfl (by decide : 1 < 17) wf_Mo_51 rfl rfl rfl rfl rfl (Nat.le_of_ble_eq_true rfl) hm1.1 ?_
            have hm2 := hm1.hd (cd' := (nI 2)) (se' := se) (op' := op) (li' := li)
            have hx2 : mo_fx M (va_up P1 80 (some (.inr (5, mo_F ad N (nI 2) se op li)))) := hx1.at (j := 80) (by omega) (fun q hq => va_up_ne _ _ hq)
            have hw2 : ∀ q, q ≠ 80 → (va_up P1 80 (some (.inr (5, mo_F ad N (nI 2) se op li)))) q = P1 q := fun q hq => va_up_ne _ _ hq
            show bj_S _ _ _ _ _ _ 0 0 _ _ [] (va_up P1 80 (some (.inr (5, mo_F ad N (nI 2) se op li))))
            generalize va_up P1 80 (some (.inr (5, mo_F ad N (nI 2) se op li))) = P2 at hm2 hx2 hw2 ⊢
            refine bj_aload_n d_Mo_turn_60 rfl rfl ?_
            refine bj_get d_Mo_turn_61 in_Mo rfl (by decide : 1 < 17) wf_Mo_51 rfl hm2.1 rfl ?_
            refine bj_if_neN (tgt := 83) d_Mo_turn_64 (by decide) (by decide) (fun _ => ?_) (fun h => absurd h (by decide))
            exact bj_vret d_Mo_turn_83 rfl (Nat.le_refl _) (Nat.le_refl _) (q_modn 2 (by decide) (by decide) (Or.inr ⟨⟨h1, to_3 h10 h15⟩, Or.inl ⟨fun q => by first | (rw [q.1] at h39; exact h39 rfl) | (rw [hcl] at q; exact h49 q.2), rfl, rfl⟩⟩) ⟨⟨⟨_, hm2⟩, hsc.fx hx2⟩, hx2.fr⟩)
      · refine bj_iconst (v := (nI 1)) d_Mo_turn_18 (by decide) ?_
        refine bj_goto (tgt := 23) d_Mo_turn_19 (by decide) ?_
        refine bj_put d_Mo_turn_23 in_Mo ok_Mo nm_Mo rfl (by decide : 1 < 17) wf_Mo_51 rfl rfl rfl rfl rfl (Nat.le_of_ble_eq_true rfl) hm0.1 ?_
        have hm1 := hm0.hd (cd' := (nI 1)) (se' := se) (op' := op) (li' := li)
        have hx1 : mo_fx M (va_up M 80 (some (.inr (5, mo_F ad N (nI 1) se op li)))) := mo_fx.rf.at (j := 80) (by omega) (fun q hq => va_up_ne _ _ hq)
        have hw1 : ∀ q, q ≠ 80 → (va_up M 80 (some (.inr (5, mo_F ad N (nI 1) se op li)))) q = M q := fun q hq => va_up_ne _ _ hq
        show bj_S _ _ _ _ _ _ 0 0 _ _ [] (va_up M 80 (some (.inr (5, mo_F ad N (nI 1) se op li))))
        generalize va_up M 80 (some (.inr (5, mo_F ad N (nI 1) se op li))) = P1 at hm1 hx1 hw1 ⊢
        refine bj_aload_n d_Mo_turn_26 rfl rfl ?_
        refine bj_get d_Mo_turn_27 in_Mo rfl (by decide : 1 < 17) wf_Mo_51 rfl hm1.1 rfl ?_
        refine bj_if_leN (tgt := 34) d_Mo_turn_30 (by decide) (by decide) (fun h => absurd h (by decide)) (fun _ => ?_)
        exact bj_vret d_Mo_turn_33 rfl (Nat.le_refl _) (Nat.le_refl _) (q_modn 1 (by decide) (by decide) (Or.inl ⟨fun q => by first | (rw [bt_n0.mp h6] at q; exact absurd q.1 (by decide)) | exact to_n1 h10 q.2 | exact to_n2 h15 q.2, rfl, rfl⟩) ⟨⟨⟨_, hm1⟩, hsc.fx hx1⟩, hx1.fr⟩)
set_option maxRecDepth 100000 in
set_option maxHeartbeats 4000000 in
/-- correct -/
theorem t_Mo_correct {N op : Nat} {cd : Int32} {se : Bool} {dw sg sz : Nat → Nat} {rk : Nat → Nat → Int32} {tm : Nat → Nat → Nat} (hA : mo_all c ad M N cd se op dw sg sz rk tm) (hiv : of_iv N op dw sg sz tm) {x1 x2 x3 : Int32} : bj_T (bw_G l D c) Y_Mo_correct 3 (0, 0, 0, 0) ad (q_mod true (Rc (some (.int (rk ((x1 : Int32).toNatClampNeg) ((x2 : Int32).toNatClampNeg)))) (corF N op se sg sz ((x1 : Int32).toNatClampNeg) x1 x2 x3) 1) (mo_st c ad M N se op dw sg sz (va_up rk ((x1 : Int32).toNatClampNeg) (va_up (rk ((x1 : Int32).toNatClampNeg)) ((x2 : Int32).toNatClampNeg) x3)) tm) (mo_st c ad M N se op dw sg sz rk tm)) [.ref (ad 80), .int x1, .int x2, .int x3] M := by
  show bj_S _ _ _ _ _ _ 0 0 0 [some (.ref (ad 80)), some (.int x1), some (.int x2), some (.int x3), none] [] M
  obtain ⟨⟨li, hm0⟩, hsc⟩ := hA
  obtain ⟨hN1, hN, hop, ⟨ps, hpm⟩, hbt, hun⟩ := hiv
  refine bj_aload_n d_Mo_correct_0 rfl rfl ?_
  refine bj_aload_n d_Mo_correct_1 rfl rfl ?_
  refine bj_iload_n d_Mo_correct_2 rfl rfl ?_
  refine bj_cvF sv_Mo_73 d_Mo_correct_3 (t_Mo_isBatch l D c ad M hm0 hN) rfl rfl (by decide) (by decide) (by decide) (Nat.le_of_ble_eq_true rfl) rfl hm0.1 rfl rfl ?_
  refine bj_if_eq (tgt := 17) d_Mo_correct_6 (by decide) (fun h6 => ?_) (fun h6 => ?_)
  · refine bj_iconst (v := (nI 1)) d_Mo_correct_17 (by decide) ?_
    refine bj_goto (tgt := 60) d_Mo_correct_18 (by decide) ?_
    refine bj_put d_Mo_correct_60 in_Mo ok_Mo nm_Mo rfl (by decide : 1 < 17) wf_Mo_51 rfl rfl rfl rfl rfl (Nat.le_of_ble_eq_true rfl) hm0.1 ?_
    have hm1 := hm0.hd (cd' := (nI 1)) (se' := se) (op' := op) (li' := li)
    have hx1 : mo_fx M (va_up M 80 (some (.inr (5, mo_F ad N (nI 1) se op li)))) := mo_fx.rf.at (j := 80) (by omega) (fun q hq => va_up_ne _ _ hq)
    have hw1 : ∀ q, q ≠ 80 → (va_up M 80 (some (.inr (5, mo_F ad N (nI 1) se op li)))) q = M q := fun q hq => va_up_ne _ _ hq
    show bj_S _ _ _ _ _ _ 0 0 _ _ [] (va_up M 80 (some (.inr (5, mo_F ad N (nI 1) se op li))))
    generalize va_up M 80 (some (.inr (5, mo_F ad N (nI 1) se op li))) = P1 at hm1 hx1 hw1 ⊢
    refine bj_aload_n d_Mo_correct_63 rfl rfl ?_
    refine bj_get d_Mo_correct_64 in_Mo rfl (by decide : 1 < 17) wf_Mo_51 rfl hm1.1 rfl ?_
    refine bj_if_leN (tgt := 72) d_Mo_correct_67 (by decide) (by decide) (fun h => absurd h (by decide)) (fun _ => ?_)
    refine bj_iconst (v := (nI 0)) d_Mo_correct_70 (by decide) ?_
    exact bj_iret d_Mo_correct_71 rfl rfl (Nat.le_refl _) (Nat.le_refl _) (q_modn 1 (by decide) (by decide) (Or.inl ⟨fun q => by first | (rw [bt_n0.mp h6] at q; exact absurd q.1 (by decide)) | (rw [hr9.mpr q.2] at h14; exact absurd h14 (by decide)), rfl, rfl⟩) ⟨⟨⟨_, hm1⟩, hsc.fx hx1⟩, hx1.fr⟩)
  · refine bj_aload_n d_Mo_correct_9 rfl rfl ?_
    refine bj_iload_n d_Mo_correct_10 rfl rfl ?_
    refine bj_cvR sv_Mo_76 d_Mo_correct_11 (t_Mo_isRanking l D c ad M hm0 hN) rfl rfl (by decide) (by decide) (by decide) (Nat.le_of_ble_eq_true rfl) rfl hm0.1 rfl rfl (fun v1 N1 hq1 => ?_)
    obtain ⟨r9, rfl, hr9, hM9⟩ := hq1
    show bj_S (bw_G l D c) Y_Mo_correct 3 (0, 0, 0, 0) ad (q_mod true (Rc (some (.int (rk ((x1 : Int32).toNatClampNeg) ((x2 : Int32).toNatClampNeg)))) (corF N op se sg sz ((x1 : Int32).toNatClampNeg) x1 x2 x3) 1) (mo_st c ad M N se op dw sg sz (va_up rk ((x1 : Int32).toNatClampNeg) (va_up (rk ((x1 : Int32).toNatClampNeg)) ((x2 : Int32).toNatClampNeg) x3)) tm) (mo_st c ad M N se op dw sg sz rk tm)) 0 0 14 [some (.ref (ad 80)), some (.int x1), some (.int x2), some (.int x3), none] [.int (bt_n r9), .ref (ad 80)] N1
    rw [hM9]
    refine bj_if_ne (tgt := 21) d_Mo_correct_14 (by decide) (fun h14 => ?_) (fun h14 => ?_)
    · have h1 := bt_nn h6
      have h2 := hr9.mp (bt_nn h14)
      obtain ⟨a, ha, rfl⟩ := ic_t (by omega) h1
      have hcl : (nI a).toNatClampNeg = a := nI_clamp (by omega)
      have hba := hbt a (by omega)
      refine bj_iload_n d_Mo_correct_21 rfl rfl ?_
      refine bj_if_lt (tgt := 35) d_Mo_correct_22 (by decide) (fun h22 => ?_) (fun h22 => ?_)
      · refine bj_iconst (v := (nI 2)) d_Mo_correct_35 (by decide) ?_
        refine bj_goto (tgt := 60) d_Mo_correct_36 (by decide) ?_
        refine bj_put d_Mo_correct_60 in_Mo ok_Mo nm_Mo rfl (by decide : 1 < 17) wf_Mo_51 rfl rfl rfl rfl rfl (Nat.le_of_ble_eq_true rfl) hm0.1 ?_
        have hm1 := hm0.hd (cd' := (nI 2)) (se' := se) (op' := op) (li' := li)
        have hx1 : mo_fx M (va_up M 80 (some (.inr (5, mo_F ad N (nI 2) se op li)))) := mo_fx.rf.at (j := 80) (by omega) (fun q hq => va_up_ne _ _ hq)
        have hw1 : ∀ q, q ≠ 80 → (va_up M 80 (some (.inr (5, mo_F ad N (nI 2) se op li)))) q = M q := fun q hq => va_up_ne _ _ hq
        show bj_S _ _ _ _ _ _ 0 0 _ _ [] (va_up M 80 (some (.inr (5, mo_F ad N (nI 2) se op li))))
        generalize va_up M 80 (some (.inr (5, mo_F ad N (nI 2) se op li))) = P1 at hm1 hx1 hw1 ⊢
        refine bj_aload_n d_Mo_correct_63 rfl rfl ?_
        refine bj_get d_Mo_correct_64 in_Mo rfl (by decide : 1 < 17) wf_Mo_51 rfl hm1.1 rfl ?_
        refine bj_if_leN (tgt := 72) d_Mo_correct_67 (by decide) (by decide) (fun h => absurd h (by decide)) (fun _ => ?_)
        refine bj_iconst (v := (nI 0)) d_Mo_correct_70 (by decide) ?_
        exact bj_iret d_Mo_correct_71 rfl rfl (Nat.le_refl _) (Nat.le_refl _) (q_modn 2 (by decide) (by decide) (Or.inr ⟨⟨h1, h2⟩, Or.inl ⟨fun q => by rw [hcl] at q; have q := of_decide_eq_true q; first | exact q.1 h22 | exact q.2 (Int32.not_lt.mp h32), rfl, rfl⟩⟩) ⟨⟨⟨_, hm1⟩, hsc.fx hx1⟩, hx1.fr⟩)
      · refine bj_iload_n d_Mo_correct_25 rfl rfl ?_
        refine bj_aload_n d_Mo_correct_26 rfl rfl ?_
        refine bj_get d_Mo_correct_27 in_Mo rfl (by decide : 6 < 17) wf_Mo_16 rfl hm0.1 rfl ?_
        refine bj_iload_n d_Mo_correct_30 rfl rfl ?_
        refine bv_iald d_Mo_correct_31 0 rfl hm0.2.2.2.1 (by omega) (by omega) rfl ?_
        refine bj_icmp_lt (tgt := 39) d_Mo_correct_32 (by decide) (fun h32 => ?_) (fun h32 => ?_)
        · have hi9 : ic (sz a) x2 = true := decide_eq_true ⟨h22, Int32.not_le.mpr h32⟩
          obtain ⟨j, hj, rfl⟩ := ic_t (by omega) hi9
          have hcj : (nI j).toNatClampNeg = j := nI_clamp (by omega)
          refine bj_aload_n d_Mo_correct_39 rfl rfl ?_
          refine bj_get d_Mo_correct_40 in_Mo rfl (by decide : 2 < 17) wf_Mo_61 rfl hm0.1 rfl ?_
          refine bj_if_ne (tgt := 55) d_Mo_correct_43 (by decide) (fun h43 => ?_) (fun h43 => ?_)
          · refine bj_iconst (v := (nI 3)) d_Mo_correct_55 (by decide) ?_
            refine bj_goto (tgt := 60) d_Mo_correct_56 (by decide) ?_
            refine bj_put d_Mo_correct_60 in_Mo ok_Mo nm_Mo rfl (by decide : 1 < 17) wf_Mo_51 rfl rfl rfl rfl rfl (Nat.le_of_ble_eq_true rfl) hm0.1 ?_
            have hm1 := hm0.hd (cd' := (nI 3)) (se' := se) (op' := op) (li' := li)
            have hx1 : mo_fx M (va_up M 80 (some (.inr (5, mo_F ad N (nI 3) se op li)))) := mo_fx.rf.at (j := 80) (by omega) (fun q hq => va_up_ne _ _ hq)
            have hw1 : ∀ q, q ≠ 80 → (va_up M 80 (some (.inr (5, mo_F ad N (nI 3) se op li)))) q = M q := fun q hq => va_up_ne _ _ hq
            show bj_S _ _ _ _ _ _ 0 0 _ _ [] (va_up M 80 (some (.inr (5, mo_F ad N (nI 3) se op li))))
            generalize va_up M 80 (some (.inr (5, mo_F ad N (nI 3) se op li))) = P1 at hm1 hx1 hw1 ⊢
            refine bj_aload_n d_Mo_correct_63 rfl rfl ?_
            refine bj_get d_Mo_correct_64 in_Mo rfl (by decide : 1 < 17) wf_Mo_51 rfl hm1.1 rfl ?_
            refine bj_if_leN (tgt := 72) d_Mo_correct_67 (by decide) (by decide) (fun h => absurd h (by decide)) (fun _ => ?_)
            refine bj_iconst (v := (nI 0)) d_Mo_correct_70 (by decide) ?_
            exact bj_iret d_Mo_correct_71 rfl rfl (Nat.le_refl _) (Nat.le_refl _) (q_modn 3 (by decide) (by decide) (Or.inr ⟨⟨h1, h2⟩, Or.inr ⟨by rw [hcl]; exact hi9, Or.inl ⟨fun q => by first | (rw [q.1] at h43; exact h43 rfl) | (rw [hcl] at q; exact q.2 h52), rfl, rfl⟩⟩⟩) ⟨⟨⟨_, hm1⟩, hsc.fx hx1⟩, hx1.fr⟩)
          · refine bj_aload_n d_Mo_correct_46 rfl rfl ?_
            refine bj_get d_Mo_correct_47 in_Mo rfl (by decide : 5 < 17) wf_Mo_13 rfl hm0.1 rfl ?_
            refine bj_iload_n d_Mo_correct_50 rfl rfl ?_
            refine bv_iald d_Mo_correct_51 0 rfl hm0.2.2.1 (by omega) (by omega) rfl ?_
            refine bj_if_neN (tgt := 59) d_Mo_correct_52 (by decide) (by omega) (fun h52 => ?_) (fun h52 => ?_)
            · refine bj_iconst (v := (nI 0)) d_Mo_correct_59 (by decide) ?_
              refine bj_put d_Mo_correct_60 in_Mo ok_Mo nm_Mo rfl (by decide : 1 < 17) wf_Mo_51 rfl rfl rfl rfl rfl (Nat.le_of_ble_eq_true rfl) hm0.1 ?_
              have hm1 := hm0.hd (cd' := (nI 0)) (se' := se) (op' := op) (li' := li)
              have hx1 : mo_fx M (va_up M 80 (some (.inr (5, mo_F ad N (nI 0) se op li)))) := mo_fx.rf.at (j := 80) (by omega) (fun q hq => va_up_ne _ _ hq)
              have hw1 : ∀ q, q ≠ 80 → (va_up M 80 (some (.inr (5, mo_F ad N (nI 0) se op li)))) q = M q := fun q hq => va_up_ne _ _ hq
              show bj_S _ _ _ _ _ _ 0 0 _ _ [] (va_up M 80 (some (.inr (5, mo_F ad N (nI 0) se op li))))
              generalize va_up M 80 (some (.inr (5, mo_F ad N (nI 0) se op li))) = P1 at hm1 hx1 hw1 ⊢
              refine bj_aload_n d_Mo_correct_63 rfl rfl ?_
              refine bj_get d_Mo_correct_64 in_Mo rfl (by decide : 1 < 17) wf_Mo_51 rfl hm1.1 rfl ?_
              refine bj_if_leN (tgt := 72) d_Mo_correct_67 (by decide) (by decide) (fun _ => ?_) (fun h => absurd h (by decide))
              refine bj_aload_n d_Mo_correct_72 rfl rfl ?_
              refine bj_get d_Mo_correct_73 in_Mo rfl (by decide : 7 < 17) wf_Mo_19 rfl hm1.1 rfl ?_
              refine bj_bipush (v := (nI 6)) d_Mo_correct_76 (by decide) ?_
              refine bj_iload_n d_Mo_correct_78 rfl rfl ?_
              refine bj_imul (v := (nI (6 * a))) d_Mo_correct_79 (pk_mul _ _) ?_
              refine bj_iload_n d_Mo_correct_80 rfl rfl ?_
              refine bj_iadd (v := (nI ((6 * a) + j))) d_Mo_correct_81 (nI_add _ _) ?_
              refine bv_iald (v := (rk a j)) d_Mo_correct_82 0 rfl hm1.2.2.2.2.1 (by omega) (by omega) (by show rk _ _ = _; rw [show (6 * a + j) / 6 = a by omega, show (6 * a + j) % 6 = j by omega]) ?_
              refine bj_istore (L' := [some (.ref (ad 80)), some (.int (nI a)), some (.int (nI j)), some (.int x3), some (.int (rk a j))]) d_Mo_correct_83 (by decide) rfl ?_
              refine bj_aload_n d_Mo_correct_85 rfl rfl ?_
              refine bj_get d_Mo_correct_86 in_Mo rfl (by decide : 7 < 17) wf_Mo_19 rfl hm1.1 rfl ?_
              refine bj_bipush (v := (nI 6)) d_Mo_correct_89 (by decide) ?_
              refine bj_iload_n d_Mo_correct_91 rfl rfl ?_
              refine bj_imul (v := (nI (6 * a))) d_Mo_correct_92 (pk_mul _ _) ?_
              refine bj_iload_n d_Mo_correct_93 rfl rfl ?_
              refine bj_iadd (v := (nI ((6 * a) + j))) d_Mo_correct_94 (nI_add _ _) ?_
              refine bj_iload_n d_Mo_correct_95 rfl rfl ?_
              refine bv_iast d_Mo_correct_96 0 rfl hm1.2.2.2.2.1 (by omega) (by omega) (fun N2 hN2 hO2 => ?_)
              have hmn := hm1.p4 (rk' := va_up rk a (va_up (rk a) j x3)) (hN2.to (fun x _ => rk_up (by omega))) hO2
              have hxn : mo_fx M N2 := hx1.at (by omega) hO2
              refine bj_iload d_Mo_correct_97 rfl ?_
              exact bj_iret d_Mo_correct_99 rfl rfl (Nat.le_refl _) (Nat.le_refl _) (q_mod0 (Or.inr ⟨⟨h1, h2⟩, Or.inr ⟨by rw [hcl]; exact hi9, Or.inr ⟨⟨bt_n0.mp h43, by rw [hcl]; exact h52⟩, rfl, by rw [hcl, hcj]⟩⟩⟩) (by rw [hcl, hcj]; exact ⟨⟨⟨_, hmn⟩, hsc.fx hxn⟩, hxn.fr⟩))
            · refine bj_iconst (v := (nI 3)) d_Mo_correct_55 (by decide) ?_
              refine bj_goto (tgt := 60) d_Mo_correct_56 (by decide) ?_
              refine bj_put d_Mo_correct_60 in_Mo ok_Mo nm_Mo rfl (by decide : 1 < 17) wf_Mo_51 rfl rfl rfl rfl rfl (Nat.le_of_ble_eq_true rfl) hm0.1 ?_
              have hm1 := hm0.hd (cd' := (nI 3)) (se' := se) (op' := op) (li' := li)
              have hx1 : mo_fx M (va_up M 80 (some (.inr (5, mo_F ad N (nI 3) se op li)))) := mo_fx.rf.at (j := 80) (by omega) (fun q hq => va_up_ne _ _ hq)
              have hw1 : ∀ q, q ≠ 80 → (va_up M 80 (some (.inr (5, mo_F ad N (nI 3) se op li)))) q = M q := fun q hq => va_up_ne _ _ hq
              show bj_S _ _ _ _ _ _ 0 0 _ _ [] (va_up M 80 (some (.inr (5, mo_F ad N (nI 3) se op li))))
              generalize va_up M 80 (some (.inr (5, mo_F ad N (nI 3) se op li))) = P1 at hm1 hx1 hw1 ⊢
              refine bj_aload_n d_Mo_correct_63 rfl rfl ?_
              refine bj_get d_Mo_correct_64 in_Mo rfl (by decide : 1 < 17) wf_Mo_51 rfl hm1.1 rfl ?_
              refine bj_if_leN (tgt := 72) d_Mo_correct_67 (by decide) (by decide) (fun h => absurd h (by decide)) (fun _ => ?_)
              refine bj_iconst (v := (nI 0)) d_Mo_correct_70 (by decide) ?_
              exact bj_iret d_Mo_correct_71 rfl rfl (Nat.le_refl _) (Nat.le_refl _) (q_modn 3 (by decide) (by decide) (Or.inr ⟨⟨h1, h2⟩, Or.inr ⟨by rw [hcl]; exact hi9, Or.inl ⟨fun q => by first | (rw [q.1] at h43; exact h43 rfl) | (rw [hcl] at q; exact q.2 h52), rfl, rfl⟩⟩⟩) ⟨⟨⟨_, hm1⟩, hsc.fx hx1⟩, hx1.fr⟩)
        · refine bj_iconst (v := (nI 2)) d_Mo_correct_35 (by decide) ?_
          refine bj_goto (tgt := 60) d_Mo_correct_36 (by decide) ?_
          refine bj_put d_Mo_correct_60 in_Mo ok_Mo nm_Mo rfl (by decide : 1 < 17) wf_Mo_51 rfl rfl rfl rfl rfl (Nat.le_of_ble_eq_true rfl) hm0.1 ?_
          have hm1 := hm0.hd (cd' := (nI 2)) (se' := se) (op' := op) (li' := li)
          have hx1 : mo_fx M (va_up M 80 (some (.inr (5, mo_F ad N (nI 2) se op li)))) := mo_fx.rf.at (j := 80) (by omega) (fun q hq => va_up_ne _ _ hq)
          have hw1 : ∀ q, q ≠ 80 → (va_up M 80 (some (.inr (5, mo_F ad N (nI 2) se op li)))) q = M q := fun q hq => va_up_ne _ _ hq
          show bj_S _ _ _ _ _ _ 0 0 _ _ [] (va_up M 80 (some (.inr (5, mo_F ad N (nI 2) se op li))))
          generalize va_up M 80 (some (.inr (5, mo_F ad N (nI 2) se op li))) = P1 at hm1 hx1 hw1 ⊢
          refine bj_aload_n d_Mo_correct_63 rfl rfl ?_
          refine bj_get d_Mo_correct_64 in_Mo rfl (by decide : 1 < 17) wf_Mo_51 rfl hm1.1 rfl ?_
          refine bj_if_leN (tgt := 72) d_Mo_correct_67 (by decide) (by decide) (fun h => absurd h (by decide)) (fun _ => ?_)
          refine bj_iconst (v := (nI 0)) d_Mo_correct_70 (by decide) ?_
          exact bj_iret d_Mo_correct_71 rfl rfl (Nat.le_refl _) (Nat.le_refl _) (q_modn 2 (by decide) (by decide) (Or.inr ⟨⟨h1, h2⟩, Or.inl ⟨fun q => by rw [hcl] at q; have q := of_decide_eq_true q; first | exact q.1 h22 | exact q.2 (Int32.not_lt.mp h32), rfl, rfl⟩⟩) ⟨⟨⟨_, hm1⟩, hsc.fx hx1⟩, hx1.fr⟩)
    · refine bj_iconst (v := (nI 1)) d_Mo_correct_17 (by decide) ?_
      refine bj_goto (tgt := 60) d_Mo_correct_18 (by decide) ?_
      refine bj_put d_Mo_correct_60 in_Mo ok_Mo nm_Mo rfl (by decide : 1 < 17) wf_Mo_51 rfl rfl rfl rfl rfl (Nat.le_of_ble_eq_true rfl) hm0.1 ?_
      have hm1 := hm0.hd (cd' := (nI 1)) (se' := se) (op' := op) (li' := li)
      have hx1 : mo_fx M (va_up M 80 (some (.inr (5, mo_F ad N (nI 1) se op li)))) := mo_fx.rf.at (j := 80) (by omega) (fun q hq => va_up_ne _ _ hq)
      have hw1 : ∀ q, q ≠ 80 → (va_up M 80 (some (.inr (5, mo_F ad N (nI 1) se op li)))) q = M q := fun q hq => va_up_ne _ _ hq
      show bj_S _ _ _ _ _ _ 0 0 _ _ [] (va_up M 80 (some (.inr (5, mo_F ad N (nI 1) se op li))))
      generalize va_up M 80 (some (.inr (5, mo_F ad N (nI 1) se op li))) = P1 at hm1 hx1 hw1 ⊢
      refine bj_aload_n d_Mo_correct_63 rfl rfl ?_
      refine bj_get d_Mo_correct_64 in_Mo rfl (by decide : 1 < 17) wf_Mo_51 rfl hm1.1 rfl ?_
      refine bj_if_leN (tgt := 72) d_Mo_correct_67 (by decide) (by decide) (fun h => absurd h (by decide)) (fun _ => ?_)
      refine bj_iconst (v := (nI 0)) d_Mo_correct_70 (by decide) ?_
      exact bj_iret d_Mo_correct_71 rfl rfl (Nat.le_refl _) (Nat.le_refl _) (q_modn 1 (by decide) (by decide) (Or.inl ⟨fun q => by first | (rw [bt_n0.mp h6] at q; exact absurd q.1 (by decide)) | (rw [hr9.mpr q.2] at h14; exact absurd h14 (by decide)), rfl, rfl⟩) ⟨⟨⟨_, hm1⟩, hsc.fx hx1⟩, hx1.fr⟩)
set_option maxRecDepth 100000 in
set_option maxHeartbeats 4000000 in
/-- ballot -/
theorem t_Mo_ballot {N op : Nat} {cd : Int32} {se : Bool} {dw sg sz : Nat → Nat} {rk : Nat → Nat → Int32} {tm : Nat → Nat → Nat} (hA : mo_all c ad M N cd se op dw sg sz rk tm) (hiv : of_iv N op dw sg sz tm) {x1 x2 x3 : Int32} : bj_T (bw_G l D c) Y_Mo_ballot 3 (0, 0, 0, 0) ad (q_mod true (Rc (some (.int (nI (sz ((x1 : Int32).toNatClampNeg))))) (balF N op se sg sz ((x1 : Int32).toNatClampNeg) x1 x2 x3) 1) (mo_st c ad M N se op dw sg (va_up sz ((x1 : Int32).toNatClampNeg) (sz ((x1 : Int32).toNatClampNeg) + 1)) (va_up rk ((x1 : Int32).toNatClampNeg) (va_up (rk ((x1 : Int32).toNatClampNeg)) (sz ((x1 : Int32).toNatClampNeg)) x2)) (va_up tm ((x1 : Int32).toNatClampNeg) (va_up (tm ((x1 : Int32).toNatClampNeg)) (sz ((x1 : Int32).toNatClampNeg)) ((x3 : Int32).toNatClampNeg)))) (mo_st c ad M N se op dw sg sz rk tm)) [.ref (ad 80), .int x1, .int x2, .int x3] M := by
  show bj_S _ _ _ _ _ _ 0 0 0 [some (.ref (ad 80)), some (.int x1), some (.int x2), some (.int x3)] [] M
  obtain ⟨⟨li, hm0⟩, hsc⟩ := hA
  obtain ⟨hN1, hN, hop, ⟨ps, hpm⟩, hbt, hun⟩ := hiv
  refine bj_aload_n d_Mo_ballot_0 rfl rfl ?_
  refine bj_aload_n d_Mo_ballot_1 rfl rfl ?_
  refine bj_iload_n d_Mo_ballot_2 rfl rfl ?_
  refine bj_cvF sv_Mo_73 d_Mo_ballot_3 (t_Mo_isBatch l D c ad M hm0 hN) rfl rfl (by decide) (by decide) (by decide) (Nat.le_of_ble_eq_true rfl) rfl hm0.1 rfl rfl ?_
  refine bj_if_eq (tgt := 29) d_Mo_ballot_6 (by decide) (fun h6 => ?_) (fun h6 => ?_)
  · refine bj_iconst (v := (nI 1)) d_Mo_ballot_29 (by decide) ?_
    refine bj_goto (tgt := 34) d_Mo_ballot_30 (by decide) ?_
    refine bj_put d_Mo_ballot_34 in_Mo ok_Mo nm_Mo rfl (by decide : 1 < 17) wf_Mo_51 rfl rfl rfl rfl rfl (Nat.le_of_ble_eq_true rfl) hm0.1 ?_
    have hm1 := hm0.hd (cd' := (nI 1)) (se' := se) (op' := op) (li' := li)
    have hx1 : mo_fx M (va_up M 80 (some (.inr (5, mo_F ad N (nI 1) se op li)))) := mo_fx.rf.at (j := 80) (by omega) (fun q hq => va_up_ne _ _ hq)
    have hw1 : ∀ q, q ≠ 80 → (va_up M 80 (some (.inr (5, mo_F ad N (nI 1) se op li)))) q = M q := fun q hq => va_up_ne _ _ hq
    show bj_S _ _ _ _ _ _ 0 0 _ _ [] (va_up M 80 (some (.inr (5, mo_F ad N (nI 1) se op li))))
    generalize va_up M 80 (some (.inr (5, mo_F ad N (nI 1) se op li))) = P1 at hm1 hx1 hw1 ⊢
    refine bj_aload_n d_Mo_ballot_37 rfl rfl ?_
    refine bj_get d_Mo_ballot_38 in_Mo rfl (by decide : 1 < 17) wf_Mo_51 rfl hm1.1 rfl ?_
    refine bj_if_leN (tgt := 46) d_Mo_ballot_41 (by decide) (by decide) (fun h => absurd h (by decide)) (fun _ => ?_)
    refine bj_iconst (v := (nI 0)) d_Mo_ballot_44 (by decide) ?_
    exact bj_iret d_Mo_ballot_45 rfl rfl (Nat.le_refl _) (Nat.le_refl _) (q_modn 1 (by decide) (by decide) (Or.inl ⟨fun q => by first | (rw [bt_n0.mp h6] at q; exact absurd q.1 (by decide)) | (rw [hr9.mpr q.2.1] at h14; exact absurd h14 (by decide)) | exact q.2.2.1 h19 | exact h26 q.2.2.2, rfl, rfl⟩) ⟨⟨⟨_, hm1⟩, hsc.fx hx1⟩, hx1.fr⟩)
  · refine bj_aload_n d_Mo_ballot_9 rfl rfl ?_
    refine bj_iload_n d_Mo_ballot_10 rfl rfl ?_
    refine bj_cvR sv_Mo_76 d_Mo_ballot_11 (t_Mo_isRanking l D c ad M hm0 hN) rfl rfl (by decide) (by decide) (by decide) (Nat.le_of_ble_eq_true rfl) rfl hm0.1 rfl rfl (fun v1 N1 hq1 => ?_)
    obtain ⟨r9, rfl, hr9, hM9⟩ := hq1
    show bj_S (bw_G l D c) Y_Mo_ballot 3 (0, 0, 0, 0) ad (q_mod true (Rc (some (.int (nI (sz ((x1 : Int32).toNatClampNeg))))) (balF N op se sg sz ((x1 : Int32).toNatClampNeg) x1 x2 x3) 1) (mo_st c ad M N se op dw sg (va_up sz ((x1 : Int32).toNatClampNeg) (sz ((x1 : Int32).toNatClampNeg) + 1)) (va_up rk ((x1 : Int32).toNatClampNeg) (va_up (rk ((x1 : Int32).toNatClampNeg)) (sz ((x1 : Int32).toNatClampNeg)) x2)) (va_up tm ((x1 : Int32).toNatClampNeg) (va_up (tm ((x1 : Int32).toNatClampNeg)) (sz ((x1 : Int32).toNatClampNeg)) ((x3 : Int32).toNatClampNeg)))) (mo_st c ad M N se op dw sg sz rk tm)) 0 0 14 [some (.ref (ad 80)), some (.int x1), some (.int x2), some (.int x3)] [.int (bt_n r9), .ref (ad 80)] N1
    rw [hM9]
    refine bj_if_eq (tgt := 29) d_Mo_ballot_14 (by decide) (fun h14 => ?_) (fun h14 => ?_)
    · refine bj_iconst (v := (nI 1)) d_Mo_ballot_29 (by decide) ?_
      refine bj_goto (tgt := 34) d_Mo_ballot_30 (by decide) ?_
      refine bj_put d_Mo_ballot_34 in_Mo ok_Mo nm_Mo rfl (by decide : 1 < 17) wf_Mo_51 rfl rfl rfl rfl rfl (Nat.le_of_ble_eq_true rfl) hm0.1 ?_
      have hm1 := hm0.hd (cd' := (nI 1)) (se' := se) (op' := op) (li' := li)
      have hx1 : mo_fx M (va_up M 80 (some (.inr (5, mo_F ad N (nI 1) se op li)))) := mo_fx.rf.at (j := 80) (by omega) (fun q hq => va_up_ne _ _ hq)
      have hw1 : ∀ q, q ≠ 80 → (va_up M 80 (some (.inr (5, mo_F ad N (nI 1) se op li)))) q = M q := fun q hq => va_up_ne _ _ hq
      show bj_S _ _ _ _ _ _ 0 0 _ _ [] (va_up M 80 (some (.inr (5, mo_F ad N (nI 1) se op li))))
      generalize va_up M 80 (some (.inr (5, mo_F ad N (nI 1) se op li))) = P1 at hm1 hx1 hw1 ⊢
      refine bj_aload_n d_Mo_ballot_37 rfl rfl ?_
      refine bj_get d_Mo_ballot_38 in_Mo rfl (by decide : 1 < 17) wf_Mo_51 rfl hm1.1 rfl ?_
      refine bj_if_leN (tgt := 46) d_Mo_ballot_41 (by decide) (by decide) (fun h => absurd h (by decide)) (fun _ => ?_)
      refine bj_iconst (v := (nI 0)) d_Mo_ballot_44 (by decide) ?_
      exact bj_iret d_Mo_ballot_45 rfl rfl (Nat.le_refl _) (Nat.le_refl _) (q_modn 1 (by decide) (by decide) (Or.inl ⟨fun q => by first | (rw [bt_n0.mp h6] at q; exact absurd q.1 (by decide)) | (rw [hr9.mpr q.2.1] at h14; exact absurd h14 (by decide)) | exact q.2.2.1 h19 | exact h26 q.2.2.2, rfl, rfl⟩) ⟨⟨⟨_, hm1⟩, hsc.fx hx1⟩, hx1.fr⟩)
    · refine bj_iload_n d_Mo_ballot_17 rfl rfl ?_
      refine bj_iconst (v := (nI 1)) d_Mo_ballot_18 (by decide) ?_
      refine bj_icmp_lt (tgt := 29) d_Mo_ballot_19 (by decide) (fun h19 => ?_) (fun h19 => ?_)
      · refine bj_iconst (v := (nI 1)) d_Mo_ballot_29 (by decide) ?_
        refine bj_goto (tgt := 34) d_Mo_ballot_30 (by decide) ?_
        refine bj_put d_Mo_ballot_34 in_Mo ok_Mo nm_Mo rfl (by decide : 1 < 17) wf_Mo_51 rfl rfl rfl rfl rfl (Nat.le_of_ble_eq_true rfl) hm0.1 ?_
        have hm1 := hm0.hd (cd' := (nI 1)) (se' := se) (op' := op) (li' := li)
        have hx1 : mo_fx M (va_up M 80 (some (.inr (5, mo_F ad N (nI 1) se op li)))) := mo_fx.rf.at (j := 80) (by omega) (fun q hq => va_up_ne _ _ hq)
        have hw1 : ∀ q, q ≠ 80 → (va_up M 80 (some (.inr (5, mo_F ad N (nI 1) se op li)))) q = M q := fun q hq => va_up_ne _ _ hq
        show bj_S _ _ _ _ _ _ 0 0 _ _ [] (va_up M 80 (some (.inr (5, mo_F ad N (nI 1) se op li))))
        generalize va_up M 80 (some (.inr (5, mo_F ad N (nI 1) se op li))) = P1 at hm1 hx1 hw1 ⊢
        refine bj_aload_n d_Mo_ballot_37 rfl rfl ?_
        refine bj_get d_Mo_ballot_38 in_Mo rfl (by decide : 1 < 17) wf_Mo_51 rfl hm1.1 rfl ?_
        refine bj_if_leN (tgt := 46) d_Mo_ballot_41 (by decide) (by decide) (fun h => absurd h (by decide)) (fun _ => ?_)
        refine bj_iconst (v := (nI 0)) d_Mo_ballot_44 (by decide) ?_
        exact bj_iret d_Mo_ballot_45 rfl rfl (Nat.le_refl _) (Nat.le_refl _) (q_modn 1 (by decide) (by decide) (Or.inl ⟨fun q => by first | (rw [bt_n0.mp h6] at q; exact absurd q.1 (by decide)) | (rw [hr9.mpr q.2.1] at h14; exact absurd h14 (by decide)) | exact q.2.2.1 h19 | exact h26 q.2.2.2, rfl, rfl⟩) ⟨⟨⟨_, hm1⟩, hsc.fx hx1⟩, hx1.fr⟩)
      · refine bj_iload_n d_Mo_ballot_22 rfl rfl ?_
        refine bj_sipush (v := (nI 10000)) d_Mo_ballot_23 (by decide) ?_
        refine bj_icmp_le (tgt := 33) d_Mo_ballot_26 (by decide) (fun h26 => ?_) (fun h26 => ?_)
        · refine bj_iconst (v := (nI 0)) d_Mo_ballot_33 (by decide) ?_
          refine bj_put d_Mo_ballot_34 in_Mo ok_Mo nm_Mo rfl (by decide : 1 < 17) wf_Mo_51 rfl rfl rfl rfl rfl (Nat.le_of_ble_eq_true rfl) hm0.1 ?_
          have hm1 := hm0.hd (cd' := (nI 0)) (se' := se) (op' := op) (li' := li)
          have hx1 : mo_fx M (va_up M 80 (some (.inr (5, mo_F ad N (nI 0) se op li)))) := mo_fx.rf.at (j := 80) (by omega) (fun q hq => va_up_ne _ _ hq)
          have hw1 : ∀ q, q ≠ 80 → (va_up M 80 (some (.inr (5, mo_F ad N (nI 0) se op li)))) q = M q := fun q hq => va_up_ne _ _ hq
          show bj_S _ _ _ _ _ _ 0 0 _ _ [] (va_up M 80 (some (.inr (5, mo_F ad N (nI 0) se op li))))
          generalize va_up M 80 (some (.inr (5, mo_F ad N (nI 0) se op li))) = P1 at hm1 hx1 hw1 ⊢
          refine bj_aload_n d_Mo_ballot_37 rfl rfl ?_
          refine bj_get d_Mo_ballot_38 in_Mo rfl (by decide : 1 < 17) wf_Mo_51 rfl hm1.1 rfl ?_
          refine bj_if_leN (tgt := 46) d_Mo_ballot_41 (by decide) (by decide) (fun _ => ?_) (fun h => absurd h (by decide))
          have h1 := bt_nn h6
          have h2 := hr9.mp (bt_nn h14)
          obtain ⟨a, ha, rfl⟩ := ic_t (by omega) h1
          have hcl : (nI a).toNatClampNeg = a := nI_clamp (by omega)
          have hba := hbt a (by omega)
          refine bj_aload_n d_Mo_ballot_46 rfl rfl ?_
          refine bj_aload_n d_Mo_ballot_47 rfl rfl ?_
          refine bj_get d_Mo_ballot_48 in_Mo rfl (by decide : 2 < 17) wf_Mo_61 rfl hm1.1 rfl ?_
          refine bj_if_ne (tgt := 74) d_Mo_ballot_51 (by decide) (fun h51 => ?_) (fun h51 => ?_)
          · refine bj_iconst (v := (nI 2)) d_Mo_ballot_74 (by decide) ?_
            refine bj_goto (tgt := 79) d_Mo_ballot_75 (by decide) ?_
            refine bj_put d_Mo_ballot_79 in_Mo ok_Mo nm_Mo rfl (by decide : 1 < 17) wf_Mo_51 rfl rfl rfl rfl rfl (Nat.le_of_ble_eq_true rfl) hm1.1 ?_
            have hm2 := hm1.hd (cd' := (nI 2)) (se' := se) (op' := op) (li' := li)
            have hx2 : mo_fx M (va_up P1 80 (some (.inr (5, mo_F ad N (nI 2) se op li)))) := hx1.at (j := 80) (by omega) (fun q hq => va_up_ne _ _ hq)
            have hw2 : ∀ q, q ≠ 80 → (va_up P1 80 (some (.inr (5, mo_F ad N (nI 2) se op li)))) q = P1 q := fun q hq => va_up_ne _ _ hq
            show bj_S _ _ _ _ _ _ 0 0 _ _ [] (va_up P1 80 (some (.inr (5, mo_F ad N (nI 2) se op li))))
            generalize va_up P1 80 (some (.inr (5, mo_F ad N (nI 2) se op li))) = P2 at hm2 hx2 hw2 ⊢
            refine bj_aload_n d_Mo_ballot_82 rfl rfl ?_
            refine bj_get d_Mo_ballot_83 in_Mo rfl (by decide : 1 < 17) wf_Mo_51 rfl hm2.1 rfl ?_
            refine bj_if_leN (tgt := 91) d_Mo_ballot_86 (by decide) (by decide) (fun h => absurd h (by decide)) (fun _ => ?_)
            refine bj_iconst (v := (nI 0)) d_Mo_ballot_89 (by decide) ?_
            exact bj_iret d_Mo_ballot_90 rfl rfl (Nat.le_refl _) (Nat.le_refl _) (q_modn 2 (by decide) (by decide) (Or.inr ⟨⟨h1, h2, h19, h26⟩, Or.inl ⟨fun q => by first | (rw [q.1] at h51; exact h51 rfl) | (rw [hcl] at q; first | exact h60 q.2.1 | (have := q.2.2; omega)), rfl, rfl⟩⟩) ⟨⟨⟨_, hm2⟩, hsc.fx hx2⟩, hx2.fr⟩)
          · refine bj_aload_n d_Mo_ballot_54 rfl rfl ?_
            refine bj_get d_Mo_ballot_55 in_Mo rfl (by decide : 5 < 17) wf_Mo_13 rfl hm1.1 rfl ?_
            refine bj_iload_n d_Mo_ballot_58 rfl rfl ?_
            refine bv_iald d_Mo_ballot_59 0 rfl hm1.2.2.1 (by omega) (by omega) rfl ?_
            refine bj_if_neN (tgt := 74) d_Mo_ballot_60 (by decide) (by omega) (fun h60 => ?_) (fun h60 => ?_)
            · refine bj_iconst (v := (nI 2)) d_Mo_ballot_74 (by decide) ?_
              refine bj_goto (tgt := 79) d_Mo_ballot_75 (by decide) ?_
              refine bj_put d_Mo_ballot_79 in_Mo ok_Mo nm_Mo rfl (by decide : 1 < 17) wf_Mo_51 rfl rfl rfl rfl rfl (Nat.le_of_ble_eq_true rfl) hm1.1 ?_
              have hm2 := hm1.hd (cd' := (nI 2)) (se' := se) (op' := op) (li' := li)
              have hx2 : mo_fx M (va_up P1 80 (some (.inr (5, mo_F ad N (nI 2) se op li)))) := hx1.at (j := 80) (by omega) (fun q hq => va_up_ne _ _ hq)
              have hw2 : ∀ q, q ≠ 80 → (va_up P1 80 (some (.inr (5, mo_F ad N (nI 2) se op li)))) q = P1 q := fun q hq => va_up_ne _ _ hq
              show bj_S _ _ _ _ _ _ 0 0 _ _ [] (va_up P1 80 (some (.inr (5, mo_F ad N (nI 2) se op li))))
              generalize va_up P1 80 (some (.inr (5, mo_F ad N (nI 2) se op li))) = P2 at hm2 hx2 hw2 ⊢
              refine bj_aload_n d_Mo_ballot_82 rfl rfl ?_
              refine bj_get d_Mo_ballot_83 in_Mo rfl (by decide : 1 < 17) wf_Mo_51 rfl hm2.1 rfl ?_
              refine bj_if_leN (tgt := 91) d_Mo_ballot_86 (by decide) (by decide) (fun h => absurd h (by decide)) (fun _ => ?_)
              refine bj_iconst (v := (nI 0)) d_Mo_ballot_89 (by decide) ?_
              exact bj_iret d_Mo_ballot_90 rfl rfl (Nat.le_refl _) (Nat.le_refl _) (q_modn 2 (by decide) (by decide) (Or.inr ⟨⟨h1, h2, h19, h26⟩, Or.inl ⟨fun q => by first | (rw [q.1] at h51; exact h51 rfl) | (rw [hcl] at q; first | exact h60 q.2.1 | (have := q.2.2; omega)), rfl, rfl⟩⟩) ⟨⟨⟨_, hm2⟩, hsc.fx hx2⟩, hx2.fr⟩)
            · refine bj_aload_n d_Mo_ballot_63 rfl rfl ?_
              refine bj_get d_Mo_ballot_64 in_Mo rfl (by decide : 6 < 17) wf_Mo_16 rfl hm1.1 rfl ?_
              refine bj_iload_n d_Mo_ballot_67 rfl rfl ?_
              refine bv_iald d_Mo_ballot_68 0 rfl hm1.2.2.2.1 (by omega) (by omega) rfl ?_
              refine bj_bipush (v := (nI 6)) d_Mo_ballot_69 (by decide) ?_
              refine bj_icmp_neN (tgt := 78) d_Mo_ballot_71 (by decide) (by omega) (by omega) (fun h71 => ?_) (fun h71 => ?_)
              · refine bj_iconst (v := (nI 0)) d_Mo_ballot_78 (by decide) ?_
                refine bj_put d_Mo_ballot_79 in_Mo ok_Mo nm_Mo rfl (by decide : 1 < 17) wf_Mo_51 rfl rfl rfl rfl rfl (Nat.le_of_ble_eq_true rfl) hm1.1 ?_
                have hm2 := hm1.hd (cd' := (nI 0)) (se' := se) (op' := op) (li' := li)
                have hx2 : mo_fx M (va_up P1 80 (some (.inr (5, mo_F ad N (nI 0) se op li)))) := hx1.at (j := 80) (by omega) (fun q hq => va_up_ne _ _ hq)
                have hw2 : ∀ q, q ≠ 80 → (va_up P1 80 (some (.inr (5, mo_F ad N (nI 0) se op li)))) q = P1 q := fun q hq => va_up_ne _ _ hq
                show bj_S _ _ _ _ _ _ 0 0 _ _ [] (va_up P1 80 (some (.inr (5, mo_F ad N (nI 0) se op li))))
                generalize va_up P1 80 (some (.inr (5, mo_F ad N (nI 0) se op li))) = P2 at hm2 hx2 hw2 ⊢
                refine bj_aload_n d_Mo_ballot_82 rfl rfl ?_
                refine bj_get d_Mo_ballot_83 in_Mo rfl (by decide : 1 < 17) wf_Mo_51 rfl hm2.1 rfl ?_
                refine bj_if_leN (tgt := 91) d_Mo_ballot_86 (by decide) (by decide) (fun _ => ?_) (fun h => absurd h (by decide))
                obtain ⟨t, ht, hx3⟩ := tm_n h19 h26
                subst hx3
                have hct : (nI t).toNatClampNeg = t := nI_clamp (by omega)
                refine bj_aload_n d_Mo_ballot_91 rfl rfl ?_
                refine bj_get d_Mo_ballot_92 in_Mo rfl (by decide : 7 < 17) wf_Mo_19 rfl hm2.1 rfl ?_
                refine bj_bipush (v := (nI 6)) d_Mo_ballot_95 (by decide) ?_
                refine bj_iload_n d_Mo_ballot_97 rfl rfl ?_
                refine bj_imul (v := (nI (6 * a))) d_Mo_ballot_98 (pk_mul _ _) ?_
                refine bj_aload_n d_Mo_ballot_99 rfl rfl ?_
                refine bj_get d_Mo_ballot_100 in_Mo rfl (by decide : 6 < 17) wf_Mo_16 rfl hm2.1 rfl ?_
                refine bj_iload_n d_Mo_ballot_103 rfl rfl ?_
                refine bv_iald d_Mo_ballot_104 0 rfl hm2.2.2.2.1 (by omega) (by omega) rfl ?_
                refine bj_iadd (v := (nI ((6 * a) + (sz a)))) d_Mo_ballot_105 (nI_add _ _) ?_
                refine bj_iload_n d_Mo_ballot_106 rfl rfl ?_
                refine bv_iast d_Mo_ballot_107 0 rfl hm2.2.2.2.2.1 (by omega) (by omega) (fun N2 hN2 hO2 => ?_)
                have hm7 := hm2.p4 (rk' := va_up rk a (va_up (rk a) (sz a) x2)) (hN2.to (fun x _ => rk_up (by omega))) hO2
                have hx7 : mo_fx M N2 := hx2.at (by omega) hO2
                refine bj_aload_n d_Mo_ballot_108 rfl rfl ?_
                refine bj_get d_Mo_ballot_109 in_Mo rfl (by decide : 8 < 17) wf_Mo_22 rfl hm7.1 rfl ?_
                refine bj_bipush (v := (nI 6)) d_Mo_ballot_112 (by decide) ?_
                refine bj_iload_n d_Mo_ballot_114 rfl rfl ?_
                refine bj_imul (v := (nI (6 * a))) d_Mo_ballot_115 (pk_mul _ _) ?_
                refine bj_aload_n d_Mo_ballot_116 rfl rfl ?_
                refine bj_get d_Mo_ballot_117 in_Mo rfl (by decide : 6 < 17) wf_Mo_16 rfl hm7.1 rfl ?_
                refine bj_iload_n d_Mo_ballot_120 rfl rfl ?_
                refine bv_iald d_Mo_ballot_121 0 rfl hm7.2.2.2.1 (by omega) (by omega) rfl ?_
                refine bj_iadd (v := (nI ((6 * a) + (sz a)))) d_Mo_ballot_122 (nI_add _ _) ?_
                refine bj_iload_n d_Mo_ballot_123 rfl rfl ?_
                refine bv_iast d_Mo_ballot_124 0 rfl hm7.2.2.2.2.2 (by omega) (by omega) (fun N3 hN3 hO3 => ?_)
                have hm8 := hm7.p5 (tm' := va_up tm a (va_up (tm a) (sz a) t)) (hN3.to (fun x _ => tm_up (by omega))) hO3
                have hx8 : mo_fx M N3 := hx7.at (by omega) hO3
                refine bj_aload_n d_Mo_ballot_125 rfl rfl ?_
                refine bj_get d_Mo_ballot_126 in_Mo rfl (by decide : 6 < 17) wf_Mo_16 rfl hm8.1 rfl ?_
                refine bj_iload_n d_Mo_ballot_129 rfl rfl ?_
                refine bj_dup2 d_Mo_ballot_130 rfl rfl ?_
                refine bv_iald d_Mo_ballot_131 0 rfl hm8.2.2.2.1 (by omega) (by omega) rfl ?_
                refine bj_iconst (v := (nI 1)) d_Mo_ballot_132 (by decide) ?_
                refine bj_iadd (v := (nI ((sz a) + 1))) d_Mo_ballot_133 (nI_add _ _) ?_
                refine bv_iast d_Mo_ballot_134 0 rfl hm8.2.2.2.1 (by omega) (by omega) (fun N4 hN4 hO4 => ?_)
                have hm9 := hm8.p3 (sz' := va_up sz a (sz a + 1)) (bv_I.upn hN4) hO4
                have hx9 : mo_fx M N4 := hx8.at (by omega) hO4
                refine bj_aload_n d_Mo_ballot_135 rfl rfl ?_
                refine bj_get d_Mo_ballot_136 in_Mo rfl (by decide : 6 < 17) wf_Mo_16 rfl hm9.1 rfl ?_
                refine bj_iload_n d_Mo_ballot_139 rfl rfl ?_
                refine bv_iald (v := (nI (sz a + 1))) d_Mo_ballot_140 0 rfl hm9.2.2.2.1 (by omega) (by omega) (by show nI _ = nI _; rw [va_up_self]) ?_
                refine bj_iconst (v := (nI 1)) d_Mo_ballot_141 (by decide) ?_
                refine bj_isub (v := (nI (sz a))) d_Mo_ballot_142 (pk_sub (by omega)) ?_
                exact bj_iret d_Mo_ballot_143 rfl rfl (Nat.le_refl _) (Nat.le_refl _) (q_mod0 (Or.inr ⟨⟨h1, h2, h19, h26⟩, Or.inr ⟨⟨bt_n0.mp h51, by rw [hcl]; exact h60, by rw [hcl]; omega⟩, rfl, by rw [hcl]⟩⟩) (by rw [hcl, hct]; exact ⟨⟨⟨_, hm9⟩, hsc.fx hx9⟩, hx9.fr⟩))
              · refine bj_iconst (v := (nI 2)) d_Mo_ballot_74 (by decide) ?_
                refine bj_goto (tgt := 79) d_Mo_ballot_75 (by decide) ?_
                refine bj_put d_Mo_ballot_79 in_Mo ok_Mo nm_Mo rfl (by decide : 1 < 17) wf_Mo_51 rfl rfl rfl rfl rfl (Nat.le_of_ble_eq_true rfl) hm1.1 ?_
                have hm2 := hm1.hd (cd' := (nI 2)) (se' := se) (op' := op) (li' := li)
                have hx2 : mo_fx M (va_up P1 80 (some (.inr (5, mo_F ad N (nI 2) se op li)))) := hx1.at (j := 80) (by omega) (fun q hq => va_up_ne _ _ hq)
                have hw2 : ∀ q, q ≠ 80 → (va_up P1 80 (some (.inr (5, mo_F ad N (nI 2) se op li)))) q = P1 q := fun q hq => va_up_ne _ _ hq
                show bj_S _ _ _ _ _ _ 0 0 _ _ [] (va_up P1 80 (some (.inr (5, mo_F ad N (nI 2) se op li))))
                generalize va_up P1 80 (some (.inr (5, mo_F ad N (nI 2) se op li))) = P2 at hm2 hx2 hw2 ⊢
                refine bj_aload_n d_Mo_ballot_82 rfl rfl ?_
                refine bj_get d_Mo_ballot_83 in_Mo rfl (by decide : 1 < 17) wf_Mo_51 rfl hm2.1 rfl ?_
                refine bj_if_leN (tgt := 91) d_Mo_ballot_86 (by decide) (by decide) (fun h => absurd h (by decide)) (fun _ => ?_)
                refine bj_iconst (v := (nI 0)) d_Mo_ballot_89 (by decide) ?_
                exact bj_iret d_Mo_ballot_90 rfl rfl (Nat.le_refl _) (Nat.le_refl _) (q_modn 2 (by decide) (by decide) (Or.inr ⟨⟨h1, h2, h19, h26⟩, Or.inl ⟨fun q => by first | (rw [q.1] at h51; exact h51 rfl) | (rw [hcl] at q; first | exact h60 q.2.1 | (have := q.2.2; omega)), rfl, rfl⟩⟩) ⟨⟨⟨_, hm2⟩, hsc.fx hx2⟩, hx2.fr⟩)
        · refine bj_iconst (v := (nI 1)) d_Mo_ballot_29 (by decide) ?_
          refine bj_goto (tgt := 34) d_Mo_ballot_30 (by decide) ?_
          refine bj_put d_Mo_ballot_34 in_Mo ok_Mo nm_Mo rfl (by decide : 1 < 17) wf_Mo_51 rfl rfl rfl rfl rfl (Nat.le_of_ble_eq_true rfl) hm0.1 ?_
          have hm1 := hm0.hd (cd' := (nI 1)) (se' := se) (op' := op) (li' := li)
          have hx1 : mo_fx M (va_up M 80 (some (.inr (5, mo_F ad N (nI 1) se op li)))) := mo_fx.rf.at (j := 80) (by omega) (fun q hq => va_up_ne _ _ hq)
          have hw1 : ∀ q, q ≠ 80 → (va_up M 80 (some (.inr (5, mo_F ad N (nI 1) se op li)))) q = M q := fun q hq => va_up_ne _ _ hq
          show bj_S _ _ _ _ _ _ 0 0 _ _ [] (va_up M 80 (some (.inr (5, mo_F ad N (nI 1) se op li))))
          generalize va_up M 80 (some (.inr (5, mo_F ad N (nI 1) se op li))) = P1 at hm1 hx1 hw1 ⊢
          refine bj_aload_n d_Mo_ballot_37 rfl rfl ?_
          refine bj_get d_Mo_ballot_38 in_Mo rfl (by decide : 1 < 17) wf_Mo_51 rfl hm1.1 rfl ?_
          refine bj_if_leN (tgt := 46) d_Mo_ballot_41 (by decide) (by decide) (fun h => absurd h (by decide)) (fun _ => ?_)
          refine bj_iconst (v := (nI 0)) d_Mo_ballot_44 (by decide) ?_
          exact bj_iret d_Mo_ballot_45 rfl rfl (Nat.le_refl _) (Nat.le_refl _) (q_modn 1 (by decide) (by decide) (Or.inl ⟨fun q => by first | (rw [bt_n0.mp h6] at q; exact absurd q.1 (by decide)) | (rw [hr9.mpr q.2.1] at h14; exact absurd h14 (by decide)) | exact q.2.2.1 h19 | exact h26 q.2.2.2, rfl, rfl⟩) ⟨⟨⟨_, hm1⟩, hsc.fx hx1⟩, hx1.fr⟩)
set_option maxRecDepth 100000 in
set_option maxHeartbeats 4000000 in
/-- tie -/
theorem t_Mo_tie {N op : Nat} {cd : Int32} {se : Bool} {dw sg sz : Nat → Nat} {rk : Nat → Nat → Int32} {tm : Nat → Nat → Nat} (hA : mo_all c ad M N cd se op dw sg sz rk tm) (hiv : of_iv N op dw sg sz tm) {x1 x2 : Int32} : bj_T (bw_G l D c) Y_Mo_tie 2 (0, 0, 0, 0) ad (q_mod false (Ru (tieC N op se x1 x2)) (mo_st c ad M N se op (tieD N dw x1 x2) sg sz rk tm) (mo_st c ad M N se op dw sg sz rk tm)) [.ref (ad 80), .int x1, .int x2] M := by
  show bj_S _ _ _ _ _ _ 0 0 0 [some (.ref (ad 80)), some (.int x1), some (.int x2), none, none] [] M
  obtain ⟨⟨li, hm0⟩, hsc⟩ := hA
  obtain ⟨hN1, hN, hop, ⟨ps, hpm⟩, hbt, hun⟩ := hiv
  refine bj_aload_n d_Mo_tie_0 rfl rfl ?_
  refine bj_aload_n d_Mo_tie_1 rfl rfl ?_
  refine bj_iload_n d_Mo_tie_2 rfl rfl ?_
  refine bj_cvF sv_Mo_57 d_Mo_tie_3 (t_Mo_isCandidate l D c ad M hm0 hN) rfl rfl (by decide) (by decide) (by decide) (Nat.le_of_ble_eq_true rfl) rfl hm0.1 rfl rfl ?_
  refine bj_if_eq (tgt := 17) d_Mo_tie_6 (by decide) (fun h6 => ?_) (fun h6 => ?_)
  · refine bj_iconst (v := (nI 1)) d_Mo_tie_17 (by decide) ?_
    refine bj_goto (tgt := 40) d_Mo_tie_18 (by decide) ?_
    refine bj_put d_Mo_tie_40 in_Mo ok_Mo nm_Mo rfl (by decide : 1 < 17) wf_Mo_51 rfl rfl rfl rfl rfl (Nat.le_of_ble_eq_true rfl) hm0.1 ?_
    have hm1 := hm0.hd (cd' := (nI 1)) (se' := se) (op' := op) (li' := li)
    have hx1 : mo_fx M (va_up M 80 (some (.inr (5, mo_F ad N (nI 1) se op li)))) := mo_fx.rf.at (j := 80) (by omega) (fun q hq => va_up_ne _ _ hq)
    have hw1 : ∀ q, q ≠ 80 → (va_up M 80 (some (.inr (5, mo_F ad N (nI 1) se op li)))) q = M q := fun q hq => va_up_ne _ _ hq
    show bj_S _ _ _ _ _ _ 0 0 _ _ [] (va_up M 80 (some (.inr (5, mo_F ad N (nI 1) se op li))))
    generalize va_up M 80 (some (.inr (5, mo_F ad N (nI 1) se op li))) = P1 at hm1 hx1 hw1 ⊢
    refine bj_aload_n d_Mo_tie_43 rfl rfl ?_
    refine bj_get d_Mo_tie_44 in_Mo rfl (by decide : 1 < 17) wf_Mo_51 rfl hm1.1 rfl ?_
    refine bj_if_leN (tgt := 51) d_Mo_tie_47 (by decide) (by decide) (fun h => absurd h (by decide)) (fun _ => ?_)
    exact bj_vret d_Mo_tie_50 rfl (Nat.le_refl _) (Nat.le_refl _) (q_modn 1 (by decide) (by decide) ⟨(if_neg (fun q => by first | (rw [bt_n0.mp h6] at q; exact absurd q.1 (by decide)) | (rw [bt_n0.mp h14] at q; exact absurd q.2 (by decide)))).symm, rfl⟩ ⟨⟨⟨_, hm1⟩, hsc.fx hx1⟩, hx1.fr⟩)
  · refine bj_aload_n d_Mo_tie_9 rfl rfl ?_
    refine bj_iload_n d_Mo_tie_10 rfl rfl ?_
    refine bj_cvF sv_Mo_57 d_Mo_tie_11 (t_Mo_isCandidate l D c ad M hm0 hN) rfl rfl (by decide) (by decide) (by decide) (Nat.le_of_ble_eq_true rfl) rfl hm0.1 rfl rfl ?_
    refine bj_if_ne (tgt := 21) d_Mo_tie_14 (by decide) (fun h14 => ?_) (fun h14 => ?_)
    · refine bj_aload_n d_Mo_tie_21 rfl rfl ?_
      refine bj_get d_Mo_tie_22 in_Mo rfl (by decide : 2 < 17) wf_Mo_61 rfl hm0.1 rfl ?_
      refine bj_if_ne (tgt := 35) d_Mo_tie_25 (by decide) (fun h25 => ?_) (fun h25 => ?_)
      · refine bj_iconst (v := (nI 2)) d_Mo_tie_35 (by decide) ?_
        refine bj_goto (tgt := 40) d_Mo_tie_36 (by decide) ?_
        refine bj_put d_Mo_tie_40 in_Mo ok_Mo nm_Mo rfl (by decide : 1 < 17) wf_Mo_51 rfl rfl rfl rfl rfl (Nat.le_of_ble_eq_true rfl) hm0.1 ?_
        have hm1 := hm0.hd (cd' := (nI 2)) (se' := se) (op' := op) (li' := li)
        have hx1 : mo_fx M (va_up M 80 (some (.inr (5, mo_F ad N (nI 2) se op li)))) := mo_fx.rf.at (j := 80) (by omega) (fun q hq => va_up_ne _ _ hq)
        have hw1 : ∀ q, q ≠ 80 → (va_up M 80 (some (.inr (5, mo_F ad N (nI 2) se op li)))) q = M q := fun q hq => va_up_ne _ _ hq
        show bj_S _ _ _ _ _ _ 0 0 _ _ [] (va_up M 80 (some (.inr (5, mo_F ad N (nI 2) se op li))))
        generalize va_up M 80 (some (.inr (5, mo_F ad N (nI 2) se op li))) = P1 at hm1 hx1 hw1 ⊢
        refine bj_aload_n d_Mo_tie_43 rfl rfl ?_
        refine bj_get d_Mo_tie_44 in_Mo rfl (by decide : 1 < 17) wf_Mo_51 rfl hm1.1 rfl ?_
        refine bj_if_leN (tgt := 51) d_Mo_tie_47 (by decide) (by decide) (fun h => absurd h (by decide)) (fun _ => ?_)
        exact bj_vret d_Mo_tie_50 rfl (Nat.le_refl _) (Nat.le_refl _) (q_modn 2 (by decide) (by decide) ⟨((if_pos ⟨bt_nn h6, bt_nn h14⟩).trans (if_pos (by first | exact Or.inl (bt_nn h25) | exact Or.inr h32))).symm, rfl⟩ ⟨⟨⟨_, hm1⟩, hsc.fx hx1⟩, hx1.fr⟩)
      · refine bj_aload_n d_Mo_tie_28 rfl rfl ?_
        refine bj_get d_Mo_tie_29 in_Mo rfl (by decide : 4 < 17) wf_Mo_54 rfl hm0.1 rfl ?_
        refine bj_if_leN (tgt := 39) d_Mo_tie_32 (by decide) (by omega) (fun h32 => ?_) (fun h32 => ?_)
        · refine bj_iconst (v := (nI 0)) d_Mo_tie_39 (by decide) ?_
          refine bj_put d_Mo_tie_40 in_Mo ok_Mo nm_Mo rfl (by decide : 1 < 17) wf_Mo_51 rfl rfl rfl rfl rfl (Nat.le_of_ble_eq_true rfl) hm0.1 ?_
          have hm1 := hm0.hd (cd' := (nI 0)) (se' := se) (op' := op) (li' := li)
          have hx1 : mo_fx M (va_up M 80 (some (.inr (5, mo_F ad N (nI 0) se op li)))) := mo_fx.rf.at (j := 80) (by omega) (fun q hq => va_up_ne _ _ hq)
          have hw1 : ∀ q, q ≠ 80 → (va_up M 80 (some (.inr (5, mo_F ad N (nI 0) se op li)))) q = M q := fun q hq => va_up_ne _ _ hq
          show bj_S _ _ _ _ _ _ 0 0 _ _ [] (va_up M 80 (some (.inr (5, mo_F ad N (nI 0) se op li))))
          generalize va_up M 80 (some (.inr (5, mo_F ad N (nI 0) se op li))) = P1 at hm1 hx1 hw1 ⊢
          refine bj_aload_n d_Mo_tie_43 rfl rfl ?_
          refine bj_get d_Mo_tie_44 in_Mo rfl (by decide : 1 < 17) wf_Mo_51 rfl hm1.1 rfl ?_
          refine bj_if_leN (tgt := 51) d_Mo_tie_47 (by decide) (by decide) (fun _ => ?_) (fun h => absurd h (by decide))
          have h1 := bt_nn h6
          have h2 := bt_nn h14
          obtain ⟨a, ha, rfl⟩ := ic_t (by omega) h1
          obtain ⟨b, hb9, rfl⟩ := ic_t (by omega) h2
          have hz : tieC N op se (nI a) (nI b) = 0 := by unfold tieC; rw [if_pos ⟨h1, h2⟩, if_neg (by rw [bt_n0.mp h25]; simp; omega)]
          refine bj_aload_n d_Mo_tie_51 rfl rfl ?_
          refine bj_iload_n d_Mo_tie_52 rfl rfl ?_
          refine bj_cvF sv_Mo_65 d_Mo_tie_53 (t_Mo_placeOf l D c ad P1 hm1 hN hpm ha) rfl rfl (by decide) (by decide) (by decide) (Nat.le_of_ble_eq_true rfl) rfl hm1.1 rfl rfl ?_
          refine bj_istore_n (L' := [some (.ref (ad 80)), some (.int (nI a)), some (.int (nI b)), some (.int (nI (ps a))), none]) d_Mo_tie_56 rfl (by decide) rfl ?_
          have l1 : ∀ (i : Nat), ∀ (M3 : bj_M), (ps a ≤ i) → (i ≤ N - 1) → (mo_ok c ad M3 N (nI 0) se op li (mv1 dw (ps a) i) sg sz rk tm) → (mo_fx M M3) → bj_S (bw_G l D c) Y_Mo_tie 2 (0, 0, 0, 0) ad (q_mod false (Ru (tieC N op se (nI a) (nI b))) (mo_st c ad M N se op (tieD N dw (nI a) (nI b)) sg sz rk tm) (mo_st c ad M N se op dw sg sz rk tm)) 0 0 60 [some (.ref (ad 80)), some (.int (nI a)), some (.int (nI b)), some (.int (nI (ps a))), some (.int (nI i))] [] M3 := by
            intro i M3
            induction hd_l1 : N - i using Nat.strongRecOn generalizing i M3 with
            | ind d_l1 ih_l1 =>
              intro hi hi2 h3 hx3
              refine bj_iload d_Mo_tie_60 rfl ?_
              refine bj_aload_n d_Mo_tie_62 rfl rfl ?_
              refine bj_get d_Mo_tie_63 in_Mo rfl (by decide : 0 < 17) wf_Mo_47 rfl h3.1 rfl ?_
              refine bj_iconst (v := (nI 1)) d_Mo_tie_66 (by decide) ?_
              refine bj_isub (v := (nI (N - 1))) d_Mo_tie_67 (pk_sub (by omega)) ?_
              refine bj_icmp_geN (tgt := 93) d_Mo_tie_68 (by decide) (by omega) (by omega) (fun h68 => ?_) (fun h68 => ?_)
              · refine bj_aload_n d_Mo_tie_93 rfl rfl ?_
                refine bj_get d_Mo_tie_94 in_Mo rfl (by decide : 0 < 17) wf_Mo_47 rfl h3.1 rfl ?_
                refine bj_iconst (v := (nI 1)) d_Mo_tie_97 (by decide) ?_
                refine bj_isub (v := (nI (N - 1))) d_Mo_tie_98 (pk_sub (by omega)) ?_
                refine bj_istore (L' := [some (.ref (ad 80)), some (.int (nI a)), some (.int (nI b)), some (.int (nI (ps a))), some (.int (nI (N - 1)))]) d_Mo_tie_99 (by decide) rfl ?_
                have l2 : ∀ (i : Nat), ∀ (M4 : bj_M), (i < N) → (b ≤ i) → (mo_ok c ad M4 N (nI 0) se op li (rm2 dw N (ps a) i) sg sz rk tm) → (mo_fx M M4) → bj_S (bw_G l D c) Y_Mo_tie 2 (0, 0, 0, 0) ad (q_mod false (Ru (tieC N op se (nI a) (nI b))) (mo_st c ad M N se op (tieD N dw (nI a) (nI b)) sg sz rk tm) (mo_st c ad M N se op dw sg sz rk tm)) 0 0 101 [some (.ref (ad 80)), some (.int (nI a)), some (.int (nI b)), some (.int (nI (ps a))), some (.int (nI i))] [] M4 := by
                  intro i M4
                  induction hd_l2 : i + 1 using Nat.strongRecOn generalizing i M4 with
                  | ind d_l2 ih_l2 =>
                    intro hi hi2 h4 hx4
                    refine bj_iload d_Mo_tie_101 rfl ?_
                    refine bj_iload_n d_Mo_tie_103 rfl rfl ?_
                    refine bj_icmp_leN (tgt := 129) d_Mo_tie_104 (by decide) (by omega) (by omega) (fun h104 => ?_) (fun h104 => ?_)
                    · refine bj_aload_n d_Mo_tie_129 rfl rfl ?_
                      refine bj_get d_Mo_tie_130 in_Mo rfl (by decide : 3 < 17) wf_Mo_7 rfl h4.1 rfl ?_
                      refine bj_iload_n d_Mo_tie_133 rfl rfl ?_
                      refine bj_iload_n d_Mo_tie_134 rfl rfl ?_
                      refine bv_iast d_Mo_tie_135 0 rfl h4.2.1 (by omega) (by omega) (fun N1 hN1 hO1 => ?_)
                      have hend : mo_st c ad M N se op (tieD N dw (nI a) (nI b)) sg sz rk tm 0 N1 := ⟨⟨⟨_, h4.p1 ((bv_I.upn hN1).to (fun x _ => by rw [tieD_n (by omega) (by omega), plc_eq hpm ha, ← rm2_e (N := N) (hpm.2 a ha).1 hb9, (hpm.2 a ha).2, show b = i by omega])) hO1⟩, hsc.fx (hx4.at (by omega) hO1)⟩, (hx4.at (by omega) hO1).fr⟩
                      exact bj_vret d_Mo_tie_136 rfl (Nat.le_refl _) (Nat.le_refl _) (q_mod0 ⟨hz.symm, rfl⟩ hend)
                    · refine bj_aload_n d_Mo_tie_107 rfl rfl ?_
                      refine bj_get d_Mo_tie_108 in_Mo rfl (by decide : 3 < 17) wf_Mo_7 rfl h4.1 rfl ?_
                      refine bj_iload d_Mo_tie_111 rfl ?_
                      refine bj_aload_n d_Mo_tie_113 rfl rfl ?_
                      refine bj_get d_Mo_tie_114 in_Mo rfl (by decide : 3 < 17) wf_Mo_7 rfl h4.1 rfl ?_
                      refine bj_iload d_Mo_tie_117 rfl ?_
                      refine bj_iconst (v := (nI 1)) d_Mo_tie_119 (by decide) ?_
                      refine bj_isub (v := (nI (i - 1))) d_Mo_tie_120 (pk_sub (by omega)) ?_
                      refine bv_iald d_Mo_tie_121 0 rfl h4.2.1 (by omega) (by omega) rfl ?_
                      refine bv_iast d_Mo_tie_122 0 rfl h4.2.1 (by omega) (by omega) (fun N1 hN1 hO1 => ?_)
                      refine bj_iinc (v := (nI (i - 1))) (L' := [some (.ref (ad 80)), some (.int (nI a)), some (.int (nI b)), some (.int (nI (ps a))), some (.int (nI (i - 1)))]) d_Mo_tie_123 rfl (bj_dec1 (by omega)) (by decide) rfl ?_
                      refine bj_goto (tgt := 101) d_Mo_tie_126 (by decide) ?_
                      exact ih_l2 (i - 1 + 1) (by omega) (i - 1) N1 rfl (by omega) (by omega) (h4.p1 ((bv_I.upn hN1).to (fun x _ => by rw [rm2_s (by omega) hi])) hO1) (hx4.at (by omega) hO1)
                exact l2 (N - 1) M3 (by omega) (by omega) (h3.p1 (h3.2.1.to (fun x _ => by rw [show i = N - 1 by omega, rm2_0])) (fun _ _ => rfl)) hx3
              · refine bj_aload_n d_Mo_tie_71 rfl rfl ?_
                refine bj_get d_Mo_tie_72 in_Mo rfl (by decide : 3 < 17) wf_Mo_7 rfl h3.1 rfl ?_
                refine bj_iload d_Mo_tie_75 rfl ?_
                refine bj_aload_n d_Mo_tie_77 rfl rfl ?_
                refine bj_get d_Mo_tie_78 in_Mo rfl (by decide : 3 < 17) wf_Mo_7 rfl h3.1 rfl ?_
                refine bj_iload d_Mo_tie_81 rfl ?_
                refine bj_iconst (v := (nI 1)) d_Mo_tie_83 (by decide) ?_
                refine bj_iadd (v := (nI (i + 1))) d_Mo_tie_84 (nI_add _ _) ?_
                refine bv_iald (v := (nI (dw (i + 1)))) d_Mo_tie_85 0 rfl h3.2.1 (by omega) (by omega) (by show nI _ = nI _; rw [mv1_r]) ?_
                refine bv_iast d_Mo_tie_86 0 rfl h3.2.1 (by omega) (by omega) (fun N1 hN1 hO1 => ?_)
                refine bj_iinc (v := (nI (i + 1))) (L' := [some (.ref (ad 80)), some (.int (nI a)), some (.int (nI b)), some (.int (nI (ps a))), some (.int (nI (i + 1)))]) d_Mo_tie_87 rfl (bj_inc1 _) (by decide) rfl ?_
                refine bj_goto (tgt := 60) d_Mo_tie_90 (by decide) ?_
                exact ih_l1 (N - (i + 1)) (by omega) (i + 1) N1 rfl (by omega) (by omega) (h3.p1 ((bv_I.upn hN1).to (fun x _ => by rw [mv1_s hi])) hO1) (hx3.at (by omega) hO1)
          refine bj_iload_n d_Mo_tie_57 rfl rfl ?_
          refine bj_istore (L' := [some (.ref (ad 80)), some (.int (nI a)), some (.int (nI b)), some (.int (nI (ps a))), some (.int (nI (ps a)))]) d_Mo_tie_58 (by decide) rfl ?_
          exact l1 (ps a) P1 (Nat.le_refl _) (by have := (hpm.2 a ha).1; omega) (hm1.p1 (hm1.2.1.to (fun x _ => by unfold mv1; rw [if_neg (by omega)])) (fun _ _ => rfl)) hx1
        · refine bj_iconst (v := (nI 2)) d_Mo_tie_35 (by decide) ?_
          refine bj_goto (tgt := 40) d_Mo_tie_36 (by decide) ?_
          refine bj_put d_Mo_tie_40 in_Mo ok_Mo nm_Mo rfl (by decide : 1 < 17) wf_Mo_51 rfl rfl rfl rfl rfl (Nat.le_of_ble_eq_true rfl) hm0.1 ?_
          have hm1 := hm0.hd (cd' := (nI 2)) (se' := se) (op' := op) (li' := li)
          have hx1 : mo_fx M (va_up M 80 (some (.inr (5, mo_F ad N (nI 2) se op li)))) := mo_fx.rf.at (j := 80) (by omega) (fun q hq => va_up_ne _ _ hq)
          have hw1 : ∀ q, q ≠ 80 → (va_up M 80 (some (.inr (5, mo_F ad N (nI 2) se op li)))) q = M q := fun q hq => va_up_ne _ _ hq
          show bj_S _ _ _ _ _ _ 0 0 _ _ [] (va_up M 80 (some (.inr (5, mo_F ad N (nI 2) se op li))))
          generalize va_up M 80 (some (.inr (5, mo_F ad N (nI 2) se op li))) = P1 at hm1 hx1 hw1 ⊢
          refine bj_aload_n d_Mo_tie_43 rfl rfl ?_
          refine bj_get d_Mo_tie_44 in_Mo rfl (by decide : 1 < 17) wf_Mo_51 rfl hm1.1 rfl ?_
          refine bj_if_leN (tgt := 51) d_Mo_tie_47 (by decide) (by decide) (fun h => absurd h (by decide)) (fun _ => ?_)
          exact bj_vret d_Mo_tie_50 rfl (Nat.le_refl _) (Nat.le_refl _) (q_modn 2 (by decide) (by decide) ⟨((if_pos ⟨bt_nn h6, bt_nn h14⟩).trans (if_pos (by first | exact Or.inl (bt_nn h25) | exact Or.inr h32))).symm, rfl⟩ ⟨⟨⟨_, hm1⟩, hsc.fx hx1⟩, hx1.fr⟩)
    · refine bj_iconst (v := (nI 1)) d_Mo_tie_17 (by decide) ?_
      refine bj_goto (tgt := 40) d_Mo_tie_18 (by decide) ?_
      refine bj_put d_Mo_tie_40 in_Mo ok_Mo nm_Mo rfl (by decide : 1 < 17) wf_Mo_51 rfl rfl rfl rfl rfl (Nat.le_of_ble_eq_true rfl) hm0.1 ?_
      have hm1 := hm0.hd (cd' := (nI 1)) (se' := se) (op' := op) (li' := li)
      have hx1 : mo_fx M (va_up M 80 (some (.inr (5, mo_F ad N (nI 1) se op li)))) := mo_fx.rf.at (j := 80) (by omega) (fun q hq => va_up_ne _ _ hq)
      have hw1 : ∀ q, q ≠ 80 → (va_up M 80 (some (.inr (5, mo_F ad N (nI 1) se op li)))) q = M q := fun q hq => va_up_ne _ _ hq
      show bj_S _ _ _ _ _ _ 0 0 _ _ [] (va_up M 80 (some (.inr (5, mo_F ad N (nI 1) se op li))))
      generalize va_up M 80 (some (.inr (5, mo_F ad N (nI 1) se op li))) = P1 at hm1 hx1 hw1 ⊢
      refine bj_aload_n d_Mo_tie_43 rfl rfl ?_
      refine bj_get d_Mo_tie_44 in_Mo rfl (by decide : 1 < 17) wf_Mo_51 rfl hm1.1 rfl ?_
      refine bj_if_leN (tgt := 51) d_Mo_tie_47 (by decide) (by decide) (fun h => absurd h (by decide)) (fun _ => ?_)
      exact bj_vret d_Mo_tie_50 rfl (Nat.le_refl _) (Nat.le_refl _) (q_modn 1 (by decide) (by decide) ⟨(if_neg (fun q => by first | (rw [bt_n0.mp h6] at q; exact absurd q.1 (by decide)) | (rw [bt_n0.mp h14] at q; exact absurd q.2 (by decide)))).symm, rfl⟩ ⟨⟨⟨_, hm1⟩, hsc.fx hx1⟩, hx1.fr⟩)
set_option maxRecDepth 100000 in
set_option maxHeartbeats 4000000 in
/-- voters -/
theorem t_Mo_voters {N op : Nat} {cd : Int32} {se : Bool} {dw sg sz : Nat → Nat} {rk : Nat → Nat → Int32} {tm : Nat → Nat → Nat} (hA : mo_all c ad M N cd se op dw sg sz rk tm) (hiv : of_iv N op dw sg sz tm)  : bj_T (bw_G l D c) Y_Mo_voters 2 (0, 0, 0, 0) ad (q_mod true (Rv 0 (nI (vsum sg sz tm))) (mo_st c ad M N se op dw sg sz rk tm) (mo_st c ad M N se op dw sg sz rk tm)) [.ref (ad 80)] M := by
  show bj_S _ _ _ _ _ _ 0 0 0 [some (.ref (ad 80)), none, none, none] [] M
  obtain ⟨⟨li, hm0⟩, hsc⟩ := hA
  obtain ⟨hN1, hN, hop, ⟨ps, hpm⟩, hbt, hun⟩ := hiv
  refine bj_aload_n d_Mo_voters_0 rfl rfl ?_
  refine bj_iconst (v := (nI 0)) d_Mo_voters_1 (by decide) ?_
  refine bj_put d_Mo_voters_2 in_Mo ok_Mo nm_Mo rfl (by decide : 1 < 17) wf_Mo_51 rfl rfl rfl rfl rfl (Nat.le_of_ble_eq_true rfl) hm0.1 ?_
  have hm1 := hm0.hd (cd' := (nI 0)) (se' := se) (op' := op) (li' := li)
  have hx1 : mo_fx M (va_up M 80 (some (.inr (5, mo_F ad N (nI 0) se op li)))) := mo_fx.rf.at (j := 80) (by omega) (fun q hq => va_up_ne _ _ hq)
  have hw1 : ∀ q, q ≠ 80 → (va_up M 80 (some (.inr (5, mo_F ad N (nI 0) se op li)))) q = M q := fun q hq => va_up_ne _ _ hq
  show bj_S _ _ _ _ _ _ 0 0 _ _ [] (va_up M 80 (some (.inr (5, mo_F ad N (nI 0) se op li))))
  generalize va_up M 80 (some (.inr (5, mo_F ad N (nI 0) se op li))) = P1 at hm1 hx1 hw1 ⊢
  refine bj_iconst (v := (nI 0)) d_Mo_voters_5 (by decide) ?_
  refine bj_istore_n (L' := [some (.ref (ad 80)), some (.int (nI 0)), none, none]) d_Mo_voters_6 rfl (by decide) rfl ?_
  refine bj_iconst (v := (nI 0)) d_Mo_voters_7 (by decide) ?_
  refine bj_istore_n (L' := [some (.ref (ad 80)), some (.int (nI 0)), some (.int (nI 0)), none]) d_Mo_voters_8 rfl (by decide) rfl ?_
  have l1 : ∀ (b : Nat), ∀ (z : Option Value), (b ≤ op) → bj_S (bw_G l D c) Y_Mo_voters 2 (0, 0, 0, 0) ad (q_mod true (Rv 0 (nI (vsum sg sz tm))) (mo_st c ad M N se op dw sg sz rk tm) (mo_st c ad M N se op dw sg sz rk tm)) 0 0 9 [some (.ref (ad 80)), some (.int (nI (vpart sg sz tm b))), some (.int (nI b)), z] [] P1 := by
    intro b z
    induction hd_l1 : 12 - b using Nat.strongRecOn generalizing b z with
    | ind d_l1 ih_l1 =>
      intro hb0
      refine bj_iload_n d_Mo_voters_9 rfl rfl ?_
      refine bj_aload_n d_Mo_voters_10 rfl rfl ?_
      refine bj_get d_Mo_voters_11 in_Mo rfl (by decide : 4 < 17) wf_Mo_54 rfl hm1.1 rfl ?_
      refine bj_icmp_geN (tgt := 65) d_Mo_voters_14 (by decide) (by first | omega | (have := hbt b (by omega); omega)) (by first | omega | (have := hbt b (by omega); omega)) (fun h14 => ?_) (fun h14 => ?_)
      · refine bj_iload_n d_Mo_voters_65 rfl rfl ?_
        exact bj_iret d_Mo_voters_66 rfl rfl (Nat.le_refl _) (Nat.le_refl _) (q_mod0 ⟨rfl, by rw [show vsum sg sz tm = vpart sg sz tm b from (by rw [show b = op by omega]; exact (sm_ext 12 hop (fun i h1 h2 => if_neg (by rw [(hun i h1 h2).1]; decide))).symm)]; rfl⟩ ⟨⟨⟨_, hm1⟩, hsc.fx hx1⟩, hx1.fr⟩)
      · refine bj_iconst (v := (nI 0)) d_Mo_voters_17 (by decide) ?_
        refine bj_istore_n (L' := [some (.ref (ad 80)), some (.int (nI (vpart sg sz tm b))), some (.int (nI b)), some (.int (nI 0))]) d_Mo_voters_18 rfl (by decide) rfl ?_
        have l2 : ∀ (k : Nat), (k ≤ sz b) → bj_S (bw_G l D c) Y_Mo_voters 2 (0, 0, 0, 0) ad (q_mod true (Rv 0 (nI (vsum sg sz tm))) (mo_st c ad M N se op dw sg sz rk tm) (mo_st c ad M N se op dw sg sz rk tm)) 0 0 19 [some (.ref (ad 80)), some (.int (nI (vpart sg sz tm b + (if sg b = 1 then sm (tm b) k else 0)))), some (.int (nI b)), some (.int (nI k))] [] P1 := by
          intro k
          induction hd_l2 : 12 - k using Nat.strongRecOn generalizing k with
          | ind d_l2 ih_l2 =>
            intro hk
            have hzb := (hbt b (by omega)).2.1
            refine bj_iload_n d_Mo_voters_19 rfl rfl ?_
            refine bj_aload_n d_Mo_voters_20 rfl rfl ?_
            refine bj_get d_Mo_voters_21 in_Mo rfl (by decide : 6 < 17) wf_Mo_16 rfl hm1.1 rfl ?_
            refine bj_iload_n d_Mo_voters_24 rfl rfl ?_
            refine bv_iald d_Mo_voters_25 0 rfl hm1.2.2.2.1 (by omega) (by first | omega | (have := hbt b (by omega); omega)) rfl ?_
            refine bj_icmp_geN (tgt := 59) d_Mo_voters_26 (by decide) (by first | omega | (have := hbt b (by omega); omega)) (by first | omega | (have := hbt b (by omega); omega)) (fun h26 => ?_) (fun h26 => ?_)
            · have hzz : (if sg b = 1 then sm (tm b) k else 0) = (if sg b = 1 then sm (tm b) (sz b) else 0) := by rw [show k = sz b by omega]
              refine bj_iinc (v := (nI (b + 1))) (L' := [some (.ref (ad 80)), some (.int (nI (vpart sg sz tm b + (if sg b = 1 then sm (tm b) k else 0)))), some (.int (nI (b + 1))), some (.int (nI k))]) d_Mo_voters_59 rfl (bj_inc1 _) (by decide) rfl ?_
              refine bj_goto (tgt := 9) d_Mo_voters_62 (by decide) ?_
              rw [hzz]
              exact ih_l1 (12 - (b + 1)) (by omega) (b + 1) _ rfl (by omega)
            · have hzb := (hbt b (by omega)).2.1
              refine bj_aload_n d_Mo_voters_29 rfl rfl ?_
              refine bj_get d_Mo_voters_30 in_Mo rfl (by decide : 5 < 17) wf_Mo_13 rfl hm1.1 rfl ?_
              refine bj_iload_n d_Mo_voters_33 rfl rfl ?_
              refine bv_iald d_Mo_voters_34 0 rfl hm1.2.2.1 (by omega) (by first | omega | (have := hbt b (by omega); omega)) rfl ?_
              refine bj_iconst (v := (nI 1)) d_Mo_voters_35 (by decide) ?_
              refine bj_icmp_neN (tgt := 59) d_Mo_voters_36 (by decide) (by first | omega | (have := hbt b (by omega); omega)) (by first | omega | (have := hbt b (by omega); omega)) (fun h36 => ?_) (fun h36 => ?_)
              · have hzz : (if sg b = 1 then sm (tm b) k else 0) = (if sg b = 1 then sm (tm b) (sz b) else 0) := by rw [if_neg h36, if_neg h36]
                refine bj_iinc (v := (nI (b + 1))) (L' := [some (.ref (ad 80)), some (.int (nI (vpart sg sz tm b + (if sg b = 1 then sm (tm b) k else 0)))), some (.int (nI (b + 1))), some (.int (nI k))]) d_Mo_voters_59 rfl (bj_inc1 _) (by decide) rfl ?_
                refine bj_goto (tgt := 9) d_Mo_voters_62 (by decide) ?_
                rw [hzz]
                exact ih_l1 (12 - (b + 1)) (by omega) (b + 1) _ rfl (by omega)
              · refine bj_iload_n d_Mo_voters_39 rfl rfl ?_
                refine bj_aload_n d_Mo_voters_40 rfl rfl ?_
                refine bj_get d_Mo_voters_41 in_Mo rfl (by decide : 8 < 17) wf_Mo_22 rfl hm1.1 rfl ?_
                refine bj_bipush (v := (nI 6)) d_Mo_voters_44 (by decide) ?_
                refine bj_iload_n d_Mo_voters_46 rfl rfl ?_
                refine bj_imul (v := (nI (6 * b))) d_Mo_voters_47 (pk_mul _ _) ?_
                refine bj_iload_n d_Mo_voters_48 rfl rfl ?_
                refine bj_iadd (v := (nI ((6 * b) + k))) d_Mo_voters_49 (nI_add _ _) ?_
                refine bv_iald (v := (nI (tm b k))) d_Mo_voters_50 0 rfl hm1.2.2.2.2.2 (by omega) (by first | omega | (have := hbt b (by omega); omega)) (by show nI _ = nI _; rw [show (6 * b + k) / 6 = b by omega, show (6 * b + k) % 6 = k by omega]) ?_
                refine bj_iadd (v := (nI (vpart sg sz tm b + (if sg b = 1 then sm (tm b) (k + 1) else 0)))) d_Mo_voters_51 (by rw [nI_add, if_pos h36, if_pos h36, sm, Nat.add_assoc]) ?_
                refine bj_istore_n (L' := [some (.ref (ad 80)), some (.int (nI (vpart sg sz tm b + (if sg b = 1 then sm (tm b) (k + 1) else 0)))), some (.int (nI b)), some (.int (nI k))]) d_Mo_voters_52 rfl (by decide) rfl ?_
                refine bj_iinc (v := (nI (k + 1))) (L' := [some (.ref (ad 80)), some (.int (nI (vpart sg sz tm b + (if sg b = 1 then sm (tm b) (k + 1) else 0)))), some (.int (nI b)), some (.int (nI (k + 1)))]) d_Mo_voters_53 rfl (bj_inc1 _) (by decide) rfl ?_
                refine bj_goto (tgt := 19) d_Mo_voters_56 (by decide) ?_
                exact ih_l2 (12 - (k + 1)) (by omega) (k + 1) rfl (by omega)
        have l3 := l2 0 (Nat.zero_le _)
        rw [show (if sg b = 1 then sm (tm b) 0 else 0) = 0 by split <;> rfl] at l3
        exact l3
  exact l1 0 none (Nat.zero_le _)
end M2
