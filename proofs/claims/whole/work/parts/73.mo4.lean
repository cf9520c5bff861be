/-! the reference: lacks, prefer, strength, cut, way (walks by gen/m_mo4.py) -/
section M4

theorem prC_inv {N : Nat} {x y : Int32} (h : prC N x y = 0) : ic N x = true ∧ ic N y = true ∧ x ≠ y := by
  unfold prC at h
  split at h
  · assumption
  · cases h
/-- strengths told -/
def sr_ok (c : Nat → ClassId) (M : bj_M) (N : Nat) (p : Nat → Nat → Nat) : Prop := ∃ e : Nat → Nat, bv_I (c 0) M 88 64 (fun j => nI (e j)) ∧ (∀ a b, a < N → b < N → a ≠ b → e (8 * a + b) = mg_F (drn p) N a b) ∧ ∀ j, j < 64 → e j ≤ 720000
def q_lacks (c : Nat → ClassId) (ad : Nat → Nat) (M : bj_M) (N : Nat) (se : Bool) (op : Nat) (dw sg sz : Nat → Nat) (rk : Nat → Nat → Int32) (tm : Nat → Nat → Nat) (x y : Int32) : bj_R → bj_M → Prop := bj_ret (fun r M' => mo_fr M M' ∧ mo_sc c M' ∧ ((prC N x y = 1 ∧ r = some (.int (nI 1)) ∧ ∃ li, mo_ok c ad M' N (nI 1) se op li dw sg sz rk tm) ∨ (prC N x y = 0 ∧ r = some (.int (nI 0)) ∧ (∃ li, mo_ok c ad M' N (nI 0) se op li dw sg sz rk tm) ∧ cn_ok c M' N (psum sg sz rk tm 12) ∧ sr_ok c M' N (psum sg sz rk tm 12))))
theorem m1_12 : ∀ b, b < 12 → (nI b = (-1 : Int32) ↔ b = 12) := by
  intro b hb
  refine ⟨fun e => ?_, fun e => by omega⟩
  have := (oI_m1 (o := some b) (fun c e => by cases e; omega)).mp e
  cases this
theorem dz_le {sg sz : Nat → Nat} {rk : Nat → Nat → Int32} {tm : Nat → Nat → Nat} {N but a x : Nat} (h : ∀ j, j < 12 → sg j ≤ 2 ∧ sz j ≤ 6 ∧ ∀ i, i < sz j → tm j i ≤ 10000) : drn (pz N (psum sg sz rk tm but)) a x ≤ 720000 := by
  have := psum_le (sg := sg) (sz := sz) (rk := rk) (tm := tm) (but := but) (a := a) (b := x) (fun j hj => (h j hj).2)
  have h2 : pz N (psum sg sz rk tm but) a x ≤ 720000 := by
    unfold pz
    split <;> omega
  unfold drn
  split <;> omega
theorem mo_sc.cn {c : Nat → ClassId} {M M' : bj_M} {N : Nat} {p : Nat → Nat → Nat} (h : mo_sc c M) (h1 : cn_ok c M' N p) (e : ∀ q, q ≠ 86 → q ≠ 87 → M' q = M q) : mo_sc c M' := by
  obtain ⟨pf, di, st, lk, ld, fa, ls, -, -, h3, h4, h5, h6, h7⟩ := h
  exact ⟨_, _, st, lk, ld, fa, ls, h1.1, h1.2, h3.in (e _ (by omega) (by omega)), h4.in (e _ (by omega) (by omega)), h5.in (e _ (by omega) (by omega)), h6.in (e _ (by omega) (by omega)), h7.in (e _ (by omega) (by omega))⟩
theorem mo_sc.s8 {c : Nat → ClassId} {M M' : bj_M} {g : Nat → Int32} (h : mo_sc c M) (h1 : bv_I (c 0) M' 88 64 g) (e : ∀ q, q ≠ 88 → M' q = M q) : mo_sc c M' := by
  obtain ⟨pf, di, st, lk, ld, fa, ls, h1', h2, h3, h4, h5, h6, h7⟩ := h
  exact ⟨pf, di, g, lk, ld, fa, ls, h1'.in (e _ (by omega)), h2.in (e _ (by omega)), h1, h4.in (e _ (by omega)), h5.in (e _ (by omega)), h6.in (e _ (by omega)), h7.in (e _ (by omega))⟩
theorem mo_sc.f8 {c : Nat → ClassId} {M M' : bj_M} {g : Nat → Int32} (h : mo_sc c M) (h1 : bv_I (c 0) M' 91 8 g) (e : ∀ q, q ≠ 91 → M' q = M q) : mo_sc c M' := by
  obtain ⟨pf, di, st, lk, ld, fa, ls, h1', h2, h3, h4, h5, h6, h7⟩ := h
  exact ⟨pf, di, st, lk, ld, g, ls, h1'.in (e _ (by omega)), h2.in (e _ (by omega)), h3.in (e _ (by omega)), h4.in (e _ (by omega)), h5.in (e _ (by omega)), h1, h7.in (e _ (by omega))⟩
theorem bv_same {cI : ClassId} {M : bj_M} {k N j : Nat} {f : Nat → Nat} (h : bv_I cI M k N (va_up (fun i => nI (f i)) j (nI (f j)))) : bv_I cI M k N (fun i => nI (f i)) := h.to (fun i _ => by
  by_cases e : i = j
  · rw [e, va_up_self]
  · rw [va_up_ne _ _ e])
def dc (c : Nat) : Int32 := nI c - 1
theorem dc_p {c : Nat} (h : 0 < c) : dc c = nI (c - 1) := pk_sub (b := 1) h
theorem dc_0 : dc 0 = -1 := by decide
theorem dc_s {c : Nat} (h : 0 < c) : nI (c - 1) + Int32.ofInt (-1) = dc (c - 1) := by
  rcases Nat.eq_zero_or_pos (c - 1) with e | e
  · rw [e]; decide
  · rw [bj_dec1 e, dc_p e]
/-- the first that does, sought from above -/
def dn_ok (q : Nat → Bool) (c : Nat) (x : Int32) : Prop := (x = -1 ∧ ∀ j, c ≤ j → j < 8 → q j = false) ∨ ∃ d, x = nI d ∧ c ≤ d ∧ d < 8 ∧ q d = true ∧ ∀ j, c ≤ j → j < d → q j = false
theorem dn_y {q : Nat → Bool} {c : Nat} {x : Int32} (h : dn_ok q c x) (hc : 0 < c) (hc8 : c ≤ 8) (h1 : q (c - 1) = true) : dn_ok q (c - 1) (nI (c - 1)) := Or.inr ⟨c - 1, rfl, Nat.le_refl _, by omega, h1, fun j h2 h3 => by omega⟩
theorem dn_n {q : Nat → Bool} {c : Nat} {x : Int32} (h : dn_ok q c x) (hc : 0 < c) (h1 : q (c - 1) = false) : dn_ok q (c - 1) x := by
  rcases h with ⟨e, h2⟩ | ⟨d, e, h2, h3, h4, h5⟩
  · exact Or.inl ⟨e, fun j h3 h4 => by
      by_cases e2 : j = c - 1
      · rw [e2]; exact h1
      · exact h2 j (by omega) h4⟩
  · exact Or.inr ⟨d, e, by omega, h3, h4, fun j h6 h7 => by
      by_cases e2 : j = c - 1
      · rw [e2]; exact h1
      · exact h5 j (by omega) h7⟩
theorem dn_e {q : Nat → Bool} {x : Int32} (h : dn_ok q 0 x) : x = oI (ft q 8) := by
  rcases h with ⟨e, h2⟩ | ⟨d, e, h2, h3, h4, h5⟩
  · rw [ft_none.mpr (fun j hj => h2 j (Nat.zero_le _) hj)]; exact e
  · rw [ft_eq.mpr ⟨h3, h4, fun j hj => h5 j (Nat.zero_le _) hj⟩]; exact e
variable (l : Launch) (D : va_G) (c : Nat → ClassId) (ad : Nat → Nat) (M : bj_M)
set_option maxRecDepth 100000 in
set_option maxHeartbeats 4000000 in
/-- lacks -/
theorem t_Mo_lacks {N op : Nat} {cd : Int32} {se : Bool} {dw sg sz : Nat → Nat} {rk : Nat → Nat → Int32} {tm : Nat → Nat → Nat} (hA : mo_all c ad M N cd se op dw sg sz rk tm) (hiv : of_iv N op dw sg sz tm) {x1 x2 : Int32} : bj_T (bw_G l D c) Y_Mo_lacks 3 (0, 0, 0, 0) ad (q_lacks c ad M N se op dw sg sz rk tm x1 x2) [.ref (ad 80), .int x1, .int x2] M := by
  show bj_S _ _ _ _ _ _ 0 0 0 [some (.ref (ad 80)), some (.int x1), some (.int x2)] [] M
  obtain ⟨⟨li, hm0⟩, hsc⟩ := hA
  obtain ⟨hN1, hN, hop, ⟨ps, hpm⟩, hbt, hun⟩ := id hiv
  refine bj_aload_n d_Mo_lacks_0 rfl rfl ?_
  refine bj_aload_n d_Mo_lacks_1 rfl rfl ?_
  refine bj_iload_n d_Mo_lacks_2 rfl rfl ?_
  refine bj_cvF sv_Mo_57 d_Mo_lacks_3 (t_Mo_isCandidate l D c ad M hm0 hN) rfl rfl (by decide) (by decide) (by decide) (Nat.le_of_ble_eq_true rfl) rfl hm0.1 rfl rfl ?_
  refine bj_if_eq (tgt := 22) d_Mo_lacks_6 (by decide) (fun h6 => ?_) (fun h6 => ?_)
  · refine bj_iconst (v := (nI 1)) d_Mo_lacks_22 (by decide) ?_
    refine bj_goto (tgt := 27) d_Mo_lacks_23 (by decide) ?_
    refine bj_put d_Mo_lacks_27 in_Mo ok_Mo nm_Mo rfl (by decide : 1 < 17) wf_Mo_51 rfl rfl rfl rfl rfl (Nat.le_of_ble_eq_true rfl) hm0.1 ?_
    have hm1 := hm0.hd (cd' := (nI 1)) (se' := se) (op' := op) (li' := li)
    have hx1 : mo_fx M (va_up M 80 (some (.inr (5, mo_F ad N (nI 1) se op li)))) := mo_fx.rf.at (j := 80) (by omega) (fun q hq => va_up_ne _ _ hq)
    have hw1 : ∀ q, q ≠ 80 → (va_up M 80 (some (.inr (5, mo_F ad N (nI 1) se op li)))) q = M q := fun q hq => va_up_ne _ _ hq
    show bj_S _ _ _ _ _ _ 0 0 _ _ [] (va_up M 80 (some (.inr (5, mo_F ad N (nI 1) se op li))))
    generalize va_up M 80 (some (.inr (5, mo_F ad N (nI 1) se op li))) = P1 at hm1 hx1 hw1 ⊢
    refine bj_aload_n d_Mo_lacks_30 rfl rfl ?_
    refine bj_get d_Mo_lacks_31 in_Mo rfl (by decide : 1 < 17) wf_Mo_51 rfl hm1.1 rfl ?_
    refine bj_if_neN (tgt := 46) d_Mo_lacks_34 (by decide) (by decide) (fun _ => ?_) (fun h => absurd h (by decide))
    refine bj_aload_n d_Mo_lacks_46 rfl rfl ?_
    refine bj_get d_Mo_lacks_47 in_Mo rfl (by decide : 1 < 17) wf_Mo_51 rfl hm1.1 rfl ?_
    refine bj_if_leN (tgt := 57) d_Mo_lacks_50 (by decide) (by decide) (fun h => absurd h (by decide)) (fun _ => ?_)
    refine bj_iconst (v := (nI 1)) d_Mo_lacks_53 (by decide) ?_
    refine bj_goto (tgt := 58) d_Mo_lacks_54 (by decide) ?_
    exact bj_iret d_Mo_lacks_58 rfl rfl (Nat.le_refl _) (Nat.le_refl _) ⟨hx1.fr, hsc.fx hx1, Or.inl ⟨prC_f (fun q => by first | (rw [bt_n0.mp h6] at q; exact absurd q.1 (by decide)) | (rw [bt_n0.mp h14] at q; exact absurd q.2.1 (by decide)) | exact q.2.2 h19), rfl, _, hm1⟩⟩
  · refine bj_aload_n d_Mo_lacks_9 rfl rfl ?_
    refine bj_iload_n d_Mo_lacks_10 rfl rfl ?_
    refine bj_cvF sv_Mo_57 d_Mo_lacks_11 (t_Mo_isCandidate l D c ad M hm0 hN) rfl rfl (by decide) (by decide) (by decide) (Nat.le_of_ble_eq_true rfl) rfl hm0.1 rfl rfl ?_
    refine bj_if_eq (tgt := 22) d_Mo_lacks_14 (by decide) (fun h14 => ?_) (fun h14 => ?_)
    · refine bj_iconst (v := (nI 1)) d_Mo_lacks_22 (by decide) ?_
      refine bj_goto (tgt := 27) d_Mo_lacks_23 (by decide) ?_
      refine bj_put d_Mo_lacks_27 in_Mo ok_Mo nm_Mo rfl (by decide : 1 < 17) wf_Mo_51 rfl rfl rfl rfl rfl (Nat.le_of_ble_eq_true rfl) hm0.1 ?_
      have hm1 := hm0.hd (cd' := (nI 1)) (se' := se) (op' := op) (li' := li)
      have hx1 : mo_fx M (va_up M 80 (some (.inr (5, mo_F ad N (nI 1) se op li)))) := mo_fx.rf.at (j := 80) (by omega) (fun q hq => va_up_ne _ _ hq)
      have hw1 : ∀ q, q ≠ 80 → (va_up M 80 (some (.inr (5, mo_F ad N (nI 1) se op li)))) q = M q := fun q hq => va_up_ne _ _ hq
      show bj_S _ _ _ _ _ _ 0 0 _ _ [] (va_up M 80 (some (.inr (5, mo_F ad N (nI 1) se op li))))
      generalize va_up M 80 (some (.inr (5, mo_F ad N (nI 1) se op li))) = P1 at hm1 hx1 hw1 ⊢
      refine bj_aload_n d_Mo_lacks_30 rfl rfl ?_
      refine bj_get d_Mo_lacks_31 in_Mo rfl (by decide : 1 < 17) wf_Mo_51 rfl hm1.1 rfl ?_
      refine bj_if_neN (tgt := 46) d_Mo_lacks_34 (by decide) (by decide) (fun _ => ?_) (fun h => absurd h (by decide))
      refine bj_aload_n d_Mo_lacks_46 rfl rfl ?_
      refine bj_get d_Mo_lacks_47 in_Mo rfl (by decide : 1 < 17) wf_Mo_51 rfl hm1.1 rfl ?_
      refine bj_if_leN (tgt := 57) d_Mo_lacks_50 (by decide) (by decide) (fun h => absurd h (by decide)) (fun _ => ?_)
      refine bj_iconst (v := (nI 1)) d_Mo_lacks_53 (by decide) ?_
      refine bj_goto (tgt := 58) d_Mo_lacks_54 (by decide) ?_
      exact bj_iret d_Mo_lacks_58 rfl rfl (Nat.le_refl _) (Nat.le_refl _) ⟨hx1.fr, hsc.fx hx1, Or.inl ⟨prC_f (fun q => by first | (rw [bt_n0.mp h6] at q; exact absurd q.1 (by decide)) | (rw [bt_n0.mp h14] at q; exact absurd q.2.1 (by decide)) | exact q.2.2 h19), rfl, _, hm1⟩⟩
    · refine bj_iload_n d_Mo_lacks_17 rfl rfl ?_
      refine bj_iload_n d_Mo_lacks_18 rfl rfl ?_
      refine bj_icmp_ne (tgt := 26) d_Mo_lacks_19 (by decide) (fun h19 => ?_) (fun h19 => ?_)
      · refine bj_iconst (v := (nI 0)) d_Mo_lacks_26 (by decide) ?_
        refine bj_put d_Mo_lacks_27 in_Mo ok_Mo nm_Mo rfl (by decide : 1 < 17) wf_Mo_51 rfl rfl rfl rfl rfl (Nat.le_of_ble_eq_true rfl) hm0.1 ?_
        have hm1 := hm0.hd (cd' := (nI 0)) (se' := se) (op' := op) (li' := li)
        have hx1 : mo_fx M (va_up M 80 (some (.inr (5, mo_F ad N (nI 0) se op li)))) := mo_fx.rf.at (j := 80) (by omega) (fun q hq => va_up_ne _ _ hq)
        have hw1 : ∀ q, q ≠ 80 → (va_up M 80 (some (.inr (5, mo_F ad N (nI 0) se op li)))) q = M q := fun q hq => va_up_ne _ _ hq
        show bj_S _ _ _ _ _ _ 0 0 _ _ [] (va_up M 80 (some (.inr (5, mo_F ad N (nI 0) se op li))))
        generalize va_up M 80 (some (.inr (5, mo_F ad N (nI 0) se op li))) = P1 at hm1 hx1 hw1 ⊢
        refine bj_aload_n d_Mo_lacks_30 rfl rfl ?_
        refine bj_get d_Mo_lacks_31 in_Mo rfl (by decide : 1 < 17) wf_Mo_51 rfl hm1.1 rfl ?_
        refine bj_if_neN (tgt := 46) d_Mo_lacks_34 (by decide) (by decide) (fun h => absurd h (by decide)) (fun _ => ?_)
        refine bj_aload_n d_Mo_lacks_37 rfl rfl ?_
        refine bj_iconst (v := (-1)) d_Mo_lacks_38 (by decide) ?_
        have hsc1 := hsc.fx hx1
        obtain ⟨pf, di, st0, lk, ld, fa, ls, g1, g2, g3, g4, g5, g6, g7⟩ := id hsc1
        refine bj_cvR sv_Mo_86 d_Mo_lacks_39 (t_Mo_count l D c ad P1 hm1 hN m1_12 hiv g1 g2) rfl rfl (by decide) (by decide) (by decide) (Nat.le_of_ble_eq_true rfl) rfl hm1.1 rfl rfl (fun v1 N1 hq1 => ?_)
        obtain ⟨rfl, hcn, hE1⟩ := hq1
        show bj_S (bw_G l D c) Y_Mo_lacks 3 (0, 0, 0, 0) ad (q_lacks c ad M N se op dw sg sz rk tm x1 x2) 0 0 42 [some (.ref (ad 80)), some (.int x1), some (.int x2)] [] N1
        have hm8 := hm1.in (M' := N1) (fun q q1 q2 => hE1 q (by omega) (by omega))
        refine bj_aload_n d_Mo_lacks_42 rfl rfl ?_
        refine bj_cvR sv_Mo_90 d_Mo_lacks_43 (t_Mo_strengthen l D c ad N1 hm8 hN (B := 720000) (by decide) hcn.2 (fun j _ => dz_le hbt) (g3.in (hE1 88 (by decide) (by decide)))) rfl rfl (by decide) (by decide) (by decide) (Nat.le_of_ble_eq_true rfl) rfl hm8.1 rfl rfl (fun v2 N2 hq2 => ?_)
        obtain ⟨rfl, ⟨e, he, hfl, hcl⟩, hE2⟩ := hq2
        show bj_S (bw_G l D c) Y_Mo_lacks 3 (0, 0, 0, 0) ad (q_lacks c ad M N se op dw sg sz rk tm x1 x2) 0 0 46 [some (.ref (ad 80)), some (.int x1), some (.int x2)] [] N2
        have hm9 := hm8.in (M' := N2) (fun q q1 q2 => hE2 q (by omega))
        refine bj_aload_n d_Mo_lacks_46 rfl rfl ?_
        refine bj_get d_Mo_lacks_47 in_Mo rfl (by decide : 1 < 17) wf_Mo_51 rfl hm9.1 rfl ?_
        refine bj_if_leN (tgt := 57) d_Mo_lacks_50 (by decide) (by decide) (fun _ => ?_) (fun h => absurd h (by decide))
        refine bj_iconst (v := (nI 0)) d_Mo_lacks_57 (by decide) ?_
        exact bj_iret d_Mo_lacks_58 rfl rfl (Nat.le_refl _) (Nat.le_refl _) ⟨hx1.fr.tr (fun q hq => (hE2 q (by omega)).trans (hE1 q (by omega) (by omega))), (hsc1.cn hcn hE1).s8 he hE2, Or.inr ⟨prC_t ⟨bt_nn h6, bt_nn h14, h19⟩, rfl, ⟨_, hm9⟩, ⟨hcn.1.in (hE2 86 (by decide)), hcn.2.in (hE2 87 (by decide))⟩, e, he, fun a b ha hb hab => fl_str hN (fun _ _ => rfl) hfl hcl ha hb hab, hfl.2.2.1⟩⟩
      · refine bj_iconst (v := (nI 1)) d_Mo_lacks_22 (by decide) ?_
        refine bj_goto (tgt := 27) d_Mo_lacks_23 (by decide) ?_
        refine bj_put d_Mo_lacks_27 in_Mo ok_Mo nm_Mo rfl (by decide : 1 < 17) wf_Mo_51 rfl rfl rfl rfl rfl (Nat.le_of_ble_eq_true rfl) hm0.1 ?_
        have hm1 := hm0.hd (cd' := (nI 1)) (se' := se) (op' := op) (li' := li)
        have hx1 : mo_fx M (va_up M 80 (some (.inr (5, mo_F ad N (nI 1) se op li)))) := mo_fx.rf.at (j := 80) (by omega) (fun q hq => va_up_ne _ _ hq)
        have hw1 : ∀ q, q ≠ 80 → (va_up M 80 (some (.inr (5, mo_F ad N (nI 1) se op li)))) q = M q := fun q hq => va_up_ne _ _ hq
        show bj_S _ _ _ _ _ _ 0 0 _ _ [] (va_up M 80 (some (.inr (5, mo_F ad N (nI 1) se op li))))
        generalize va_up M 80 (some (.inr (5, mo_F ad N (nI 1) se op li))) = P1 at hm1 hx1 hw1 ⊢
        refine bj_aload_n d_Mo_lacks_30 rfl rfl ?_
        refine bj_get d_Mo_lacks_31 in_Mo rfl (by decide : 1 < 17) wf_Mo_51 rfl hm1.1 rfl ?_
        refine bj_if_neN (tgt := 46) d_Mo_lacks_34 (by decide) (by decide) (fun _ => ?_) (fun h => absurd h (by decide))
        refine bj_aload_n d_Mo_lacks_46 rfl rfl ?_
        refine bj_get d_Mo_lacks_47 in_Mo rfl (by decide : 1 < 17) wf_Mo_51 rfl hm1.1 rfl ?_
        refine bj_if_leN (tgt := 57) d_Mo_lacks_50 (by decide) (by decide) (fun h => absurd h (by decide)) (fun _ => ?_)
        refine bj_iconst (v := (nI 1)) d_Mo_lacks_53 (by decide) ?_
        refine bj_goto (tgt := 58) d_Mo_lacks_54 (by decide) ?_
        exact bj_iret d_Mo_lacks_58 rfl rfl (Nat.le_refl _) (Nat.le_refl _) ⟨hx1.fr, hsc.fx hx1, Or.inl ⟨prC_f (fun q => by first | (rw [bt_n0.mp h6] at q; exact absurd q.1 (by decide)) | (rw [bt_n0.mp h14] at q; exact absurd q.2.1 (by decide)) | exact q.2.2 h19), rfl, _, hm1⟩⟩
set_option maxRecDepth 100000 in
set_option maxHeartbeats 4000000 in
/-- prefer -/
theorem t_Mo_prefer {N op : Nat} {cd : Int32} {se : Bool} {dw sg sz : Nat → Nat} {rk : Nat → Nat → Int32} {tm : Nat → Nat → Nat} (hA : mo_all c ad M N cd se op dw sg sz rk tm) (hiv : of_iv N op dw sg sz tm) {x1 x2 : Int32} : bj_T (bw_G l D c) Y_Mo_prefer 4 (0, 0, 0, 0) ad (q_mod true (Rv (prC N x1 x2) (at2 (fun a b => nI (psum sg sz rk tm 12 a b)) x1 x2)) (mo_st c ad M N se op dw sg sz rk tm) (mo_st c ad M N se op dw sg sz rk tm)) [.ref (ad 80), .int x1, .int x2] M := by
  show bj_S _ _ _ _ _ _ 0 0 0 [some (.ref (ad 80)), some (.int x1), some (.int x2)] [] M
  obtain ⟨⟨li, hm0⟩, hsc⟩ := hA
  obtain ⟨hN1, hN, hop, ⟨ps, hpm⟩, hbt, hun⟩ := id hiv
  refine bj_aload_n d_Mo_prefer_0 rfl rfl ?_
  refine bj_iload_n d_Mo_prefer_1 rfl rfl ?_
  refine bj_iload_n d_Mo_prefer_2 rfl rfl ?_
  refine bj_cvR sv_Mo_93 d_Mo_prefer_3 (t_Mo_lacks l D c ad M ⟨⟨_, hm0⟩, hsc⟩ hiv) rfl rfl (by decide) (by decide) (by decide) (Nat.le_of_ble_eq_true rfl) rfl hm0.1 rfl rfl (fun v1 N1 hq1 => ?_)
  obtain ⟨hfr1, hsc1, ⟨hz, rfl, li1, hm1⟩ | ⟨hz, rfl, ⟨li1, hm1⟩, hcn, e, he, hes, heB⟩⟩ := hq1
  · show bj_S (bw_G l D c) Y_Mo_prefer 4 (0, 0, 0, 0) ad (q_mod true (Rv (prC N x1 x2) (at2 (fun a b => nI (psum sg sz rk tm 12 a b)) x1 x2)) (mo_st c ad M N se op dw sg sz rk tm) (mo_st c ad M N se op dw sg sz rk tm)) 0 0 6 [some (.ref (ad 80)), some (.int x1), some (.int x2)] [.int (nI 1)] N1
    refine bj_if_eqN (tgt := 13) d_Mo_prefer_6 (by decide) (by decide) (fun h => absurd h (by decide)) (fun _ => ?_)
    refine bj_iconst (v := (nI 0)) d_Mo_prefer_9 (by decide) ?_
    refine bj_goto (tgt := 24) d_Mo_prefer_10 (by decide) ?_
    exact bj_iret d_Mo_prefer_24 rfl rfl (Nat.le_refl _) (Nat.le_refl _) (q_modn 1 (by decide) (by decide) (Rv_n hz (by decide)) ⟨⟨⟨_, hm1⟩, hsc1⟩, hfr1⟩)
  · have h1 := prC_inv hz
    obtain ⟨a, ha, rfl⟩ := ic_t (by omega) h1.1
    obtain ⟨b, hb9, rfl⟩ := ic_t (by omega) h1.2.1
    have hab : a ≠ b := fun q => h1.2.2 (by rw [q])
    show bj_S (bw_G l D c) Y_Mo_prefer 4 (0, 0, 0, 0) ad (q_mod true (Rv (prC N (nI a) (nI b)) (at2 (fun a b => nI (psum sg sz rk tm 12 a b)) (nI a) (nI b))) (mo_st c ad M N se op dw sg sz rk tm) (mo_st c ad M N se op dw sg sz rk tm)) 0 0 6 [some (.ref (ad 80)), some (.int (nI a)), some (.int (nI b))] [.int (nI 0)] N1
    refine bj_if_eqN (tgt := 13) d_Mo_prefer_6 (by decide) (by decide) (fun _ => ?_) (fun h => absurd h (by decide))
    refine bj_aload_n d_Mo_prefer_13 rfl rfl ?_
    refine bj_get d_Mo_prefer_14 in_Mo rfl (by decide : 9 < 17) wf_Mo_25 rfl hm1.1 rfl ?_
    refine bj_bipush (v := (nI 8)) d_Mo_prefer_17 (by decide) ?_
    refine bj_iload_n d_Mo_prefer_19 rfl rfl ?_
    refine bj_imul (v := (nI (8 * a))) d_Mo_prefer_20 (pk_mul _ _) ?_
    refine bj_iload_n d_Mo_prefer_21 rfl rfl ?_
    refine bj_iadd (v := (nI ((8 * a) + b))) d_Mo_prefer_22 (nI_add _ _) ?_
    refine bv_iald (v := (nI ((psum sg sz rk tm 12) a b))) d_Mo_prefer_23 0 rfl hcn.1 (by omega) (by omega) (by show nI _ = nI _; rw [show (8 * a + b) / 8 = a by omega, show (8 * a + b) % 8 = b by omega, pz_in ha hb9]) ?_
    exact bj_iret d_Mo_prefer_24 rfl rfl (Nat.le_refl _) (Nat.le_refl _) (q_mod0 (Rv_at hz (by omega) (by omega) rfl) ⟨⟨⟨_, hm1⟩, hsc1⟩, hfr1⟩)
set_option maxRecDepth 100000 in
set_option maxHeartbeats 4000000 in
/-- strength -/
theorem t_Mo_strength {N op : Nat} {cd : Int32} {se : Bool} {dw sg sz : Nat → Nat} {rk : Nat → Nat → Int32} {tm : Nat → Nat → Nat} (hA : mo_all c ad M N cd se op dw sg sz rk tm) (hiv : of_iv N op dw sg sz tm) {x1 x2 : Int32} : bj_T (bw_G l D c) Y_Mo_strength 4 (0, 0, 0, 0) ad (q_mod true (Rv (prC N x1 x2) (at2 (fun a b => nI (mg_F (drn (psum sg sz rk tm 12)) N a b)) x1 x2)) (mo_st c ad M N se op dw sg sz rk tm) (mo_st c ad M N se op dw sg sz rk tm)) [.ref (ad 80), .int x1, .int x2] M := by
  show bj_S _ _ _ _ _ _ 0 0 0 [some (.ref (ad 80)), some (.int x1), some (.int x2)] [] M
  obtain ⟨⟨li, hm0⟩, hsc⟩ := hA
  obtain ⟨hN1, hN, hop, ⟨ps, hpm⟩, hbt, hun⟩ := id hiv
  refine bj_aload_n d_Mo_strength_0 rfl rfl ?_
  refine bj_iload_n d_Mo_strength_1 rfl rfl ?_
  refine bj_iload_n d_Mo_strength_2 rfl rfl ?_
  refine bj_cvR sv_Mo_93 d_Mo_strength_3 (t_Mo_lacks l D c ad M ⟨⟨_, hm0⟩, hsc⟩ hiv) rfl rfl (by decide) (by decide) (by decide) (Nat.le_of_ble_eq_true rfl) rfl hm0.1 rfl rfl (fun v1 N1 hq1 => ?_)
  obtain ⟨hfr1, hsc1, ⟨hz, rfl, li1, hm1⟩ | ⟨hz, rfl, ⟨li1, hm1⟩, hcn, e, he, hes, heB⟩⟩ := hq1
  · show bj_S (bw_G l D c) Y_Mo_strength 4 (0, 0, 0, 0) ad (q_mod true (Rv (prC N x1 x2) (at2 (fun a b => nI (mg_F (drn (psum sg sz rk tm 12)) N a b)) x1 x2)) (mo_st c ad M N se op dw sg sz rk tm) (mo_st c ad M N se op dw sg sz rk tm)) 0 0 6 [some (.ref (ad 80)), some (.int x1), some (.int x2)] [.int (nI 1)] N1
    refine bj_if_eqN (tgt := 13) d_Mo_strength_6 (by decide) (by decide) (fun h => absurd h (by decide)) (fun _ => ?_)
    refine bj_iconst (v := (nI 0)) d_Mo_strength_9 (by decide) ?_
    refine bj_goto (tgt := 24) d_Mo_strength_10 (by decide) ?_
    exact bj_iret d_Mo_strength_24 rfl rfl (Nat.le_refl _) (Nat.le_refl _) (q_modn 1 (by decide) (by decide) (Rv_n hz (by decide)) ⟨⟨⟨_, hm1⟩, hsc1⟩, hfr1⟩)
  · have h1 := prC_inv hz
    obtain ⟨a, ha, rfl⟩ := ic_t (by omega) h1.1
    obtain ⟨b, hb9, rfl⟩ := ic_t (by omega) h1.2.1
    have hab : a ≠ b := fun q => h1.2.2 (by rw [q])
    show bj_S (bw_G l D c) Y_Mo_strength 4 (0, 0, 0, 0) ad (q_mod true (Rv (prC N (nI a) (nI b)) (at2 (fun a b => nI (mg_F (drn (psum sg sz rk tm 12)) N a b)) (nI a) (nI b))) (mo_st c ad M N se op dw sg sz rk tm) (mo_st c ad M N se op dw sg sz rk tm)) 0 0 6 [some (.ref (ad 80)), some (.int (nI a)), some (.int (nI b))] [.int (nI 0)] N1
    refine bj_if_eqN (tgt := 13) d_Mo_strength_6 (by decide) (by decide) (fun _ => ?_) (fun h => absurd h (by decide))
    refine bj_aload_n d_Mo_strength_13 rfl rfl ?_
    refine bj_get d_Mo_strength_14 in_Mo rfl (by decide : 11 < 17) wf_Mo_31 rfl hm1.1 rfl ?_
    refine bj_bipush (v := (nI 8)) d_Mo_strength_17 (by decide) ?_
    refine bj_iload_n d_Mo_strength_19 rfl rfl ?_
    refine bj_imul (v := (nI (8 * a))) d_Mo_strength_20 (pk_mul _ _) ?_
    refine bj_iload_n d_Mo_strength_21 rfl rfl ?_
    refine bj_iadd (v := (nI ((8 * a) + b))) d_Mo_strength_22 (nI_add _ _) ?_
    refine bv_iald (v := (nI (mg_F (drn (psum sg sz rk tm 12)) N a b))) d_Mo_strength_23 0 rfl he (by omega) (by omega) (by show nI _ = nI _; rw [hes a b ha hb9 hab]) ?_
    exact bj_iret d_Mo_strength_24 rfl rfl (Nat.le_refl _) (Nat.le_refl _) (q_mod0 (Rv_at hz (by omega) (by omega) rfl) ⟨⟨⟨_, hm1⟩, hsc1⟩, hfr1⟩)
set_option maxRecDepth 100000 in
set_option maxHeartbeats 4000000 in
/-- cut -/
theorem t_Mo_cut {N op : Nat} {cd : Int32} {se : Bool} {dw sg sz : Nat → Nat} {rk : Nat → Nat → Int32} {tm : Nat → Nat → Nat} (hA : mo_all c ad M N cd se op dw sg sz rk tm) (hiv : of_iv N op dw sg sz tm) {x1 x2 : Int32} : bj_T (bw_G l D c) Y_Mo_cut 4 (0, 0, 0, 0) ad (q_mod true (Rv (prC N x1 x2) (at2 (cutb (psum sg sz rk tm 12) N) x1 x2)) (mo_st c ad M N se op dw sg sz rk tm) (mo_st c ad M N se op dw sg sz rk tm)) [.ref (ad 80), .int x1, .int x2] M := by
  show bj_S _ _ _ _ _ _ 0 0 0 [some (.ref (ad 80)), some (.int x1), some (.int x2), none, none, none, none] [] M
  obtain ⟨⟨li, hm0⟩, hsc⟩ := hA
  obtain ⟨hN1, hN, hop, ⟨ps, hpm⟩, hbt, hun⟩ := id hiv
  refine bj_aload_n d_Mo_cut_0 rfl rfl ?_
  refine bj_iload_n d_Mo_cut_1 rfl rfl ?_
  refine bj_iload_n d_Mo_cut_2 rfl rfl ?_
  refine bj_cvR sv_Mo_93 d_Mo_cut_3 (t_Mo_lacks l D c ad M ⟨⟨_, hm0⟩, hsc⟩ hiv) rfl rfl (by decide) (by decide) (by decide) (Nat.le_of_ble_eq_true rfl) rfl hm0.1 rfl rfl (fun v1 N1 hq1 => ?_)
  obtain ⟨hfr1, hsc1, ⟨hz, rfl, li1, hm1⟩ | ⟨hz, rfl, ⟨li1, hm1⟩, hcn, e, he, hes, heB⟩⟩ := hq1
  · show bj_S (bw_G l D c) Y_Mo_cut 4 (0, 0, 0, 0) ad (q_mod true (Rv (prC N x1 x2) (at2 (cutb (psum sg sz rk tm 12) N) x1 x2)) (mo_st c ad M N se op dw sg sz rk tm) (mo_st c ad M N se op dw sg sz rk tm)) 0 0 6 [some (.ref (ad 80)), some (.int x1), some (.int x2), none, none, none, none] [.int (nI 1)] N1
    refine bj_if_eqN (tgt := 11) d_Mo_cut_6 (by decide) (by decide) (fun h => absurd h (by decide)) (fun _ => ?_)
    refine bj_iconst (v := (nI 0)) d_Mo_cut_9 (by decide) ?_
    exact bj_iret d_Mo_cut_10 rfl rfl (Nat.le_refl _) (Nat.le_refl _) (q_modn 1 (by decide) (by decide) (Rv_n hz (by decide)) ⟨⟨⟨_, hm1⟩, hsc1⟩, hfr1⟩)
  · have h1 := prC_inv hz
    obtain ⟨a, ha, rfl⟩ := ic_t (by omega) h1.1
    obtain ⟨b, hb9, rfl⟩ := ic_t (by omega) h1.2.1
    have hab : a ≠ b := fun q => h1.2.2 (by rw [q])
    show bj_S (bw_G l D c) Y_Mo_cut 4 (0, 0, 0, 0) ad (q_mod true (Rv (prC N (nI a) (nI b)) (at2 (cutb (psum sg sz rk tm 12) N) (nI a) (nI b))) (mo_st c ad M N se op dw sg sz rk tm) (mo_st c ad M N se op dw sg sz rk tm)) 0 0 6 [some (.ref (ad 80)), some (.int (nI a)), some (.int (nI b)), none, none, none, none] [.int (nI 0)] N1
    refine bj_if_eqN (tgt := 11) d_Mo_cut_6 (by decide) (by decide) (fun _ => ?_) (fun h => absurd h (by decide))
    refine bj_aload_n d_Mo_cut_11 rfl rfl ?_
    refine bj_get d_Mo_cut_12 in_Mo rfl (by decide : 11 < 17) wf_Mo_31 rfl hm1.1 rfl ?_
    refine bj_bipush (v := (nI 8)) d_Mo_cut_15 (by decide) ?_
    refine bj_iload_n d_Mo_cut_17 rfl rfl ?_
    refine bj_imul (v := (nI (8 * a))) d_Mo_cut_18 (pk_mul _ _) ?_
    refine bj_iload_n d_Mo_cut_19 rfl rfl ?_
    refine bj_iadd (v := (nI ((8 * a) + b))) d_Mo_cut_20 (nI_add _ _) ?_
    refine bv_iald (v := (nI (mg_F (drn (psum sg sz rk tm 12)) N a b))) d_Mo_cut_21 0 rfl he (by omega) (by first | omega | exact dzb _ _) (by show nI _ = nI _; rw [hes a b ha hb9 hab]) ?_
    refine bj_istore_n (L' := [some (.ref (ad 80)), some (.int (nI a)), some (.int (nI b)), some (.int (nI (mg_F (drn (psum sg sz rk tm 12)) N a b))), none, none, none]) d_Mo_cut_22 rfl (by decide) rfl ?_
    refine bj_iconst (v := (nI 1)) d_Mo_cut_23 (by decide) ?_
    refine bj_iload_n d_Mo_cut_24 rfl rfl ?_
    refine bj_ishl (v := ((nI 1) <<< ((nI a) &&& 31))) d_Mo_cut_25 rfl ?_
    refine bj_istore (L' := [some (.ref (ad 80)), some (.int (nI a)), some (.int (nI b)), some (.int (nI (mg_F (drn (psum sg sz rk tm 12)) N a b))), some (.int ((nI 1) <<< ((nI a) &&& 31))), none, none]) d_Mo_cut_26 (by decide) rfl ?_
    refine bj_iconst (v := (nI 0)) d_Mo_cut_28 (by decide) ?_
    refine bj_istore (L' := [some (.ref (ad 80)), some (.int (nI a)), some (.int (nI b)), some (.int (nI (mg_F (drn (psum sg sz rk tm 12)) N a b))), some (.int ((nI 1) <<< ((nI a) &&& 31))), some (.int (nI 0)), none]) d_Mo_cut_29 (by decide) rfl ?_
    have dzb : ∀ a x, drn (pz N (psum sg sz rk tm 12)) a x < 2 ^ 31 := fun a x => Nat.lt_of_le_of_lt (dz_le hbt) (by decide)
    have hFb : (mg_F (drn (psum sg sz rk tm 12)) N a b) < 2 ^ 31 := by have := heB (8 * a + b) (by omega); rw [hes a b ha hb9 hab] at this; omega
    have l1 : ∀ (t : Nat), ∀ (x : Int32), ∀ (z : Option Value), (t ≤ 8) → (cu_ok (drn (pz N (psum sg sz rk tm 12))) (mg_F (drn (psum sg sz rk tm 12)) N a b) a t 0 x) → bj_S (bw_G l D c) Y_Mo_cut 4 (0, 0, 0, 0) ad (q_mod true (Rv (prC N (nI a) (nI b)) (at2 (cutb (psum sg sz rk tm 12) N) (nI a) (nI b))) (mo_st c ad M N se op dw sg sz rk tm) (mo_st c ad M N se op dw sg sz rk tm)) 0 0 31 [some (.ref (ad 80)), some (.int (nI a)), some (.int (nI b)), some (.int (nI (mg_F (drn (psum sg sz rk tm 12)) N a b))), some (.int x), some (.int (nI t)), z] [] N1 := by
      intro t x z
      induction hd_l1 : 8 - t using Nat.strongRecOn generalizing t x z with
      | ind d_l1 ih_l1 =>
        intro ht hcu
        refine bj_iload d_Mo_cut_31 rfl ?_
        refine bj_bipush (v := (nI 8)) d_Mo_cut_33 (by decide) ?_
        refine bj_icmp_geN (tgt := 101) d_Mo_cut_35 (by decide) (by first | omega | exact dzb _ _) (by first | omega | exact dzb _ _) (fun h35 => ?_) (fun h35 => ?_)
        · refine bj_iload d_Mo_cut_101 rfl ?_
          exact bj_iret d_Mo_cut_103 rfl rfl (Nat.le_refl _) (Nat.le_refl _) (q_mod0 (Rv_at hz (by omega) (by omega) (cu_e hN ha ((show t = 8 by omega) ▸ hcu)).symm) ⟨⟨⟨_, hm1⟩, hsc1⟩, hfr1⟩)
        · refine bj_iconst (v := (nI 0)) d_Mo_cut_38 (by decide) ?_
          refine bj_istore (L' := [some (.ref (ad 80)), some (.int (nI a)), some (.int (nI b)), some (.int (nI (mg_F (drn (psum sg sz rk tm 12)) N a b))), some (.int x), some (.int (nI t)), some (.int (nI 0))]) d_Mo_cut_39 (by decide) rfl ?_
          have l2 : ∀ (k : Nat), ∀ (x : Int32), (k ≤ 64) → (cu_ok (drn (pz N (psum sg sz rk tm 12))) (mg_F (drn (psum sg sz rk tm 12)) N a b) a t k x) → bj_S (bw_G l D c) Y_Mo_cut 4 (0, 0, 0, 0) ad (q_mod true (Rv (prC N (nI a) (nI b)) (at2 (cutb (psum sg sz rk tm 12) N) (nI a) (nI b))) (mo_st c ad M N se op dw sg sz rk tm) (mo_st c ad M N se op dw sg sz rk tm)) 0 0 41 [some (.ref (ad 80)), some (.int (nI a)), some (.int (nI b)), some (.int (nI (mg_F (drn (psum sg sz rk tm 12)) N a b))), some (.int x), some (.int (nI t)), some (.int (nI k))] [] N1 := by
            intro k x
            induction hd_l2 : 64 - k using Nat.strongRecOn generalizing k x with
            | ind d_l2 ih_l2 =>
              intro hk hcu
              refine bj_iload d_Mo_cut_41 rfl ?_
              refine bj_bipush (v := (nI 64)) d_Mo_cut_43 (by decide) ?_
              refine bj_icmp_geN (tgt := 95) d_Mo_cut_45 (by decide) (by first | omega | exact dzb _ _) (by first | omega | exact dzb _ _) (fun h45 => ?_) (fun h45 => ?_)
              · refine bj_iinc (v := (nI (t + 1))) (L' := [some (.ref (ad 80)), some (.int (nI a)), some (.int (nI b)), some (.int (nI (mg_F (drn (psum sg sz rk tm 12)) N a b))), some (.int x), some (.int (nI (t + 1))), some (.int (nI k))]) d_Mo_cut_95 rfl (bj_inc1 _) (by decide) rfl ?_
                refine bj_goto (tgt := 31) d_Mo_cut_98 (by decide) ?_
                exact ih_l1 (8 - (t + 1)) (by omega) (t + 1) x _ rfl (by omega) (cu_r ((show k = 64 by omega) ▸ hcu))
              · refine bj_iload d_Mo_cut_48 rfl ?_
                refine bj_iload d_Mo_cut_50 rfl ?_
                refine bj_iload d_Mo_cut_52 rfl ?_
                refine bj_bipush (v := (nI 8)) d_Mo_cut_54 (by decide) ?_
                refine bj_idiv (v := (nI (k / 8))) d_Mo_cut_56 (by decide) (pk_div (by omega) (by decide) (by decide)) ?_
                refine bj_ishr (v := (x >>> ((nI (k / 8)) &&& 31))) d_Mo_cut_57 rfl ?_
                refine bj_iconst (v := (nI 1)) d_Mo_cut_58 (by decide) ?_
                refine bj_iand (v := (bt_n (bt x (k / 8)))) d_Mo_cut_59 (bt_shas x (by omega)) ?_
                refine bj_iconst (v := (nI 1)) d_Mo_cut_60 (by decide) ?_
                refine bj_icmp_ne (tgt := 85) d_Mo_cut_61 (by decide) (fun h61 => ?_) (fun h61 => ?_)
                · have hz2 := cu_n hcu h45 (fun q => h61 (bt_n1.mpr q.1))
                  refine bj_iconst (v := (nI 0)) d_Mo_cut_85 (by decide) ?_
                  refine bj_ior (v := x) d_Mo_cut_86 (or_0 x) ?_
                  refine bj_istore (L' := [some (.ref (ad 80)), some (.int (nI a)), some (.int (nI b)), some (.int (nI (mg_F (drn (psum sg sz rk tm 12)) N a b))), some (.int x), some (.int (nI t)), some (.int (nI k))]) d_Mo_cut_87 (by decide) rfl ?_
                  refine bj_iinc (v := (nI (k + 1))) (L' := [some (.ref (ad 80)), some (.int (nI a)), some (.int (nI b)), some (.int (nI (mg_F (drn (psum sg sz rk tm 12)) N a b))), some (.int x), some (.int (nI t)), some (.int (nI (k + 1)))]) d_Mo_cut_89 rfl (bj_inc1 _) (by decide) rfl ?_
                  refine bj_goto (tgt := 41) d_Mo_cut_92 (by decide) ?_
                  exact ih_l2 (64 - (k + 1)) (by omega) (k + 1) _ rfl (by omega) hz2
                · refine bj_aload_n d_Mo_cut_64 rfl rfl ?_
                  refine bj_get d_Mo_cut_65 in_Mo rfl (by decide : 10 < 17) wf_Mo_28 rfl hm1.1 rfl ?_
                  refine bj_iload d_Mo_cut_68 rfl ?_
                  refine bv_iald d_Mo_cut_70 0 rfl hcn.2 (by omega) (by first | omega | exact dzb _ _) rfl ?_
                  refine bj_iload_n d_Mo_cut_71 rfl rfl ?_
                  refine bj_icmp_leN (tgt := 85) d_Mo_cut_72 (by decide) (by first | omega | exact dzb _ _) (by first | omega | exact dzb _ _) (fun h72 => ?_) (fun h72 => ?_)
                  · have hz2 := cu_n hcu h45 (fun q => by omega)
                    refine bj_iconst (v := (nI 0)) d_Mo_cut_85 (by decide) ?_
                    refine bj_ior (v := x) d_Mo_cut_86 (or_0 x) ?_
                    refine bj_istore (L' := [some (.ref (ad 80)), some (.int (nI a)), some (.int (nI b)), some (.int (nI (mg_F (drn (psum sg sz rk tm 12)) N a b))), some (.int x), some (.int (nI t)), some (.int (nI k))]) d_Mo_cut_87 (by decide) rfl ?_
                    refine bj_iinc (v := (nI (k + 1))) (L' := [some (.ref (ad 80)), some (.int (nI a)), some (.int (nI b)), some (.int (nI (mg_F (drn (psum sg sz rk tm 12)) N a b))), some (.int x), some (.int (nI t)), some (.int (nI (k + 1)))]) d_Mo_cut_89 rfl (bj_inc1 _) (by decide) rfl ?_
                    refine bj_goto (tgt := 41) d_Mo_cut_92 (by decide) ?_
                    exact ih_l2 (64 - (k + 1)) (by omega) (k + 1) _ rfl (by omega) hz2
                  · have hz2 := cu_y hcu h45 (bt_n1.mp h61) h72
                    refine bj_iconst (v := (nI 1)) d_Mo_cut_75 (by decide) ?_
                    refine bj_iload d_Mo_cut_76 rfl ?_
                    refine bj_bipush (v := (nI 8)) d_Mo_cut_78 (by decide) ?_
                    refine bj_irem (v := (nI (k % 8))) d_Mo_cut_80 (by decide) (pk_rem (by omega) (by decide) (by decide)) ?_
                    refine bj_ishl (v := ((nI 1) <<< ((nI (k % 8)) &&& 31))) d_Mo_cut_81 rfl ?_
                    refine bj_goto (tgt := 86) d_Mo_cut_82 (by decide) ?_
                    refine bj_ior (v := (x ||| ((nI 1) <<< ((nI (k % 8)) &&& 31)))) d_Mo_cut_86 rfl ?_
                    refine bj_istore (L' := [some (.ref (ad 80)), some (.int (nI a)), some (.int (nI b)), some (.int (nI (mg_F (drn (psum sg sz rk tm 12)) N a b))), some (.int (x ||| ((nI 1) <<< ((nI (k % 8)) &&& 31)))), some (.int (nI t)), some (.int (nI k))]) d_Mo_cut_87 (by decide) rfl ?_
                    refine bj_iinc (v := (nI (k + 1))) (L' := [some (.ref (ad 80)), some (.int (nI a)), some (.int (nI b)), some (.int (nI (mg_F (drn (psum sg sz rk tm 12)) N a b))), some (.int (x ||| ((nI 1) <<< ((nI (k % 8)) &&& 31)))), some (.int (nI t)), some (.int (nI (k + 1)))]) d_Mo_cut_89 rfl (bj_inc1 _) (by decide) rfl ?_
                    refine bj_goto (tgt := 41) d_Mo_cut_92 (by decide) ?_
                    exact ih_l2 (64 - (k + 1)) (by omega) (k + 1) _ rfl (by omega) hz2
          exact l2 0 x (Nat.zero_le _) hcu
    exact l1 0 _ _ (Nat.zero_le _) (cu_0 (by omega))
theorem wy_nx8 {p : Nat → Nat → Nat} {N s b : Nat} {f : Nat → Nat} (hN : N ≤ 8) (hs : 0 < s) (hb : b < N) (h : mn_ds (stp (pz N p) s) 8 b 9 f) : ∀ d i a w, a < N → f a = d → d < 8 → wy_w (wy_nx (stp (pz N p) s) 8 f) d i a w = wy_w (wy_nx (stp p s) N (fa_S N f)) d i a w := by
  intro d
  induction d with
  | zero => intros; rfl
  | succ d ih =>
    intro i a w ha hf hd
    have hab : a ≠ b := fun e => by
      subst e
      rw [mn_ds_b h (by omega)] at hf
      cases hf
    have e := fa_nx hN hs hb ha (by omega) h
    have e0 : fa_S N f a = f a := if_neg (by omega)
    have hlt : fa_S N f a < N := by
      rcases fa_ds hN hs hb h a ha with ⟨-, q5⟩ | ⟨q5, -⟩
      · rcases h a (by omega) with ⟨q6, -⟩ | ⟨-, q6, -⟩
        · omega
        · rw [nr_pz hN hs hb _ ha, q5] at q6
          cases q6
      · exact q5
    obtain ⟨-, g1, -, g3⟩ := wy_nx_ok (fa_ds hN hs hb h) (Nat.le_refl _) ha hlt hab
    obtain ⟨-, -, -, g4⟩ := wy_nx_ok h (by omega) (show a < 8 by omega) (by omega) hab
    unfold wy_w
    rw [e]
    rw [e] at g4
    exact ih _ _ _ g1 (by omega) (by omega)
set_option maxRecDepth 100000 in
set_option maxHeartbeats 4000000 in
/-- way -/
theorem t_Mo_way {N op : Nat} {cd : Int32} {se : Bool} {dw sg sz : Nat → Nat} {rk : Nat → Nat → Int32} {tm : Nat → Nat → Nat} (hA : mo_all c ad M N cd se op dw sg sz rk tm) (hiv : of_iv N op dw sg sz tm) {x1 x2 : Int32} : bj_T (bw_G l D c) Y_Mo_way 4 (0, 0, 0, 0) ad (q_mod true (Rw (prC N x1 x2) (wayA (psum sg sz rk tm 12) N x1 x2)) (mo_st c ad M N se op dw sg sz rk tm) (mo_st c ad M N se op dw sg sz rk tm)) [.ref (ad 80), .int x1, .int x2] M := by
  show bj_S _ _ _ _ _ _ 0 0 0 [some (.ref (ad 80)), some (.int x1), some (.int x2), none, none, none, none, none, none] [] M
  obtain ⟨⟨li, hm0⟩, hsc⟩ := hA
  obtain ⟨hN1, hN, hop, ⟨ps, hpm⟩, hbt, hun⟩ := id hiv
  refine bj_aload_n d_Mo_way_0 rfl rfl ?_
  refine bj_iload_n d_Mo_way_1 rfl rfl ?_
  refine bj_iload_n d_Mo_way_2 rfl rfl ?_
  refine bj_cvR sv_Mo_93 d_Mo_way_3 (t_Mo_lacks l D c ad M ⟨⟨_, hm0⟩, hsc⟩ hiv) rfl rfl (by decide) (by decide) (by decide) (Nat.le_of_ble_eq_true rfl) rfl hm0.1 rfl rfl (fun v1 N1 hq1 => ?_)
  obtain ⟨hfr1, hsc1, ⟨hz, rfl, li1, hm1⟩ | ⟨hz, rfl, ⟨li1, hm1⟩, hcn, e, he, hes, heB⟩⟩ := hq1
  · show bj_S (bw_G l D c) Y_Mo_way 4 (0, 0, 0, 0) ad (q_mod true (Rw (prC N x1 x2) (wayA (psum sg sz rk tm 12) N x1 x2)) (mo_st c ad M N se op dw sg sz rk tm) (mo_st c ad M N se op dw sg sz rk tm)) 0 0 6 [some (.ref (ad 80)), some (.int x1), some (.int x2), none, none, none, none, none, none] [.int (nI 1)] N1
    refine bj_if_eqN (tgt := 11) d_Mo_way_6 (by decide) (by decide) (fun h => absurd h (by decide)) (fun _ => ?_)
    refine bj_iconst (v := (nI 0)) d_Mo_way_9 (by decide) ?_
    exact bj_iret d_Mo_way_10 rfl rfl (Nat.le_refl _) (Nat.le_refl _) (q_modn 1 (by decide) (by decide) (Rw_n hz (by decide)) ⟨⟨⟨_, hm1⟩, hsc1⟩, hfr1⟩)
  · have h1 := prC_inv hz
    obtain ⟨a, ha, rfl⟩ := ic_t (by omega) h1.1
    obtain ⟨b, hb9, rfl⟩ := ic_t (by omega) h1.2.1
    have hab : a ≠ b := fun q => h1.2.2 (by rw [q])
    show bj_S (bw_G l D c) Y_Mo_way 4 (0, 0, 0, 0) ad (q_mod true (Rw (prC N (nI a) (nI b)) (wayA (psum sg sz rk tm 12) N (nI a) (nI b))) (mo_st c ad M N se op dw sg sz rk tm) (mo_st c ad M N se op dw sg sz rk tm)) 0 0 6 [some (.ref (ad 80)), some (.int (nI a)), some (.int (nI b)), none, none, none, none, none, none] [.int (nI 0)] N1
    refine bj_if_eqN (tgt := 11) d_Mo_way_6 (by decide) (by decide) (fun _ => ?_) (fun h => absurd h (by decide))
    refine bj_aload_n d_Mo_way_11 rfl rfl ?_
    refine bj_get d_Mo_way_12 in_Mo rfl (by decide : 11 < 17) wf_Mo_31 rfl hm1.1 rfl ?_
    refine bj_bipush (v := (nI 8)) d_Mo_way_15 (by decide) ?_
    refine bj_iload_n d_Mo_way_17 rfl rfl ?_
    refine bj_imul (v := (nI (8 * a))) d_Mo_way_18 (pk_mul _ _) ?_
    refine bj_iload_n d_Mo_way_19 rfl rfl ?_
    refine bj_iadd (v := (nI ((8 * a) + b))) d_Mo_way_20 (nI_add _ _) ?_
    refine bv_iald (v := (nI (mg_F (drn (psum sg sz rk tm 12)) N a b))) d_Mo_way_21 0 rfl he (by omega) (by first | omega | exact dzb _ _ | exact hFb | exact Nat.lt_of_le_of_lt (fb _ (by omega)) (by decide) | exact Nat.lt_of_le_of_lt (Nat.add_le_add_right (fb _ (by omega)) 1) (by decide) | exact Nat.lt_of_le_of_lt (Nat.sub_le _ _) (Nat.lt_of_le_of_lt (fb _ (by omega)) (by decide))) (by show nI _ = nI _; rw [hes a b ha hb9 hab]) ?_
    have dzb : ∀ a x, drn (pz N (psum sg sz rk tm 12)) a x < 2 ^ 31 := fun a x => Nat.lt_of_le_of_lt (dz_le hbt) (by decide)
    have hFb : (mg_F (drn (psum sg sz rk tm 12)) N a b) < 2 ^ 31 := by have := heB (8 * a + b) (by omega); rw [hes a b ha hb9 hab] at this; omega
    refine bj_istore_n (L' := [some (.ref (ad 80)), some (.int (nI a)), some (.int (nI b)), some (.int (nI (mg_F (drn (psum sg sz rk tm 12)) N a b))), none, none, none, none, none]) d_Mo_way_22 rfl (by decide) rfl ?_
    refine bj_iload_n d_Mo_way_23 rfl rfl ?_
    refine bj_if_neN (tgt := 29) d_Mo_way_24 (by decide) (by first | omega | exact dzb _ _ | exact hFb | exact Nat.lt_of_le_of_lt (fb _ (by omega)) (by decide) | exact Nat.lt_of_le_of_lt (Nat.add_le_add_right (fb _ (by omega)) 1) (by decide) | exact Nat.lt_of_le_of_lt (Nat.sub_le _ _) (Nat.lt_of_le_of_lt (fb _ (by omega)) (by decide))) (fun h24 => ?_) (fun h24 => ?_)
    · refine bj_iconst (v := (nI 0)) d_Mo_way_29 (by decide) ?_
      refine bj_istore (L' := [some (.ref (ad 80)), some (.int (nI a)), some (.int (nI b)), some (.int (nI (mg_F (drn (psum sg sz rk tm 12)) N a b))), some (.int (nI 0)), none, none, none, none]) d_Mo_way_30 (by decide) rfl ?_
      obtain ⟨pf0, di0, st0, lk0, ld0, fa0, ls0, -, -, -, -, -, gfa, -⟩ := id hsc1
      have l1 : ∀ (j : Nat), ∀ (M2 : bj_M), ∀ (g2 : Nat → Int32), (j ≤ 8) → (bv_I (c 0) M2 91 8 g2) → (∀ i, i < j → g2 i = nI (if i = b then 0 else 9)) → (∀ q, q ≠ 91 → M2 q = N1 q) → bj_S (bw_G l D c) Y_Mo_way 4 (0, 0, 0, 0) ad (q_mod true (Rw (prC N (nI a) (nI b)) (wayA (psum sg sz rk tm 12) N (nI a) (nI b))) (mo_st c ad M N se op dw sg sz rk tm) (mo_st c ad M N se op dw sg sz rk tm)) 0 0 32 [some (.ref (ad 80)), some (.int (nI a)), some (.int (nI b)), some (.int (nI (mg_F (drn (psum sg sz rk tm 12)) N a b))), some (.int (nI j)), none, none, none, none] [] M2 := by
        intro j M2 g2
        induction hd_l1 : 8 - j using Nat.strongRecOn generalizing j M2 g2 with
        | ind d_l1 ih_l1 =>
          intro hj h2 he2 ho2
          have hO2 := (ho2 80 (by decide)).trans hm1.1
          refine bj_iload d_Mo_way_32 rfl ?_
          refine bj_bipush (v := (nI 8)) d_Mo_way_34 (by decide) ?_
          refine bj_icmp_geN (tgt := 64) d_Mo_way_36 (by decide) (by first | omega | exact dzb _ _ | exact hFb | exact Nat.lt_of_le_of_lt (fb _ (by omega)) (by decide) | exact Nat.lt_of_le_of_lt (Nat.add_le_add_right (fb _ (by omega)) 1) (by decide) | exact Nat.lt_of_le_of_lt (Nat.sub_le _ _) (Nat.lt_of_le_of_lt (fb _ (by omega)) (by decide))) (by first | omega | exact dzb _ _ | exact hFb | exact Nat.lt_of_le_of_lt (fb _ (by omega)) (by decide) | exact Nat.lt_of_le_of_lt (Nat.add_le_add_right (fb _ (by omega)) 1) (by decide) | exact Nat.lt_of_le_of_lt (Nat.sub_le _ _) (Nat.lt_of_le_of_lt (fb _ (by omega)) (by decide))) (fun h36 => ?_) (fun h36 => ?_)
          · refine bj_iconst (v := (nI 0)) d_Mo_way_64 (by decide) ?_
            refine bj_istore (L' := [some (.ref (ad 80)), some (.int (nI a)), some (.int (nI b)), some (.int (nI (mg_F (drn (psum sg sz rk tm 12)) N a b))), some (.int (nI 0)), none, none, none, none]) d_Mo_way_65 (by decide) rfl ?_
            have l2 : ∀ (t : Nat), ∀ (M2 : bj_M), ∀ (f : Nat → Nat), ∀ (z5 : Option Value), ∀ (z6 : Option Value), (t ≤ 8) → (bv_I (c 0) M2 91 8 (fun i => nI (f i))) → (∀ q, q ≠ 91 → M2 q = N1 q) → (fa_ok (stp (pz N (psum sg sz rk tm 12)) (mg_F (drn (psum sg sz rk tm 12)) N a b)) b t 0 f) → bj_S (bw_G l D c) Y_Mo_way 4 (0, 0, 0, 0) ad (q_mod true (Rw (prC N (nI a) (nI b)) (wayA (psum sg sz rk tm 12) N (nI a) (nI b))) (mo_st c ad M N se op dw sg sz rk tm) (mo_st c ad M N se op dw sg sz rk tm)) 0 0 67 [some (.ref (ad 80)), some (.int (nI a)), some (.int (nI b)), some (.int (nI (mg_F (drn (psum sg sz rk tm 12)) N a b))), some (.int (nI t)), z5, z6, none, none] [] M2 := by
              intro t M2 f z5 z6
              induction hd_l2 : 8 - t using Nat.strongRecOn generalizing t M2 f z5 z6 with
              | ind d_l2 ih_l2 =>
                intro ht h2 ho2 hfa
                refine bj_iload d_Mo_way_67 rfl ?_
                refine bj_bipush (v := (nI 8)) d_Mo_way_69 (by decide) ?_
                refine bj_icmp_geN (tgt := 179) d_Mo_way_71 (by decide) (by first | omega | exact dzb _ _ | exact hFb | exact Nat.lt_of_le_of_lt (fb _ (by omega)) (by decide) | exact Nat.lt_of_le_of_lt (Nat.add_le_add_right (fb _ (by omega)) 1) (by decide) | exact Nat.lt_of_le_of_lt (Nat.sub_le _ _) (Nat.lt_of_le_of_lt (fb _ (by omega)) (by decide))) (by first | omega | exact dzb _ _ | exact hFb | exact Nat.lt_of_le_of_lt (fb _ (by omega)) (by decide) | exact Nat.lt_of_le_of_lt (Nat.add_le_add_right (fb _ (by omega)) 1) (by decide) | exact Nat.lt_of_le_of_lt (Nat.sub_le _ _) (Nat.lt_of_le_of_lt (fb _ (by omega)) (by decide))) (fun h71 => ?_) (fun h71 => ?_)
                · refine bj_iload_n d_Mo_way_179 rfl rfl ?_
                  refine bj_iconst (v := (nI 1)) d_Mo_way_180 (by decide) ?_
                  refine bj_iadd (v := (nI (a + 1))) d_Mo_way_181 (nI_add _ _) ?_
                  refine bj_istore (L' := [some (.ref (ad 80)), some (.int (nI a)), some (.int (nI b)), some (.int (nI (mg_F (drn (psum sg sz rk tm 12)) N a b))), some (.int (nI (a + 1))), z5, z6, none, none]) d_Mo_way_182 (by decide) rfl ?_
                  refine bj_iload_n d_Mo_way_184 rfl rfl ?_
                  refine bj_istore (L' := [some (.ref (ad 80)), some (.int (nI a)), some (.int (nI b)), some (.int (nI (mg_F (drn (psum sg sz rk tm 12)) N a b))), some (.int (nI (a + 1))), some (.int (nI a)), z6, none, none]) d_Mo_way_185 (by decide) rfl ?_
                  refine bj_iconst (v := (nI 1)) d_Mo_way_187 (by decide) ?_
                  refine bj_istore (L' := [some (.ref (ad 80)), some (.int (nI a)), some (.int (nI b)), some (.int (nI (mg_F (drn (psum sg sz rk tm 12)) N a b))), some (.int (nI (a + 1))), some (.int (nI a)), some (.int (nI 1)), none, none]) d_Mo_way_188 (by decide) rfl ?_
                  have hds := fa_e (by omega) ((show t = 8 by omega) ▸ hfa)
                  have hpos : 0 < (mg_F (drn (psum sg sz rk tm 12)) N a b) := by omega
                  obtain ⟨k9, hk9⟩ := mn_of_tg (b := b) (mg_F_ac (drn (psum sg sz rk tm 12)) N a b ha hb9 hpos) 0 (mn_nr_0.mpr rfl)
                  have hfa8 : f a < 8 := mn_ds_lt hds (by omega) (by rw [nr_pz hN hpos hb9 k9 ha]; exact hk9)
                  have hSa : fa_S N f a < N := mn_ds_lt (fa_ds hN hpos hb9 hds) ha hk9
                  have hO2b := (ho2 80 (by decide)).trans hm1.1
                  have hd2b := hcn.2.in (ho2 87 (by decide))
                  have fb : ∀ i, i < 8 → f i ≤ 9 := fun i hi => by rcases hfa.2.1 i hi with q | q <;> omega
                  have l4 : ∀ (at_ : Nat), ∀ (i : Nat), ∀ (w : Int32), ∀ (z7 : Option Value), ∀ (z8 : Option Value), (at_ < 8) → (f at_ < 8) → (wy_w (wy_nx (stp (pz N (psum sg sz rk tm 12)) (mg_F (drn (psum sg sz rk tm 12)) N a b)) 8 f) (f at_) i at_ w = (wy_w (wy_nx (stp (pz N (psum sg sz rk tm 12)) (mg_F (drn (psum sg sz rk tm 12)) N a b)) 8 f) (f a) 1 a (nI (a + 1)))) → bj_S (bw_G l D c) Y_Mo_way 4 (0, 0, 0, 0) ad (q_mod true (Rw (prC N (nI a) (nI b)) (wayA (psum sg sz rk tm 12) N (nI a) (nI b))) (mo_st c ad M N se op dw sg sz rk tm) (mo_st c ad M N se op dw sg sz rk tm)) 0 0 190 [some (.ref (ad 80)), some (.int (nI a)), some (.int (nI b)), some (.int (nI (mg_F (drn (psum sg sz rk tm 12)) N a b))), some (.int w), some (.int (nI at_)), some (.int (nI i)), z7, z8] [] M2 := by
                    intro at_ i w z7 z8
                    induction hd_l4 : f at_ + 1 using Nat.strongRecOn generalizing at_ i w z7 z8 with
                    | ind d_l4 ih_l4 =>
                      intro hat hf8 hw
                      refine bj_iload d_Mo_way_190 rfl ?_
                      refine bj_iload_n d_Mo_way_192 rfl rfl ?_
                      refine bj_icmp_eqN (tgt := 283) d_Mo_way_193 (by decide) (by first | omega | exact dzb _ _ | exact hFb | exact Nat.lt_of_le_of_lt (fb _ (by omega)) (by decide) | exact Nat.lt_of_le_of_lt (Nat.add_le_add_right (fb _ (by omega)) 1) (by decide) | exact Nat.lt_of_le_of_lt (Nat.sub_le _ _) (Nat.lt_of_le_of_lt (fb _ (by omega)) (by decide))) (by first | omega | exact dzb _ _ | exact hFb | exact Nat.lt_of_le_of_lt (fb _ (by omega)) (by decide) | exact Nat.lt_of_le_of_lt (Nat.add_le_add_right (fb _ (by omega)) 1) (by decide) | exact Nat.lt_of_le_of_lt (Nat.sub_le _ _) (Nat.lt_of_le_of_lt (fb _ (by omega)) (by decide))) (fun h193 => ?_) (fun h193 => ?_)
                      · have hz9 : f at_ = 0 := by rw [h193]; exact mn_ds_b hds (by omega)
                        refine bj_iload d_Mo_way_283 rfl ?_
                        exact bj_iret d_Mo_way_285 rfl rfl (Nat.le_refl _) (Nat.le_refl _) (q_mod0 (Rw_0 hz ⟨a, b, ha, hb9, rfl, rfl, Or.inr ⟨by omega, fa_S N f, fa_ds hN hpos hb9 hds, hSa, by rw [wy_w_0 hz9] at hw; rw [hw, show fa_S N f a = f a from if_neg (by omega)]; exact congrArg some (congrArg Value.int (wy_nx8 hN hpos hb9 hds (f a) 1 a _ ha rfl hfa8))⟩⟩) ⟨⟨⟨_, hm1.in (fun q _ _ => ho2 q (by omega))⟩, hsc1.f8 h2 ho2⟩, hfr1.tr (fun q hq => ho2 q (by omega))⟩)
                      · obtain ⟨hnx1, hnx2, hnx3, hnx4⟩ := wy_nx_ok hds (by omega) hat hf8 h193
                        have hw2 : wy_w (wy_nx (stp (pz N (psum sg sz rk tm 12)) (mg_F (drn (psum sg sz rk tm 12)) N a b)) 8 f) (f at_ - 1) (i + 1) ((wy_nx (stp (pz N (psum sg sz rk tm 12)) (mg_F (drn (psum sg sz rk tm 12)) N a b)) 8 f) at_) (w ||| (nI ((wy_nx (stp (pz N (psum sg sz rk tm 12)) (mg_F (drn (psum sg sz rk tm 12)) N a b)) 8 f) at_ + 1) <<< (nI (4 * i) &&& 31))) = (wy_w (wy_nx (stp (pz N (psum sg sz rk tm 12)) (mg_F (drn (psum sg sz rk tm 12)) N a b)) 8 f) (f a) 1 a (nI (a + 1))) := by rw [← hw]; exact (wy_w_s (by omega)).symm
                        refine bj_iconst (v := (-1)) d_Mo_way_196 (by decide) ?_
                        refine bj_istore (L' := [some (.ref (ad 80)), some (.int (nI a)), some (.int (nI b)), some (.int (nI (mg_F (drn (psum sg sz rk tm 12)) N a b))), some (.int w), some (.int (nI at_)), some (.int (nI i)), some (.int (-1)), z8]) d_Mo_way_197 (by decide) rfl ?_
                        refine bj_bipush (v := (nI 7)) d_Mo_way_199 (by decide) ?_
                        refine bj_istore (L' := [some (.ref (ad 80)), some (.int (nI a)), some (.int (nI b)), some (.int (nI (mg_F (drn (psum sg sz rk tm 12)) N a b))), some (.int w), some (.int (nI at_)), some (.int (nI i)), some (.int (-1)), some (.int (nI 7))]) d_Mo_way_201 (by decide) rfl ?_
                        have l5 : ∀ (c0 : Nat), ∀ (y : Int32), (c0 ≤ 8) → (dn_ok (fun y => decide (f y + 1 = f at_) && (stp (pz N (psum sg sz rk tm 12)) (mg_F (drn (psum sg sz rk tm 12)) N a b)) at_ y) c0 y) → bj_S (bw_G l D c) Y_Mo_way 4 (0, 0, 0, 0) ad (q_mod true (Rw (prC N (nI a) (nI b)) (wayA (psum sg sz rk tm 12) N (nI a) (nI b))) (mo_st c ad M N se op dw sg sz rk tm) (mo_st c ad M N se op dw sg sz rk tm)) 0 0 203 [some (.ref (ad 80)), some (.int (nI a)), some (.int (nI b)), some (.int (nI (mg_F (drn (psum sg sz rk tm 12)) N a b))), some (.int w), some (.int (nI at_)), some (.int (nI i)), some (.int y), some (.int (dc c0))] [] M2 := by
                          intro c0 y
                          induction hd_l5 : c0 + 1 using Nat.strongRecOn generalizing c0 y with
                          | ind d_l5 ih_l5 =>
                            intro hc8 hdn
                            refine bj_iload d_Mo_way_203 rfl ?_
                            refine bj_if_lt (tgt := 259) d_Mo_way_205 (by decide) (fun h205 => ?_) (fun h205 => ?_)
                            · have hc0 : c0 = 0 := by
                                rcases Nat.eq_zero_or_pos c0 with q | q
                                · exact q
                                · rw [dc_p q] at h205; exact absurd h205 (nI_pos (by omega))
                              subst hc0
                              have hy9 := dn_e hdn
                              rw [hnx1] at hy9
                              subst hy9
                              show bj_S (bw_G l D c) Y_Mo_way 4 (0, 0, 0, 0) ad (q_mod true (Rw (prC N (nI a) (nI b)) (wayA (psum sg sz rk tm 12) N (nI a) (nI b))) (mo_st c ad M N se op dw sg sz rk tm) (mo_st c ad M N se op dw sg sz rk tm)) 0 0 259 [some (.ref (ad 80)), some (.int (nI a)), some (.int (nI b)), some (.int (nI (mg_F (drn (psum sg sz rk tm 12)) N a b))), some (.int w), some (.int (nI at_)), some (.int (nI i)), some (.int (nI ((wy_nx (stp (pz N (psum sg sz rk tm 12)) (mg_F (drn (psum sg sz rk tm 12)) N a b)) 8 f) at_))), some (.int (dc 0))] [] M2
                              refine bj_iload d_Mo_way_259 rfl ?_
                              refine bj_iload d_Mo_way_261 rfl ?_
                              refine bj_iconst (v := (nI 1)) d_Mo_way_263 (by decide) ?_
                              refine bj_iadd (v := (nI (((wy_nx (stp (pz N (psum sg sz rk tm 12)) (mg_F (drn (psum sg sz rk tm 12)) N a b)) 8 f) at_) + 1))) d_Mo_way_264 (nI_add _ _) ?_
                              refine bj_iconst (v := (nI 4)) d_Mo_way_265 (by decide) ?_
                              refine bj_iload d_Mo_way_266 rfl ?_
                              refine bj_imul (v := (nI (4 * i))) d_Mo_way_268 (pk_mul _ _) ?_
                              refine bj_ishl (v := ((nI (((wy_nx (stp (pz N (psum sg sz rk tm 12)) (mg_F (drn (psum sg sz rk tm 12)) N a b)) 8 f) at_) + 1)) <<< ((nI (4 * i)) &&& 31))) d_Mo_way_269 rfl ?_
                              refine bj_ior (v := (w ||| ((nI (((wy_nx (stp (pz N (psum sg sz rk tm 12)) (mg_F (drn (psum sg sz rk tm 12)) N a b)) 8 f) at_) + 1)) <<< ((nI (4 * i)) &&& 31)))) d_Mo_way_270 rfl ?_
                              refine bj_istore (L' := [some (.ref (ad 80)), some (.int (nI a)), some (.int (nI b)), some (.int (nI (mg_F (drn (psum sg sz rk tm 12)) N a b))), some (.int (w ||| ((nI (((wy_nx (stp (pz N (psum sg sz rk tm 12)) (mg_F (drn (psum sg sz rk tm 12)) N a b)) 8 f) at_) + 1)) <<< ((nI (4 * i)) &&& 31)))), some (.int (nI at_)), some (.int (nI i)), some (.int (nI ((wy_nx (stp (pz N (psum sg sz rk tm 12)) (mg_F (drn (psum sg sz rk tm 12)) N a b)) 8 f) at_))), some (.int (dc 0))]) d_Mo_way_271 (by decide) rfl ?_
                              refine bj_iload d_Mo_way_273 rfl ?_
                              refine bj_istore (L' := [some (.ref (ad 80)), some (.int (nI a)), some (.int (nI b)), some (.int (nI (mg_F (drn (psum sg sz rk tm 12)) N a b))), some (.int (w ||| ((nI (((wy_nx (stp (pz N (psum sg sz rk tm 12)) (mg_F (drn (psum sg sz rk tm 12)) N a b)) 8 f) at_) + 1)) <<< ((nI (4 * i)) &&& 31)))), some (.int (nI ((wy_nx (stp (pz N (psum sg sz rk tm 12)) (mg_F (drn (psum sg sz rk tm 12)) N a b)) 8 f) at_))), some (.int (nI i)), some (.int (nI ((wy_nx (stp (pz N (psum sg sz rk tm 12)) (mg_F (drn (psum sg sz rk tm 12)) N a b)) 8 f) at_))), some (.int (dc 0))]) d_Mo_way_275 (by decide) rfl ?_
                              refine bj_iinc (v := (nI (i + 1))) (L' := [some (.ref (ad 80)), some (.int (nI a)), some (.int (nI b)), some (.int (nI (mg_F (drn (psum sg sz rk tm 12)) N a b))), some (.int (w ||| ((nI (((wy_nx (stp (pz N (psum sg sz rk tm 12)) (mg_F (drn (psum sg sz rk tm 12)) N a b)) 8 f) at_) + 1)) <<< ((nI (4 * i)) &&& 31)))), some (.int (nI ((wy_nx (stp (pz N (psum sg sz rk tm 12)) (mg_F (drn (psum sg sz rk tm 12)) N a b)) 8 f) at_))), some (.int (nI (i + 1))), some (.int (nI ((wy_nx (stp (pz N (psum sg sz rk tm 12)) (mg_F (drn (psum sg sz rk tm 12)) N a b)) 8 f) at_))), some (.int (dc 0))]) d_Mo_way_277 rfl (bj_inc1 _) (by decide) rfl ?_
                              refine bj_goto (tgt := 190) d_Mo_way_280 (by decide) ?_
                              exact ih_l4 (f ((wy_nx (stp (pz N (psum sg sz rk tm 12)) (mg_F (drn (psum sg sz rk tm 12)) N a b)) 8 f) at_) + 1) (by omega) ((wy_nx (stp (pz N (psum sg sz rk tm 12)) (mg_F (drn (psum sg sz rk tm 12)) N a b)) 8 f) at_) (i + 1) _ _ _ rfl (by omega) (by omega) (by rw [show f ((wy_nx (stp (pz N (psum sg sz rk tm 12)) (mg_F (drn (psum sg sz rk tm 12)) N a b)) 8 f) at_) = f at_ - 1 by omega]; exact hw2)
                            · have hc0 : 0 < c0 := Nat.pos_of_ne_zero (fun e => by rw [e, dc_0] at h205; exact absurd h205 (by decide))
                              rw [dc_p hc0]
                              refine bj_aload_n d_Mo_way_208 rfl rfl ?_
                              refine bj_get d_Mo_way_209 in_Mo rfl (by decide : 10 < 17) wf_Mo_28 rfl hO2b rfl ?_
                              refine bj_bipush (v := (nI 8)) d_Mo_way_212 (by decide) ?_
                              refine bj_iload d_Mo_way_214 rfl ?_
                              refine bj_imul (v := (nI (8 * at_))) d_Mo_way_216 (pk_mul _ _) ?_
                              refine bj_iload d_Mo_way_217 rfl ?_
                              refine bj_iadd (v := (nI ((8 * at_) + (c0 - 1)))) d_Mo_way_219 (nI_add _ _) ?_
                              refine bv_iald (v := (nI (drn (pz N (psum sg sz rk tm 12)) at_ (c0 - 1)))) d_Mo_way_220 0 rfl hd2b (by omega) (by first | omega | exact dzb _ _ | exact hFb | exact Nat.lt_of_le_of_lt (fb _ (by omega)) (by decide) | exact Nat.lt_of_le_of_lt (Nat.add_le_add_right (fb _ (by omega)) 1) (by decide) | exact Nat.lt_of_le_of_lt (Nat.sub_le _ _) (Nat.lt_of_le_of_lt (fb _ (by omega)) (by decide))) (by show nI _ = nI _; rw [show (8 * at_ + (c0 - 1)) / 8 = at_ by omega, show (8 * at_ + (c0 - 1)) % 8 = c0 - 1 by omega]) ?_
                              refine bj_iload_n d_Mo_way_221 rfl rfl ?_
                              refine bj_icmp_ltN (tgt := 249) d_Mo_way_222 (by decide) (by first | omega | exact dzb _ _ | exact hFb | exact Nat.lt_of_le_of_lt (fb _ (by omega)) (by decide) | exact Nat.lt_of_le_of_lt (Nat.add_le_add_right (fb _ (by omega)) 1) (by decide) | exact Nat.lt_of_le_of_lt (Nat.sub_le _ _) (Nat.lt_of_le_of_lt (fb _ (by omega)) (by decide))) (by first | omega | exact dzb _ _ | exact hFb | exact Nat.lt_of_le_of_lt (fb _ (by omega)) (by decide) | exact Nat.lt_of_le_of_lt (Nat.add_le_add_right (fb _ (by omega)) 1) (by decide) | exact Nat.lt_of_le_of_lt (Nat.sub_le _ _) (Nat.lt_of_le_of_lt (fb _ (by omega)) (by decide))) (fun h222 => ?_) (fun h222 => ?_)
                              · have hz2 : (fun y => decide (f y + 1 = f at_) && (stp (pz N (psum sg sz rk tm 12)) (mg_F (drn (psum sg sz rk tm 12)) N a b)) at_ y) (c0 - 1) = false := nx_n2 (w := 0) (S := fun _ => 0) h222 |> fun _ => by show (_ && _) = false; rw [show (stp (pz N (psum sg sz rk tm 12)) (mg_F (drn (psum sg sz rk tm 12)) N a b)) at_ (c0 - 1) = false from decide_eq_false (by omega)]; exact Bool.and_false _
                                refine bj_iload d_Mo_way_249 rfl ?_
                                refine bj_istore (L' := [some (.ref (ad 80)), some (.int (nI a)), some (.int (nI b)), some (.int (nI (mg_F (drn (psum sg sz rk tm 12)) N a b))), some (.int w), some (.int (nI at_)), some (.int (nI i)), some (.int y), some (.int (nI (c0 - 1)))]) d_Mo_way_251 (by decide) rfl ?_
                                refine bj_iinc (v := (dc (c0 - 1))) (L' := [some (.ref (ad 80)), some (.int (nI a)), some (.int (nI b)), some (.int (nI (mg_F (drn (psum sg sz rk tm 12)) N a b))), some (.int w), some (.int (nI at_)), some (.int (nI i)), some (.int y), some (.int (dc (c0 - 1)))]) d_Mo_way_253 rfl (dc_s hc0) (by decide) rfl ?_
                                refine bj_goto (tgt := 203) d_Mo_way_256 (by decide) ?_
                                exact ih_l5 (c0 - 1 + 1) (by omega) (c0 - 1) _ rfl (by omega) (dn_n hdn hc0 hz2)
                              · refine bj_aload_n d_Mo_way_225 rfl rfl ?_
                                refine bj_get d_Mo_way_226 in_Mo rfl (by decide : 14 < 17) wf_Mo_41 rfl hO2b rfl ?_
                                refine bj_iload d_Mo_way_229 rfl ?_
                                refine bv_iald d_Mo_way_231 0 rfl h2 (by omega) (by first | omega | exact dzb _ _ | exact hFb | exact Nat.lt_of_le_of_lt (fb _ (by omega)) (by decide) | exact Nat.lt_of_le_of_lt (Nat.add_le_add_right (fb _ (by omega)) 1) (by decide) | exact Nat.lt_of_le_of_lt (Nat.sub_le _ _) (Nat.lt_of_le_of_lt (fb _ (by omega)) (by decide))) rfl ?_
                                refine bj_aload_n d_Mo_way_232 rfl rfl ?_
                                refine bj_get d_Mo_way_233 in_Mo rfl (by decide : 14 < 17) wf_Mo_41 rfl hO2b rfl ?_
                                refine bj_iload d_Mo_way_236 rfl ?_
                                refine bv_iald d_Mo_way_238 0 rfl h2 (by omega) (by first | omega | exact dzb _ _ | exact hFb | exact Nat.lt_of_le_of_lt (fb _ (by omega)) (by decide) | exact Nat.lt_of_le_of_lt (Nat.add_le_add_right (fb _ (by omega)) 1) (by decide) | exact Nat.lt_of_le_of_lt (Nat.sub_le _ _) (Nat.lt_of_le_of_lt (fb _ (by omega)) (by decide))) rfl ?_
                                refine bj_iconst (v := (nI 1)) d_Mo_way_239 (by decide) ?_
                                refine bj_isub (v := (nI ((f (at_)) - 1))) d_Mo_way_240 (pk_sub (by omega)) ?_
                                refine bj_icmp_neN (tgt := 249) d_Mo_way_241 (by decide) (by first | omega | exact dzb _ _ | exact hFb | exact Nat.lt_of_le_of_lt (fb _ (by omega)) (by decide) | exact Nat.lt_of_le_of_lt (Nat.add_le_add_right (fb _ (by omega)) 1) (by decide) | exact Nat.lt_of_le_of_lt (Nat.sub_le _ _) (Nat.lt_of_le_of_lt (fb _ (by omega)) (by decide))) (by first | omega | exact dzb _ _ | exact hFb | exact Nat.lt_of_le_of_lt (fb _ (by omega)) (by decide) | exact Nat.lt_of_le_of_lt (Nat.add_le_add_right (fb _ (by omega)) 1) (by decide) | exact Nat.lt_of_le_of_lt (Nat.sub_le _ _) (Nat.lt_of_le_of_lt (fb _ (by omega)) (by decide))) (fun h241 => ?_) (fun h241 => ?_)
                                · have hz2 : (fun y => decide (f y + 1 = f at_) && (stp (pz N (psum sg sz rk tm 12)) (mg_F (drn (psum sg sz rk tm 12)) N a b)) at_ y) (c0 - 1) = false := by show (_ && _) = false; rw [decide_eq_false (show ¬ f (c0 - 1) + 1 = f at_ by omega)]; rfl
                                  refine bj_iload d_Mo_way_249 rfl ?_
                                  refine bj_istore (L' := [some (.ref (ad 80)), some (.int (nI a)), some (.int (nI b)), some (.int (nI (mg_F (drn (psum sg sz rk tm 12)) N a b))), some (.int w), some (.int (nI at_)), some (.int (nI i)), some (.int y), some (.int (nI (c0 - 1)))]) d_Mo_way_251 (by decide) rfl ?_
                                  refine bj_iinc (v := (dc (c0 - 1))) (L' := [some (.ref (ad 80)), some (.int (nI a)), some (.int (nI b)), some (.int (nI (mg_F (drn (psum sg sz rk tm 12)) N a b))), some (.int w), some (.int (nI at_)), some (.int (nI i)), some (.int y), some (.int (dc (c0 - 1)))]) d_Mo_way_253 rfl (dc_s hc0) (by decide) rfl ?_
                                  refine bj_goto (tgt := 203) d_Mo_way_256 (by decide) ?_
                                  exact ih_l5 (c0 - 1 + 1) (by omega) (c0 - 1) _ rfl (by omega) (dn_n hdn hc0 hz2)
                                · have hz2 : (fun y => decide (f y + 1 = f at_) && (stp (pz N (psum sg sz rk tm 12)) (mg_F (drn (psum sg sz rk tm 12)) N a b)) at_ y) (c0 - 1) = true := by show (_ && _) = true; rw [decide_eq_true (show f (c0 - 1) + 1 = f at_ by omega), show (stp (pz N (psum sg sz rk tm 12)) (mg_F (drn (psum sg sz rk tm 12)) N a b)) at_ (c0 - 1) = true from decide_eq_true h222]; rfl
                                  refine bj_iload d_Mo_way_244 rfl ?_
                                  refine bj_goto (tgt := 251) d_Mo_way_246 (by decide) ?_
                                  refine bj_istore (L' := [some (.ref (ad 80)), some (.int (nI a)), some (.int (nI b)), some (.int (nI (mg_F (drn (psum sg sz rk tm 12)) N a b))), some (.int w), some (.int (nI at_)), some (.int (nI i)), some (.int (nI (c0 - 1))), some (.int (nI (c0 - 1)))]) d_Mo_way_251 (by decide) rfl ?_
                                  refine bj_iinc (v := (dc (c0 - 1))) (L' := [some (.ref (ad 80)), some (.int (nI a)), some (.int (nI b)), some (.int (nI (mg_F (drn (psum sg sz rk tm 12)) N a b))), some (.int w), some (.int (nI at_)), some (.int (nI i)), some (.int (nI (c0 - 1))), some (.int (dc (c0 - 1)))]) d_Mo_way_253 rfl (dc_s hc0) (by decide) rfl ?_
                                  refine bj_goto (tgt := 203) d_Mo_way_256 (by decide) ?_
                                  exact ih_l5 (c0 - 1 + 1) (by omega) (c0 - 1) _ rfl (by omega) (dn_y hdn hc0 hc8 hz2)
                        exact l5 8 _ (Nat.le_refl _) (Or.inl ⟨rfl, fun j h1 h2 => by omega⟩)
                  exact l4 a 1 _ _ _ (by omega) hfa8 rfl
                · refine bj_iconst (v := (nI 0)) d_Mo_way_74 (by decide) ?_
                  refine bj_istore (L' := [some (.ref (ad 80)), some (.int (nI a)), some (.int (nI b)), some (.int (nI (mg_F (drn (psum sg sz rk tm 12)) N a b))), some (.int (nI t)), some (.int (nI 0)), z6, none, none]) d_Mo_way_75 (by decide) rfl ?_
                  have l3 : ∀ (k : Nat), ∀ (M3 : bj_M), ∀ (f : Nat → Nat), ∀ (z6 : Option Value), (k ≤ 64) → (bv_I (c 0) M3 91 8 (fun i => nI (f i))) → (∀ q, q ≠ 91 → M3 q = N1 q) → (fa_ok (stp (pz N (psum sg sz rk tm 12)) (mg_F (drn (psum sg sz rk tm 12)) N a b)) b t k f) → bj_S (bw_G l D c) Y_Mo_way 4 (0, 0, 0, 0) ad (q_mod true (Rw (prC N (nI a) (nI b)) (wayA (psum sg sz rk tm 12) N (nI a) (nI b))) (mo_st c ad M N se op dw sg sz rk tm) (mo_st c ad M N se op dw sg sz rk tm)) 0 0 77 [some (.ref (ad 80)), some (.int (nI a)), some (.int (nI b)), some (.int (nI (mg_F (drn (psum sg sz rk tm 12)) N a b))), some (.int (nI t)), some (.int (nI k)), z6, none, none] [] M3 := by
                    intro k M3 f z6
                    induction hd_l3 : 64 - k using Nat.strongRecOn generalizing k M3 f z6 with
                    | ind d_l3 ih_l3 =>
                      intro hk h3 ho3 hfa
                      have hO3 := (ho3 80 (by decide)).trans hm1.1
                      have hd3 := hcn.2.in (ho3 87 (by decide))
                      have fb : ∀ i, i < 8 → f i ≤ 9 := fun i hi => by rcases hfa.2.1 i hi with q | q <;> omega
                      refine bj_iload d_Mo_way_77 rfl ?_
                      refine bj_bipush (v := (nI 64)) d_Mo_way_79 (by decide) ?_
                      refine bj_icmp_geN (tgt := 173) d_Mo_way_81 (by decide) (by first | omega | exact dzb _ _ | exact hFb | exact Nat.lt_of_le_of_lt (fb _ (by omega)) (by decide) | exact Nat.lt_of_le_of_lt (Nat.add_le_add_right (fb _ (by omega)) 1) (by decide) | exact Nat.lt_of_le_of_lt (Nat.sub_le _ _) (Nat.lt_of_le_of_lt (fb _ (by omega)) (by decide))) (by first | omega | exact dzb _ _ | exact hFb | exact Nat.lt_of_le_of_lt (fb _ (by omega)) (by decide) | exact Nat.lt_of_le_of_lt (Nat.add_le_add_right (fb _ (by omega)) 1) (by decide) | exact Nat.lt_of_le_of_lt (Nat.sub_le _ _) (Nat.lt_of_le_of_lt (fb _ (by omega)) (by decide))) (fun h81 => ?_) (fun h81 => ?_)
                      · refine bj_iinc (v := (nI (t + 1))) (L' := [some (.ref (ad 80)), some (.int (nI a)), some (.int (nI b)), some (.int (nI (mg_F (drn (psum sg sz rk tm 12)) N a b))), some (.int (nI (t + 1))), some (.int (nI k)), z6, none, none]) d_Mo_way_173 rfl (bj_inc1 _) (by decide) rfl ?_
                        refine bj_goto (tgt := 67) d_Mo_way_176 (by decide) ?_
                        exact ih_l2 (8 - (t + 1)) (by omega) (t + 1) M3 f _ _ rfl (by omega) h3 ho3 (fa_r ((show k = 64 by omega) ▸ hfa))
                      · refine bj_aload_n d_Mo_way_84 rfl rfl ?_
                        refine bj_get d_Mo_way_85 in_Mo rfl (by decide : 10 < 17) wf_Mo_28 rfl hO3 rfl ?_
                        refine bj_iload d_Mo_way_88 rfl ?_
                        refine bv_iald d_Mo_way_90 0 rfl hd3 (by omega) (by first | omega | exact dzb _ _ | exact hFb | exact Nat.lt_of_le_of_lt (fb _ (by omega)) (by decide) | exact Nat.lt_of_le_of_lt (Nat.add_le_add_right (fb _ (by omega)) 1) (by decide) | exact Nat.lt_of_le_of_lt (Nat.sub_le _ _) (Nat.lt_of_le_of_lt (fb _ (by omega)) (by decide))) rfl ?_
                        refine bj_iload_n d_Mo_way_91 rfl rfl ?_
                        refine bj_icmp_ltN (tgt := 124) d_Mo_way_92 (by decide) (by first | omega | exact dzb _ _ | exact hFb | exact Nat.lt_of_le_of_lt (fb _ (by omega)) (by decide) | exact Nat.lt_of_le_of_lt (Nat.add_le_add_right (fb _ (by omega)) 1) (by decide) | exact Nat.lt_of_le_of_lt (Nat.sub_le _ _) (Nat.lt_of_le_of_lt (fb _ (by omega)) (by decide))) (by first | omega | exact dzb _ _ | exact hFb | exact Nat.lt_of_le_of_lt (fb _ (by omega)) (by decide) | exact Nat.lt_of_le_of_lt (Nat.add_le_add_right (fb _ (by omega)) 1) (by decide) | exact Nat.lt_of_le_of_lt (Nat.sub_le _ _) (Nat.lt_of_le_of_lt (fb _ (by omega)) (by decide))) (fun h92 => ?_) (fun h92 => ?_)
                        · have hz2 := fa_n hfa h81 (fun q => by have := of_decide_eq_true q.1; omega)
                          refine bj_iconst (v := (nI 0)) d_Mo_way_124 (by decide) ?_
                          refine bj_istore (L' := [some (.ref (ad 80)), some (.int (nI a)), some (.int (nI b)), some (.int (nI (mg_F (drn (psum sg sz rk tm 12)) N a b))), some (.int (nI t)), some (.int (nI k)), some (.int (nI 0)), none, none]) d_Mo_way_125 (by decide) rfl ?_
                          refine bj_aload_n d_Mo_way_127 rfl rfl ?_
                          refine bj_get d_Mo_way_128 in_Mo rfl (by decide : 14 < 17) wf_Mo_41 rfl hO3 rfl ?_
                          refine bj_iload d_Mo_way_131 rfl ?_
                          refine bj_bipush (v := (nI 8)) d_Mo_way_133 (by decide) ?_
                          refine bj_idiv (v := (nI (k / 8))) d_Mo_way_135 (by decide) (pk_div (by omega) (by decide) (by decide)) ?_
                          refine bj_iload d_Mo_way_136 rfl ?_
                          refine bj_if_eqN (tgt := 156) d_Mo_way_138 (by decide) (by decide) (fun _ => ?_) (fun h => absurd h (by decide))
                          refine bj_aload_n d_Mo_way_156 rfl rfl ?_
                          refine bj_get d_Mo_way_157 in_Mo rfl (by decide : 14 < 17) wf_Mo_41 rfl hO3 rfl ?_
                          refine bj_iload d_Mo_way_160 rfl ?_
                          refine bj_bipush (v := (nI 8)) d_Mo_way_162 (by decide) ?_
                          refine bj_idiv (v := (nI (k / 8))) d_Mo_way_164 (by decide) (pk_div (by omega) (by decide) (by decide)) ?_
                          refine bv_iald d_Mo_way_165 0 rfl h3 (by omega) (by first | omega | exact dzb _ _ | exact hFb | exact Nat.lt_of_le_of_lt (fb _ (by omega)) (by decide) | exact Nat.lt_of_le_of_lt (Nat.add_le_add_right (fb _ (by omega)) 1) (by decide) | exact Nat.lt_of_le_of_lt (Nat.sub_le _ _) (Nat.lt_of_le_of_lt (fb _ (by omega)) (by decide))) rfl ?_
                          refine bv_iast d_Mo_way_166 0 rfl h3 (by omega) (by first | omega | exact dzb _ _ | exact hFb | exact Nat.lt_of_le_of_lt (fb _ (by omega)) (by decide) | exact Nat.lt_of_le_of_lt (Nat.add_le_add_right (fb _ (by omega)) 1) (by decide) | exact Nat.lt_of_le_of_lt (Nat.sub_le _ _) (Nat.lt_of_le_of_lt (fb _ (by omega)) (by decide))) (fun N1 hN1 hO1 => ?_)
                          refine bj_iinc (v := (nI (k + 1))) (L' := [some (.ref (ad 80)), some (.int (nI a)), some (.int (nI b)), some (.int (nI (mg_F (drn (psum sg sz rk tm 12)) N a b))), some (.int (nI t)), some (.int (nI (k + 1))), some (.int (nI 0)), none, none]) d_Mo_way_167 rfl (bj_inc1 _) (by decide) rfl ?_
                          refine bj_goto (tgt := 77) d_Mo_way_170 (by decide) ?_
                          exact ih_l3 (64 - (k + 1)) (by omega) (k + 1) N1 f _ rfl (by omega) (bv_same hN1) (fun q hq => (hO1 q hq).trans (ho3 q hq)) hz2
                        · refine bj_aload_n d_Mo_way_95 rfl rfl ?_
                          refine bj_get d_Mo_way_96 in_Mo rfl (by decide : 14 < 17) wf_Mo_41 rfl hO3 rfl ?_
                          refine bj_iload d_Mo_way_99 rfl ?_
                          refine bj_bipush (v := (nI 8)) d_Mo_way_101 (by decide) ?_
                          refine bj_irem (v := (nI (k % 8))) d_Mo_way_103 (by decide) (pk_rem (by omega) (by decide) (by decide)) ?_
                          refine bv_iald d_Mo_way_104 0 rfl h3 (by omega) (by first | omega | exact dzb _ _ | exact hFb | exact Nat.lt_of_le_of_lt (fb _ (by omega)) (by decide) | exact Nat.lt_of_le_of_lt (Nat.add_le_add_right (fb _ (by omega)) 1) (by decide) | exact Nat.lt_of_le_of_lt (Nat.sub_le _ _) (Nat.lt_of_le_of_lt (fb _ (by omega)) (by decide))) rfl ?_
                          refine bj_iconst (v := (nI 1)) d_Mo_way_105 (by decide) ?_
                          refine bj_iadd (v := (nI ((f ((k % 8))) + 1))) d_Mo_way_106 (nI_add _ _) ?_
                          refine bj_aload_n d_Mo_way_107 rfl rfl ?_
                          refine bj_get d_Mo_way_108 in_Mo rfl (by decide : 14 < 17) wf_Mo_41 rfl hO3 rfl ?_
                          refine bj_iload d_Mo_way_111 rfl ?_
                          refine bj_bipush (v := (nI 8)) d_Mo_way_113 (by decide) ?_
                          refine bj_idiv (v := (nI (k / 8))) d_Mo_way_115 (by decide) (pk_div (by omega) (by decide) (by decide)) ?_
                          refine bv_iald d_Mo_way_116 0 rfl h3 (by omega) (by first | omega | exact dzb _ _ | exact hFb | exact Nat.lt_of_le_of_lt (fb _ (by omega)) (by decide) | exact Nat.lt_of_le_of_lt (Nat.add_le_add_right (fb _ (by omega)) 1) (by decide) | exact Nat.lt_of_le_of_lt (Nat.sub_le _ _) (Nat.lt_of_le_of_lt (fb _ (by omega)) (by decide))) rfl ?_
                          refine bj_icmp_geN (tgt := 124) d_Mo_way_117 (by decide) (by first | omega | exact dzb _ _ | exact hFb | exact Nat.lt_of_le_of_lt (fb _ (by omega)) (by decide) | exact Nat.lt_of_le_of_lt (Nat.add_le_add_right (fb _ (by omega)) 1) (by decide) | exact Nat.lt_of_le_of_lt (Nat.sub_le _ _) (Nat.lt_of_le_of_lt (fb _ (by omega)) (by decide))) (by first | omega | exact dzb _ _ | exact hFb | exact Nat.lt_of_le_of_lt (fb _ (by omega)) (by decide) | exact Nat.lt_of_le_of_lt (Nat.add_le_add_right (fb _ (by omega)) 1) (by decide) | exact Nat.lt_of_le_of_lt (Nat.sub_le _ _) (Nat.lt_of_le_of_lt (fb _ (by omega)) (by decide))) (fun h117 => ?_) (fun h117 => ?_)
                          · have hz2 := fa_n hfa h81 (fun q => by omega)
                            refine bj_iconst (v := (nI 0)) d_Mo_way_124 (by decide) ?_
                            refine bj_istore (L' := [some (.ref (ad 80)), some (.int (nI a)), some (.int (nI b)), some (.int (nI (mg_F (drn (psum sg sz rk tm 12)) N a b))), some (.int (nI t)), some (.int (nI k)), some (.int (nI 0)), none, none]) d_Mo_way_125 (by decide) rfl ?_
                            refine bj_aload_n d_Mo_way_127 rfl rfl ?_
                            refine bj_get d_Mo_way_128 in_Mo rfl (by decide : 14 < 17) wf_Mo_41 rfl hO3 rfl ?_
                            refine bj_iload d_Mo_way_131 rfl ?_
                            refine bj_bipush (v := (nI 8)) d_Mo_way_133 (by decide) ?_
                            refine bj_idiv (v := (nI (k / 8))) d_Mo_way_135 (by decide) (pk_div (by omega) (by decide) (by decide)) ?_
                            refine bj_iload d_Mo_way_136 rfl ?_
                            refine bj_if_eqN (tgt := 156) d_Mo_way_138 (by decide) (by decide) (fun _ => ?_) (fun h => absurd h (by decide))
                            refine bj_aload_n d_Mo_way_156 rfl rfl ?_
                            refine bj_get d_Mo_way_157 in_Mo rfl (by decide : 14 < 17) wf_Mo_41 rfl hO3 rfl ?_
                            refine bj_iload d_Mo_way_160 rfl ?_
                            refine bj_bipush (v := (nI 8)) d_Mo_way_162 (by decide) ?_
                            refine bj_idiv (v := (nI (k / 8))) d_Mo_way_164 (by decide) (pk_div (by omega) (by decide) (by decide)) ?_
                            refine bv_iald d_Mo_way_165 0 rfl h3 (by omega) (by first | omega | exact dzb _ _ | exact hFb | exact Nat.lt_of_le_of_lt (fb _ (by omega)) (by decide) | exact Nat.lt_of_le_of_lt (Nat.add_le_add_right (fb _ (by omega)) 1) (by decide) | exact Nat.lt_of_le_of_lt (Nat.sub_le _ _) (Nat.lt_of_le_of_lt (fb _ (by omega)) (by decide))) rfl ?_
                            refine bv_iast d_Mo_way_166 0 rfl h3 (by omega) (by first | omega | exact dzb _ _ | exact hFb | exact Nat.lt_of_le_of_lt (fb _ (by omega)) (by decide) | exact Nat.lt_of_le_of_lt (Nat.add_le_add_right (fb _ (by omega)) 1) (by decide) | exact Nat.lt_of_le_of_lt (Nat.sub_le _ _) (Nat.lt_of_le_of_lt (fb _ (by omega)) (by decide))) (fun N1 hN1 hO1 => ?_)
                            refine bj_iinc (v := (nI (k + 1))) (L' := [some (.ref (ad 80)), some (.int (nI a)), some (.int (nI b)), some (.int (nI (mg_F (drn (psum sg sz rk tm 12)) N a b))), some (.int (nI t)), some (.int (nI (k + 1))), some (.int (nI 0)), none, none]) d_Mo_way_167 rfl (bj_inc1 _) (by decide) rfl ?_
                            refine bj_goto (tgt := 77) d_Mo_way_170 (by decide) ?_
                            exact ih_l3 (64 - (k + 1)) (by omega) (k + 1) N1 f _ rfl (by omega) (bv_same hN1) (fun q hq => (hO1 q hq).trans (ho3 q hq)) hz2
                          · have hz2 := fa_y hfa h81 (decide_eq_true h92) h117
                            refine bj_iconst (v := (nI 1)) d_Mo_way_120 (by decide) ?_
                            refine bj_goto (tgt := 125) d_Mo_way_121 (by decide) ?_
                            refine bj_istore (L' := [some (.ref (ad 80)), some (.int (nI a)), some (.int (nI b)), some (.int (nI (mg_F (drn (psum sg sz rk tm 12)) N a b))), some (.int (nI t)), some (.int (nI k)), some (.int (nI 1)), none, none]) d_Mo_way_125 (by decide) rfl ?_
                            refine bj_aload_n d_Mo_way_127 rfl rfl ?_
                            refine bj_get d_Mo_way_128 in_Mo rfl (by decide : 14 < 17) wf_Mo_41 rfl hO3 rfl ?_
                            refine bj_iload d_Mo_way_131 rfl ?_
                            refine bj_bipush (v := (nI 8)) d_Mo_way_133 (by decide) ?_
                            refine bj_idiv (v := (nI (k / 8))) d_Mo_way_135 (by decide) (pk_div (by omega) (by decide) (by decide)) ?_
                            refine bj_iload d_Mo_way_136 rfl ?_
                            refine bj_if_eqN (tgt := 156) d_Mo_way_138 (by decide) (by decide) (fun h => absurd h (by decide)) (fun _ => ?_)
                            refine bj_aload_n d_Mo_way_141 rfl rfl ?_
                            refine bj_get d_Mo_way_142 in_Mo rfl (by decide : 14 < 17) wf_Mo_41 rfl hO3 rfl ?_
                            refine bj_iload d_Mo_way_145 rfl ?_
                            refine bj_bipush (v := (nI 8)) d_Mo_way_147 (by decide) ?_
                            refine bj_irem (v := (nI (k % 8))) d_Mo_way_149 (by decide) (pk_rem (by omega) (by decide) (by decide)) ?_
                            refine bv_iald d_Mo_way_150 0 rfl h3 (by omega) (by first | omega | exact dzb _ _ | exact hFb | exact Nat.lt_of_le_of_lt (fb _ (by omega)) (by decide) | exact Nat.lt_of_le_of_lt (Nat.add_le_add_right (fb _ (by omega)) 1) (by decide) | exact Nat.lt_of_le_of_lt (Nat.sub_le _ _) (Nat.lt_of_le_of_lt (fb _ (by omega)) (by decide))) rfl ?_
                            refine bj_iconst (v := (nI 1)) d_Mo_way_151 (by decide) ?_
                            refine bj_iadd (v := (nI ((f ((k % 8))) + 1))) d_Mo_way_152 (nI_add _ _) ?_
                            refine bj_goto (tgt := 166) d_Mo_way_153 (by decide) ?_
                            refine bv_iast d_Mo_way_166 0 rfl h3 (by omega) (by first | omega | exact dzb _ _ | exact hFb | exact Nat.lt_of_le_of_lt (fb _ (by omega)) (by decide) | exact Nat.lt_of_le_of_lt (Nat.add_le_add_right (fb _ (by omega)) 1) (by decide) | exact Nat.lt_of_le_of_lt (Nat.sub_le _ _) (Nat.lt_of_le_of_lt (fb _ (by omega)) (by decide))) (fun N1 hN1 hO1 => ?_)
                            refine bj_iinc (v := (nI (k + 1))) (L' := [some (.ref (ad 80)), some (.int (nI a)), some (.int (nI b)), some (.int (nI (mg_F (drn (psum sg sz rk tm 12)) N a b))), some (.int (nI t)), some (.int (nI (k + 1))), some (.int (nI 1)), none, none]) d_Mo_way_167 rfl (bj_inc1 _) (by decide) rfl ?_
                            refine bj_goto (tgt := 77) d_Mo_way_170 (by decide) ?_
                            exact ih_l3 (64 - (k + 1)) (by omega) (k + 1) N1 (va_up f (k / 8) (f (k % 8) + 1)) _ rfl (by omega) (bv_I.upn hN1) (fun q hq => (hO1 q hq).trans (ho3 q hq)) hz2
                  exact l3 0 M2 f _ (Nat.zero_le _) h2 ho2 hfa
            exact l2 0 M2 (fun j => if j = b then 0 else 9) _ _ (Nat.zero_le _) (h2.to (fun j hj => he2 j (by omega))) ho2 (fa_0 (if_pos rfl) (fun j _ e => if_neg e))
          · refine bj_aload_n d_Mo_way_39 rfl rfl ?_
            refine bj_get d_Mo_way_40 in_Mo rfl (by decide : 14 < 17) wf_Mo_41 rfl hO2 rfl ?_
            refine bj_iload d_Mo_way_43 rfl ?_
            refine bj_iload d_Mo_way_45 rfl ?_
            refine bj_iload_n d_Mo_way_47 rfl rfl ?_
            refine bj_icmp_neN (tgt := 55) d_Mo_way_48 (by decide) (by first | omega | exact dzb _ _ | exact hFb | exact Nat.lt_of_le_of_lt (fb _ (by omega)) (by decide) | exact Nat.lt_of_le_of_lt (Nat.add_le_add_right (fb _ (by omega)) 1) (by decide) | exact Nat.lt_of_le_of_lt (Nat.sub_le _ _) (Nat.lt_of_le_of_lt (fb _ (by omega)) (by decide))) (by first | omega | exact dzb _ _ | exact hFb | exact Nat.lt_of_le_of_lt (fb _ (by omega)) (by decide) | exact Nat.lt_of_le_of_lt (Nat.add_le_add_right (fb _ (by omega)) 1) (by decide) | exact Nat.lt_of_le_of_lt (Nat.sub_le _ _) (Nat.lt_of_le_of_lt (fb _ (by omega)) (by decide))) (fun h48 => ?_) (fun h48 => ?_)
            · refine bj_bipush (v := (nI 9)) d_Mo_way_55 (by decide) ?_
              refine bv_iast d_Mo_way_57 0 rfl h2 (by omega) (by first | omega | exact dzb _ _ | exact hFb | exact Nat.lt_of_le_of_lt (fb _ (by omega)) (by decide) | exact Nat.lt_of_le_of_lt (Nat.add_le_add_right (fb _ (by omega)) 1) (by decide) | exact Nat.lt_of_le_of_lt (Nat.sub_le _ _) (Nat.lt_of_le_of_lt (fb _ (by omega)) (by decide))) (fun N1 hN1 hO1 => ?_)
              refine bj_iinc (v := (nI (j + 1))) (L' := [some (.ref (ad 80)), some (.int (nI a)), some (.int (nI b)), some (.int (nI (mg_F (drn (psum sg sz rk tm 12)) N a b))), some (.int (nI (j + 1))), none, none, none, none]) d_Mo_way_58 rfl (bj_inc1 _) (by decide) rfl ?_
              refine bj_goto (tgt := 32) d_Mo_way_61 (by decide) ?_
              exact ih_l1 (8 - (j + 1)) (by omega) (j + 1) N1 _ rfl (by omega) hN1 (fun i hi => by
                by_cases e : i = j
                · subst e; rw [va_up_self]; first | rw [if_pos h48] | rw [if_neg h48]
                · rw [va_up_ne _ _ e]; exact he2 i (by omega)) (fun q hq => (hO1 q hq).trans (ho2 q hq))
            · refine bj_iconst (v := (nI 0)) d_Mo_way_51 (by decide) ?_
              refine bj_goto (tgt := 57) d_Mo_way_52 (by decide) ?_
              refine bv_iast d_Mo_way_57 0 rfl h2 (by omega) (by first | omega | exact dzb _ _ | exact hFb | exact Nat.lt_of_le_of_lt (fb _ (by omega)) (by decide) | exact Nat.lt_of_le_of_lt (Nat.add_le_add_right (fb _ (by omega)) 1) (by decide) | exact Nat.lt_of_le_of_lt (Nat.sub_le _ _) (Nat.lt_of_le_of_lt (fb _ (by omega)) (by decide))) (fun N1 hN1 hO1 => ?_)
              refine bj_iinc (v := (nI (j + 1))) (L' := [some (.ref (ad 80)), some (.int (nI a)), some (.int (nI b)), some (.int (nI (mg_F (drn (psum sg sz rk tm 12)) N a b))), some (.int (nI (j + 1))), none, none, none, none]) d_Mo_way_58 rfl (bj_inc1 _) (by decide) rfl ?_
              refine bj_goto (tgt := 32) d_Mo_way_61 (by decide) ?_
              exact ih_l1 (8 - (j + 1)) (by omega) (j + 1) N1 _ rfl (by omega) hN1 (fun i hi => by
                by_cases e : i = j
                · subst e; rw [va_up_self]; first | rw [if_pos h48] | rw [if_neg h48]
                · rw [va_up_ne _ _ e]; exact he2 i (by omega)) (fun q hq => (hO1 q hq).trans (ho2 q hq))
      exact l1 0 N1 _ (Nat.zero_le _) gfa (fun i hi => absurd hi (Nat.not_lt_zero _)) (fun _ _ => rfl)
    · refine bj_iconst (v := (nI 0)) d_Mo_way_27 (by decide) ?_
      exact bj_iret d_Mo_way_28 rfl rfl (Nat.le_refl _) (Nat.le_refl _) (q_mod0 (Rw_0 hz ⟨a, b, ha, hb9, rfl, rfl, Or.inl ⟨h24, rfl⟩⟩) ⟨⟨⟨_, hm1⟩, hsc1⟩, hfr1⟩)
end M4
