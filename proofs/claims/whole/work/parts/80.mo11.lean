/-! the reference: tell, winner, order, top, locked, without (walks by gen/m_mo11.py) -/
section MB

def twR (w : Nat) (p : Nat → Nat → Nat) (N : Nat) (dw : Nat → Nat) (what x : Int32) : Nat → Option Value → Prop := fun k v => (what = 0 → Rf w (ft (mem_q (winb p N) x) 8) k v) ∧ (what = nI 1 → ordR w p N dw x k v) ∧ (what = nI 2 → topR w (fun a b => nI (p a b)) N x k v)
def q_tell (c : Nat → ClassId) (ad : Nat → Nat) (M : bj_M) (N : Nat) (se : Bool) (op : Nat) (dw sg sz : Nat → Nat) (rk : Nat → Nat → Int32) (tm : Nat → Nat → Nat) (R : Nat → Option Value → Prop) : bj_R → bj_M → Prop := bj_ret (fun r M' => ∃ z k, r = some (.int z) ∧ R k (if k = 0 then r else none) ∧ mo_st c ad M N se op dw sg sz rk tm k M' ∧ k < 4)
theorem mn_cnt_at {W : Nat → Bool} {j : Nat} : ∀ N, j < mn_cnt W N → ∃ d, d < N ∧ W d = true ∧ mn_cnt W d = j
  | 0, h => absurd h (Nat.not_lt_zero _)
  | N + 1, h => by
    rcases Nat.lt_or_ge j (mn_cnt W N) with q | q
    · obtain ⟨d, h1, h2⟩ := mn_cnt_at N q
      exact ⟨d, by omega, h2⟩
    · by_cases e : W N = true
      · have := mn_cnt_t e
        exact ⟨N, by omega, e, by omega⟩
      · have := mn_cnt_f (q := W) (n := N) (by simpa using e)
        omega
theorem mn_cnt_mo {W : Nat → Bool} {a : Nat} : ∀ b, a ≤ b → mn_cnt W a ≤ mn_cnt W b
  | 0, h => by rw [show a = 0 by omega]; exact Nat.le_refl _
  | b + 1, h => by
    by_cases e : a = b + 1
    · rw [e]; exact Nat.le_refl _
    · exact Nat.le_trans (mn_cnt_mo b (by omega)) (Nat.le_add_right _ _)
theorem bm_cnt {W : Nat → Bool} {N d : Nat} (hN : N ≤ 8) (hd : d ≤ N) : mn_cnt (fun j => bt (bm W N) j) d = mn_cnt W d := mn_cnt_to d (fun i hi => by rw [bm_bt W (by omega) N (by omega), decide_eq_true (by omega), Bool.true_and])
/-- the j-th of a list is the j-th of the set -/
theorem wl_get {c : Nat → ClassId} {W : Nat → Bool} {N j : Nat} {ls : Nat → Int32} (hN : N ≤ 8) (hls : ∀ d, d < N → W d = true → ls (mn_cnt W d) = nI d) (hj : j < mn_cnt W N) (w : Nat) : Rf w (ft (mem_q (bm W N) (nI j)) 8) 0 (some (.int (ls j))) := by
  have hc := mn_cnt_le W N
  obtain ⟨d, h1, h2, h3⟩ := mn_cnt_at N hj
  have hf : ft (mem_q (bm W N) (nI j)) 8 = some d := ft_eq.mpr ⟨by omega, by
    unfold mem_q
    rw [bm_bt W (by omega) N (by omega), decide_eq_true h1, h2, bm_cnt hN (by omega), h3, decide_eq_true rfl]
    rfl, fun i hi => by
    unfold mem_q
    rw [bm_cnt hN (by omega)]
    cases e : bt (bm W N) i with
    | false => rfl
    | true =>
      rw [bm_bt W (by omega) N (by omega), decide_eq_true (show i < N by omega), Bool.true_and] at e
      have h5 := mn_cnt_t e
      have h6 := mn_cnt_mo (W := W) (a := i + 1) d (by omega)
      rw [decide_eq_false (fun q => by
        have := (nI_eq (a := mn_cnt W i) (b := j) (by omega) (by omega)).mp q
        omega)]
      rfl⟩
  rw [hf, ← h3, hls d h1 h2]
  exact ⟨rfl, rfl⟩
theorem wl_no {W : Nat → Bool} {N : Nat} {x : Int32} (hN : N ≤ 8) (h : ic (mn_cnt W N) x = false) (w : Nat) : Rf w (ft (mem_q (bm W N) x) 8) w none := by
  have hc := mn_cnt_le W N
  have hf : ft (mem_q (bm W N) x) 8 = none := ft_none.mpr (fun i hi => by
    unfold mem_q
    cases e : bt (bm W N) i with
    | false => rfl
    | true =>
      rw [bm_bt W (by omega) N (by omega), Bool.and_eq_true] at e
      have h1 := of_decide_eq_true e.1
      rw [bm_cnt hN (by omega), Bool.true_and]
      refine decide_eq_false (fun q => ?_)
      have h5 := mn_cnt_t e.2
      have h6 := mn_cnt_mo (W := W) (a := i + 1) N (by omega)
      rw [← q, ic_n (by omega) (by omega)] at h
      cases h)
  rw [hf]
  exact ⟨rfl, rfl⟩
theorem ic_f1 {n : Nat} {x : Int32} (h : x < 0) : ic n x = false := decide_eq_false (fun q => q.1 h)
theorem ic_f2 {n : Nat} {x : Int32} (h : ¬ x < nI n) : ic n x = false := decide_eq_false (fun q => q.2 (Int32.not_lt.mp h))
theorem ic_t2 {n : Nat} {x : Int32} (h1 : ¬ x < 0) (h : x < nI n) : ic n x = true := decide_eq_true ⟨h1, Int32.not_le.mpr h⟩
theorem w01 : ¬ (0 : Int32) = nI 1 := by decide
theorem w02 : ¬ (0 : Int32) = nI 2 := by decide
theorem w12 : ¬ nI 1 = nI 2 := by decide
theorem b_12 {a : Nat} (ha : a < 12) : ∀ b, b < 12 → (nI b = nI a ↔ b = a) := fun b hb => nI_eq (by omega) (by omega)
variable (l : Launch) (D : va_G) (c : Nat → ClassId) (ad : Nat → Nat) (M : bj_M)
set_option maxRecDepth 100000 in
set_option maxHeartbeats 4000000 in
/-- tell -/
theorem t_Mo_tell {N op : Nat} {cd : Int32} {se : Bool} {dw sg sz : Nat → Nat} {rk : Nat → Nat → Int32} {tm : Nat → Nat → Nat} (hA : mo_all c ad M N cd se op dw sg sz rk tm) (hiv : of_iv N op dw sg sz tm) {x1 x2 x3 : Int32} {but w : Nat} (hx : ∀ b, b < 12 → (nI b = x2 ↔ b = but)) (hwh : x1 = 0 ∨ x1 = nI 1 ∨ x1 = nI 2) (hw1 : 1 ≤ w) (hw2 : w < 4) : bj_T (bw_G l D c) Y_Mo_tell 4 (0, 0, 0, 0) ad (q_tell c ad M N se op dw sg sz rk tm (twR w (psum sg sz rk tm but) N dw x1 x3)) [.ref (ad 80), .int x1, .int x2, .int x3, .int (nI w)] M := by
  show bj_S _ _ _ _ _ _ 0 0 0 [some (.ref (ad 80)), some (.int x1), some (.int x2), some (.int x3), some (.int (nI w))] [] M
  obtain ⟨⟨li, hm0⟩, hsc⟩ := hA
  obtain ⟨hN1, hN, hop, ⟨ps, hpm⟩, hbt, hun⟩ := id hiv
  obtain ⟨pf, di, st0, lk0, ld0, fa0, ls0, g1, g2, g3, g4, g5, g6, g7⟩ := id hsc
  have hz72 : ∀ a b, drn (pz N (psum sg sz rk tm but)) a b ≤ 720000 := fun a b => dz_le hbt
  have hp31 : ∀ a b, a < N → b < N → (psum sg sz rk tm but) a b < 2 ^ 31 := fun a b _ _ => Nat.lt_of_le_of_lt (psum_le (fun j hj => (hbt j hj).2)) (by decide)
  have hpz31 : ∀ a b, pz N (psum sg sz rk tm but) a b < 2 ^ 31 := fun a b => by have := psum_le (sg := sg) (sz := sz) (rk := rk) (tm := tm) (but := but) (a := a) (b := b) (fun j hj => (hbt j hj).2); unfold pz; split <;> omega
  refine bj_aload_n d_Mo_tell_0 rfl rfl ?_
  refine bj_iload_n d_Mo_tell_1 rfl rfl ?_
  refine bj_cvR sv_Mo_86 d_Mo_tell_2 (t_Mo_count l D c ad M hm0 hN hx hiv g1 g2) rfl rfl (by decide) (by decide) (by decide) (Nat.le_of_ble_eq_true rfl) rfl hm0.1 rfl rfl (fun v1 N1 hq1 => ?_)
  obtain ⟨rfl, hcn, hE⟩ := hq1
  show bj_S (bw_G l D c) Y_Mo_tell 4 (0, 0, 0, 0) ad (q_tell c ad M N se op dw sg sz rk tm (twR w (psum sg sz rk tm but) N dw x1 x3)) 0 0 5 [some (.ref (ad 80)), some (.int x1), some (.int x2), some (.int x3), some (.int (nI w))] [] N1
  have hm1 := hm0.in (M' := N1) (fun q q1 q2 => hE q (by omega) (by omega))
  have hsc1 := hsc.cn hcn hE
  refine bj_iload_n d_Mo_tell_5 rfl rfl ?_
  refine bj_if_ne (tgt := 16) d_Mo_tell_6 (by decide) (fun h6 => ?_) (fun h6 => ?_)
  · refine bj_iload_n d_Mo_tell_16 rfl rfl ?_
    refine bj_iconst (v := (nI 1)) d_Mo_tell_17 (by decide) ?_
    refine bj_icmp_ne (tgt := 28) d_Mo_tell_18 (by decide) (fun h18 => ?_) (fun h18 => ?_)
    · refine bj_aload_n d_Mo_tell_28 rfl rfl ?_
      refine bj_cvR sv_Mo_122 d_Mo_tell_29 (t_Mo_topAll l D c ad N1 hm1 hN hN1 hcn hp31 (fun a b => Nat.lt_of_le_of_lt (hz72 a b) (by decide)) hsc1) rfl rfl (by decide) (by decide) (by decide) (Nat.le_of_ble_eq_true rfl) rfl hm1.1 rfl rfl (fun v2 N2 hq2 => ?_)
      obtain ⟨rfl, hfr2, hsc2, n, hn8, hm2, c0, hc0, hmin, hnW, ls, hls, hw9⟩ := hq2
      show bj_S (bw_G l D c) Y_Mo_tell 4 (0, 0, 0, 0) ad (q_tell c ad M N se op dw sg sz rk tm (twR w (psum sg sz rk tm but) N dw x1 x3)) 0 0 32 [some (.ref (ad 80)), some (.int x1), some (.int x2), some (.int x3), some (.int (nI w))] [] N2
      refine bj_aload_n d_Mo_tell_32 rfl rfl ?_
      refine bj_iload_n d_Mo_tell_33 rfl rfl ?_
      refine bj_if_lt (tgt := 45) d_Mo_tell_34 (by decide) (fun h34 => ?_) (fun h34 => ?_)
      · refine bj_iload d_Mo_tell_45 rfl ?_
        refine bj_goto (tgt := 51) d_Mo_tell_47 (by decide) ?_
        refine bj_put d_Mo_tell_51 in_Mo ok_Mo nm_Mo rfl (by decide : 1 < 17) wf_Mo_51 rfl rfl rfl rfl rfl (Nat.le_of_ble_eq_true rfl) hm2.1 ?_
        have hm3 := hm2.hd (cd' := (nI w)) (se' := se) (op' := op) (li' := (nI n))
        have hx3 : mo_fx N2 (va_up N2 80 (some (.inr (5, mo_F ad N (nI w) se op (nI n))))) := mo_fx.rf.at (j := 80) (by omega) (fun q hq => va_up_ne _ _ hq)
        have hw3 : ∀ q, q ≠ 80 → (va_up N2 80 (some (.inr (5, mo_F ad N (nI w) se op (nI n))))) q = N2 q := fun q hq => va_up_ne _ _ hq
        show bj_S _ _ _ _ _ _ 0 0 _ _ [] (va_up N2 80 (some (.inr (5, mo_F ad N (nI w) se op (nI n)))))
        generalize va_up N2 80 (some (.inr (5, mo_F ad N (nI w) se op (nI n)))) = P3 at hm3 hx3 hw3 ⊢
        refine bj_aload_n d_Mo_tell_54 rfl rfl ?_
        refine bj_get d_Mo_tell_55 in_Mo rfl (by decide : 1 < 17) wf_Mo_51 rfl hm3.1 rfl ?_
        refine bj_if_leN (tgt := 65) d_Mo_tell_58 (by decide) (by omega) (fun h => absurd h (by omega)) (fun _ => ?_)
        refine bj_iconst (v := (nI 0)) d_Mo_tell_61 (by decide) ?_
        refine bj_goto (tgt := 71) d_Mo_tell_62 (by decide) ?_
        exact bj_iret d_Mo_tell_71 rfl rfl (Nat.le_refl _) (Nat.le_refl _) ⟨_, w, rfl, by rw [if_neg (by omega)]; exact ⟨fun q => absurd q h6, fun q => absurd q h18, fun _ => ⟨c0, hc0, hmin, wl_no hN (hnW ▸ (show ic n x3 = false from (by first | exact ic_f1 h34 | exact ic_f2 h42))) w⟩⟩, ⟨⟨⟨_, hm3⟩, hsc2.fx hx3⟩, (show mo_fr M N1 from fun q hq => hE q (by omega) (by omega)).tr (hfr2.tr hx3.fr)⟩, hw2⟩
      · refine bj_iload_n d_Mo_tell_37 rfl rfl ?_
        refine bj_aload_n d_Mo_tell_38 rfl rfl ?_
        refine bj_get d_Mo_tell_39 in_Mo rfl (by decide : 15 < 17) wf_Mo_101 rfl hm2.1 rfl ?_
        refine bj_icmp_lt (tgt := 50) d_Mo_tell_42 (by decide) (fun h42 => ?_) (fun h42 => ?_)
        · refine bj_iconst (v := (nI 0)) d_Mo_tell_50 (by decide) ?_
          refine bj_put d_Mo_tell_51 in_Mo ok_Mo nm_Mo rfl (by decide : 1 < 17) wf_Mo_51 rfl rfl rfl rfl rfl (Nat.le_of_ble_eq_true rfl) hm2.1 ?_
          have hm3 := hm2.hd (cd' := (nI 0)) (se' := se) (op' := op) (li' := (nI n))
          have hx3 : mo_fx N2 (va_up N2 80 (some (.inr (5, mo_F ad N (nI 0) se op (nI n))))) := mo_fx.rf.at (j := 80) (by omega) (fun q hq => va_up_ne _ _ hq)
          have hw3 : ∀ q, q ≠ 80 → (va_up N2 80 (some (.inr (5, mo_F ad N (nI 0) se op (nI n))))) q = N2 q := fun q hq => va_up_ne _ _ hq
          show bj_S _ _ _ _ _ _ 0 0 _ _ [] (va_up N2 80 (some (.inr (5, mo_F ad N (nI 0) se op (nI n)))))
          generalize va_up N2 80 (some (.inr (5, mo_F ad N (nI 0) se op (nI n)))) = P3 at hm3 hx3 hw3 ⊢
          refine bj_aload_n d_Mo_tell_54 rfl rfl ?_
          refine bj_get d_Mo_tell_55 in_Mo rfl (by decide : 1 < 17) wf_Mo_51 rfl hm3.1 rfl ?_
          refine bj_if_leN (tgt := 65) d_Mo_tell_58 (by decide) (by decide) (fun _ => ?_) (fun h => absurd h (by decide))
          have hic := ic_t2 h34 h42
          obtain ⟨j, hj, rfl⟩ := ic_t (by omega) hic
          refine bj_aload_n d_Mo_tell_65 rfl rfl ?_
          refine bj_get d_Mo_tell_66 in_Mo rfl (by decide : 16 < 17) wf_Mo_44 rfl hm3.1 rfl ?_
          refine bj_iload_n d_Mo_tell_69 rfl rfl ?_
          refine bv_iald d_Mo_tell_70 0 rfl (hls.in (hw3 92 (by decide))) (by omega) (by omega) rfl ?_
          exact bj_iret d_Mo_tell_71 rfl rfl (Nat.le_refl _) (Nat.le_refl _) ⟨_, 0, rfl, ⟨fun q => absurd q h6, fun q => absurd q h18, fun _ => ⟨c0, hc0, hmin, wl_get (c := c) hN hw9 (hnW ▸ hj) w⟩⟩, ⟨⟨⟨_, hm3⟩, hsc2.fx hx3⟩, (show mo_fr M N1 from fun q hq => hE q (by omega) (by omega)).tr (hfr2.tr hx3.fr)⟩, by decide⟩
        · refine bj_iload d_Mo_tell_45 rfl ?_
          refine bj_goto (tgt := 51) d_Mo_tell_47 (by decide) ?_
          refine bj_put d_Mo_tell_51 in_Mo ok_Mo nm_Mo rfl (by decide : 1 < 17) wf_Mo_51 rfl rfl rfl rfl rfl (Nat.le_of_ble_eq_true rfl) hm2.1 ?_
          have hm3 := hm2.hd (cd' := (nI w)) (se' := se) (op' := op) (li' := (nI n))
          have hx3 : mo_fx N2 (va_up N2 80 (some (.inr (5, mo_F ad N (nI w) se op (nI n))))) := mo_fx.rf.at (j := 80) (by omega) (fun q hq => va_up_ne _ _ hq)
          have hw3 : ∀ q, q ≠ 80 → (va_up N2 80 (some (.inr (5, mo_F ad N (nI w) se op (nI n))))) q = N2 q := fun q hq => va_up_ne _ _ hq
          show bj_S _ _ _ _ _ _ 0 0 _ _ [] (va_up N2 80 (some (.inr (5, mo_F ad N (nI w) se op (nI n)))))
          generalize va_up N2 80 (some (.inr (5, mo_F ad N (nI w) se op (nI n)))) = P3 at hm3 hx3 hw3 ⊢
          refine bj_aload_n d_Mo_tell_54 rfl rfl ?_
          refine bj_get d_Mo_tell_55 in_Mo rfl (by decide : 1 < 17) wf_Mo_51 rfl hm3.1 rfl ?_
          refine bj_if_leN (tgt := 65) d_Mo_tell_58 (by decide) (by omega) (fun h => absurd h (by omega)) (fun _ => ?_)
          refine bj_iconst (v := (nI 0)) d_Mo_tell_61 (by decide) ?_
          refine bj_goto (tgt := 71) d_Mo_tell_62 (by decide) ?_
          exact bj_iret d_Mo_tell_71 rfl rfl (Nat.le_refl _) (Nat.le_refl _) ⟨_, w, rfl, by rw [if_neg (by omega)]; exact ⟨fun q => absurd q h6, fun q => absurd q h18, fun _ => ⟨c0, hc0, hmin, wl_no hN (hnW ▸ (show ic n x3 = false from (by first | exact ic_f1 h34 | exact ic_f2 h42))) w⟩⟩, ⟨⟨⟨_, hm3⟩, hsc2.fx hx3⟩, (show mo_fr M N1 from fun q hq => hE q (by omega) (by omega)).tr (hfr2.tr hx3.fr)⟩, hw2⟩
    · refine bj_aload_n d_Mo_tell_21 rfl rfl ?_
      refine bj_cvR sv_Mo_119 d_Mo_tell_22 (t_Mo_orderAll l D c ad N1 hm1 hN hcn hpz31 hpm hsc1) rfl rfl (by decide) (by decide) (by decide) (Nat.le_of_ble_eq_true rfl) rfl hm1.1 rfl rfl (fun v2 N2 hq2 => ?_)
      obtain ⟨rfl, hfr2, hsc2, n, hn8, hm2, hnN, lk, hor, ls, hls, hl9⟩ := hq2
      show bj_S (bw_G l D c) Y_Mo_tell 4 (0, 0, 0, 0) ad (q_tell c ad M N se op dw sg sz rk tm (twR w (psum sg sz rk tm but) N dw x1 x3)) 0 0 25 [some (.ref (ad 80)), some (.int x1), some (.int x2), some (.int x3), some (.int (nI w))] [] N2
      refine bj_goto (tgt := 32) d_Mo_tell_25 (by decide) ?_
      refine bj_aload_n d_Mo_tell_32 rfl rfl ?_
      refine bj_iload_n d_Mo_tell_33 rfl rfl ?_
      refine bj_if_lt (tgt := 45) d_Mo_tell_34 (by decide) (fun h34 => ?_) (fun h34 => ?_)
      · refine bj_iload d_Mo_tell_45 rfl ?_
        refine bj_goto (tgt := 51) d_Mo_tell_47 (by decide) ?_
        refine bj_put d_Mo_tell_51 in_Mo ok_Mo nm_Mo rfl (by decide : 1 < 17) wf_Mo_51 rfl rfl rfl rfl rfl (Nat.le_of_ble_eq_true rfl) hm2.1 ?_
        have hm3 := hm2.hd (cd' := (nI w)) (se' := se) (op' := op) (li' := (nI n))
        have hx3 : mo_fx N2 (va_up N2 80 (some (.inr (5, mo_F ad N (nI w) se op (nI n))))) := mo_fx.rf.at (j := 80) (by omega) (fun q hq => va_up_ne _ _ hq)
        have hw3 : ∀ q, q ≠ 80 → (va_up N2 80 (some (.inr (5, mo_F ad N (nI w) se op (nI n))))) q = N2 q := fun q hq => va_up_ne _ _ hq
        show bj_S _ _ _ _ _ _ 0 0 _ _ [] (va_up N2 80 (some (.inr (5, mo_F ad N (nI w) se op (nI n)))))
        generalize va_up N2 80 (some (.inr (5, mo_F ad N (nI w) se op (nI n)))) = P3 at hm3 hx3 hw3 ⊢
        refine bj_aload_n d_Mo_tell_54 rfl rfl ?_
        refine bj_get d_Mo_tell_55 in_Mo rfl (by decide : 1 < 17) wf_Mo_51 rfl hm3.1 rfl ?_
        refine bj_if_leN (tgt := 65) d_Mo_tell_58 (by decide) (by omega) (fun h => absurd h (by omega)) (fun _ => ?_)
        refine bj_iconst (v := (nI 0)) d_Mo_tell_61 (by decide) ?_
        refine bj_goto (tgt := 71) d_Mo_tell_62 (by decide) ?_
        exact bj_iret d_Mo_tell_71 rfl rfl (Nat.le_refl _) (Nat.le_refl _) ⟨_, w, rfl, by rw [if_neg (by omega)]; exact ⟨fun q => absurd q h6, fun _ => Or.inl ⟨hnN ▸ (show ic n x3 = false from (by first | exact ic_f1 h34 | exact ic_f2 h42)), rfl, rfl⟩, fun q => absurd (h18 ▸ q : nI 1 = nI 2) w12⟩, ⟨⟨⟨_, hm3⟩, hsc2.fx hx3⟩, (show mo_fr M N1 from fun q hq => hE q (by omega) (by omega)).tr (hfr2.tr hx3.fr)⟩, hw2⟩
      · refine bj_iload_n d_Mo_tell_37 rfl rfl ?_
        refine bj_aload_n d_Mo_tell_38 rfl rfl ?_
        refine bj_get d_Mo_tell_39 in_Mo rfl (by decide : 15 < 17) wf_Mo_101 rfl hm2.1 rfl ?_
        refine bj_icmp_lt (tgt := 50) d_Mo_tell_42 (by decide) (fun h42 => ?_) (fun h42 => ?_)
        · refine bj_iconst (v := (nI 0)) d_Mo_tell_50 (by decide) ?_
          refine bj_put d_Mo_tell_51 in_Mo ok_Mo nm_Mo rfl (by decide : 1 < 17) wf_Mo_51 rfl rfl rfl rfl rfl (Nat.le_of_ble_eq_true rfl) hm2.1 ?_
          have hm3 := hm2.hd (cd' := (nI 0)) (se' := se) (op' := op) (li' := (nI n))
          have hx3 : mo_fx N2 (va_up N2 80 (some (.inr (5, mo_F ad N (nI 0) se op (nI n))))) := mo_fx.rf.at (j := 80) (by omega) (fun q hq => va_up_ne _ _ hq)
          have hw3 : ∀ q, q ≠ 80 → (va_up N2 80 (some (.inr (5, mo_F ad N (nI 0) se op (nI n))))) q = N2 q := fun q hq => va_up_ne _ _ hq
          show bj_S _ _ _ _ _ _ 0 0 _ _ [] (va_up N2 80 (some (.inr (5, mo_F ad N (nI 0) se op (nI n)))))
          generalize va_up N2 80 (some (.inr (5, mo_F ad N (nI 0) se op (nI n)))) = P3 at hm3 hx3 hw3 ⊢
          refine bj_aload_n d_Mo_tell_54 rfl rfl ?_
          refine bj_get d_Mo_tell_55 in_Mo rfl (by decide : 1 < 17) wf_Mo_51 rfl hm3.1 rfl ?_
          refine bj_if_leN (tgt := 65) d_Mo_tell_58 (by decide) (by decide) (fun _ => ?_) (fun h => absurd h (by decide))
          have hic := ic_t2 h34 h42
          obtain ⟨j, hj, rfl⟩ := ic_t (by omega) hic
          refine bj_aload_n d_Mo_tell_65 rfl rfl ?_
          refine bj_get d_Mo_tell_66 in_Mo rfl (by decide : 16 < 17) wf_Mo_44 rfl hm3.1 rfl ?_
          refine bj_iload_n d_Mo_tell_69 rfl rfl ?_
          refine bv_iald d_Mo_tell_70 0 rfl (hls.in (hw3 92 (by decide))) (by omega) (by omega) rfl ?_
          exact bj_iret d_Mo_tell_71 rfl rfl (Nat.le_refl _) (Nat.le_refl _) ⟨_, 0, rfl, ⟨fun q => absurd q h6, fun _ => Or.inr ⟨lk, j, (by omega), rfl, hor, rfl, by rw [hl9 j (by omega)]; rfl⟩, fun q => absurd (h18 ▸ q : nI 1 = nI 2) w12⟩, ⟨⟨⟨_, hm3⟩, hsc2.fx hx3⟩, (show mo_fr M N1 from fun q hq => hE q (by omega) (by omega)).tr (hfr2.tr hx3.fr)⟩, by decide⟩
        · refine bj_iload d_Mo_tell_45 rfl ?_
          refine bj_goto (tgt := 51) d_Mo_tell_47 (by decide) ?_
          refine bj_put d_Mo_tell_51 in_Mo ok_Mo nm_Mo rfl (by decide : 1 < 17) wf_Mo_51 rfl rfl rfl rfl rfl (Nat.le_of_ble_eq_true rfl) hm2.1 ?_
          have hm3 := hm2.hd (cd' := (nI w)) (se' := se) (op' := op) (li' := (nI n))
          have hx3 : mo_fx N2 (va_up N2 80 (some (.inr (5, mo_F ad N (nI w) se op (nI n))))) := mo_fx.rf.at (j := 80) (by omega) (fun q hq => va_up_ne _ _ hq)
          have hw3 : ∀ q, q ≠ 80 → (va_up N2 80 (some (.inr (5, mo_F ad N (nI w) se op (nI n))))) q = N2 q := fun q hq => va_up_ne _ _ hq
          show bj_S _ _ _ _ _ _ 0 0 _ _ [] (va_up N2 80 (some (.inr (5, mo_F ad N (nI w) se op (nI n)))))
          generalize va_up N2 80 (some (.inr (5, mo_F ad N (nI w) se op (nI n)))) = P3 at hm3 hx3 hw3 ⊢
          refine bj_aload_n d_Mo_tell_54 rfl rfl ?_
          refine bj_get d_Mo_tell_55 in_Mo rfl (by decide : 1 < 17) wf_Mo_51 rfl hm3.1 rfl ?_
          refine bj_if_leN (tgt := 65) d_Mo_tell_58 (by decide) (by omega) (fun h => absurd h (by omega)) (fun _ => ?_)
          refine bj_iconst (v := (nI 0)) d_Mo_tell_61 (by decide) ?_
          refine bj_goto (tgt := 71) d_Mo_tell_62 (by decide) ?_
          exact bj_iret d_Mo_tell_71 rfl rfl (Nat.le_refl _) (Nat.le_refl _) ⟨_, w, rfl, by rw [if_neg (by omega)]; exact ⟨fun q => absurd q h6, fun _ => Or.inl ⟨hnN ▸ (show ic n x3 = false from (by first | exact ic_f1 h34 | exact ic_f2 h42)), rfl, rfl⟩, fun q => absurd (h18 ▸ q : nI 1 = nI 2) w12⟩, ⟨⟨⟨_, hm3⟩, hsc2.fx hx3⟩, (show mo_fr M N1 from fun q hq => hE q (by omega) (by omega)).tr (hfr2.tr hx3.fr)⟩, hw2⟩
  · refine bj_aload_n d_Mo_tell_9 rfl rfl ?_
    refine bj_cvR sv_Mo_116 d_Mo_tell_10 (t_Mo_winners l D c ad N1 hm1 hN hcn hz72 hsc1) rfl rfl (by decide) (by decide) (by decide) (Nat.le_of_ble_eq_true rfl) rfl hm1.1 rfl rfl (fun v2 N2 hq2 => ?_)
    obtain ⟨rfl, hfr2, hsc2, n, hn8, hm2, hnW, ls, hls, hw9⟩ := hq2
    show bj_S (bw_G l D c) Y_Mo_tell 4 (0, 0, 0, 0) ad (q_tell c ad M N se op dw sg sz rk tm (twR w (psum sg sz rk tm but) N dw x1 x3)) 0 0 13 [some (.ref (ad 80)), some (.int x1), some (.int x2), some (.int x3), some (.int (nI w))] [] N2
    refine bj_goto (tgt := 32) d_Mo_tell_13 (by decide) ?_
    refine bj_aload_n d_Mo_tell_32 rfl rfl ?_
    refine bj_iload_n d_Mo_tell_33 rfl rfl ?_
    refine bj_if_lt (tgt := 45) d_Mo_tell_34 (by decide) (fun h34 => ?_) (fun h34 => ?_)
    · refine bj_iload d_Mo_tell_45 rfl ?_
      refine bj_goto (tgt := 51) d_Mo_tell_47 (by decide) ?_
      refine bj_put d_Mo_tell_51 in_Mo ok_Mo nm_Mo rfl (by decide : 1 < 17) wf_Mo_51 rfl rfl rfl rfl rfl (Nat.le_of_ble_eq_true rfl) hm2.1 ?_
      have hm3 := hm2.hd (cd' := (nI w)) (se' := se) (op' := op) (li' := (nI n))
      have hx3 : mo_fx N2 (va_up N2 80 (some (.inr (5, mo_F ad N (nI w) se op (nI n))))) := mo_fx.rf.at (j := 80) (by omega) (fun q hq => va_up_ne _ _ hq)
      have hw3 : ∀ q, q ≠ 80 → (va_up N2 80 (some (.inr (5, mo_F ad N (nI w) se op (nI n))))) q = N2 q := fun q hq => va_up_ne _ _ hq
      show bj_S _ _ _ _ _ _ 0 0 _ _ [] (va_up N2 80 (some (.inr (5, mo_F ad N (nI w) se op (nI n)))))
      generalize va_up N2 80 (some (.inr (5, mo_F ad N (nI w) se op (nI n)))) = P3 at hm3 hx3 hw3 ⊢
      refine bj_aload_n d_Mo_tell_54 rfl rfl ?_
      refine bj_get d_Mo_tell_55 in_Mo rfl (by decide : 1 < 17) wf_Mo_51 rfl hm3.1 rfl ?_
      refine bj_if_leN (tgt := 65) d_Mo_tell_58 (by decide) (by omega) (fun h => absurd h (by omega)) (fun _ => ?_)
      refine bj_iconst (v := (nI 0)) d_Mo_tell_61 (by decide) ?_
      refine bj_goto (tgt := 71) d_Mo_tell_62 (by decide) ?_
      exact bj_iret d_Mo_tell_71 rfl rfl (Nat.le_refl _) (Nat.le_refl _) ⟨_, w, rfl, by rw [if_neg (by omega)]; exact ⟨fun _ => wl_no hN (hnW ▸ (show ic n x3 = false from (by first | exact ic_f1 h34 | exact ic_f2 h42))) w, fun q => absurd (h6 ▸ q : (0 : Int32) = nI 1) w01, fun q => absurd (h6 ▸ q : (0 : Int32) = nI 2) w02⟩, ⟨⟨⟨_, hm3⟩, hsc2.fx hx3⟩, (show mo_fr M N1 from fun q hq => hE q (by omega) (by omega)).tr (hfr2.tr hx3.fr)⟩, hw2⟩
    · refine bj_iload_n d_Mo_tell_37 rfl rfl ?_
      refine bj_aload_n d_Mo_tell_38 rfl rfl ?_
      refine bj_get d_Mo_tell_39 in_Mo rfl (by decide : 15 < 17) wf_Mo_101 rfl hm2.1 rfl ?_
      refine bj_icmp_lt (tgt := 50) d_Mo_tell_42 (by decide) (fun h42 => ?_) (fun h42 => ?_)
      · refine bj_iconst (v := (nI 0)) d_Mo_tell_50 (by decide) ?_
        refine bj_put d_Mo_tell_51 in_Mo ok_Mo nm_Mo rfl (by decide : 1 < 17) wf_Mo_51 rfl rfl rfl rfl rfl (Nat.le_of_ble_eq_true rfl) hm2.1 ?_
        have hm3 := hm2.hd (cd' := (nI 0)) (se' := se) (op' := op) (li' := (nI n))
        have hx3 : mo_fx N2 (va_up N2 80 (some (.inr (5, mo_F ad N (nI 0) se op (nI n))))) := mo_fx.rf.at (j := 80) (by omega) (fun q hq => va_up_ne _ _ hq)
        have hw3 : ∀ q, q ≠ 80 → (va_up N2 80 (some (.inr (5, mo_F ad N (nI 0) se op (nI n))))) q = N2 q := fun q hq => va_up_ne _ _ hq
        show bj_S _ _ _ _ _ _ 0 0 _ _ [] (va_up N2 80 (some (.inr (5, mo_F ad N (nI 0) se op (nI n)))))
        generalize va_up N2 80 (some (.inr (5, mo_F ad N (nI 0) se op (nI n)))) = P3 at hm3 hx3 hw3 ⊢
        refine bj_aload_n d_Mo_tell_54 rfl rfl ?_
        refine bj_get d_Mo_tell_55 in_Mo rfl (by decide : 1 < 17) wf_Mo_51 rfl hm3.1 rfl ?_
        refine bj_if_leN (tgt := 65) d_Mo_tell_58 (by decide) (by decide) (fun _ => ?_) (fun h => absurd h (by decide))
        have hic := ic_t2 h34 h42
        obtain ⟨j, hj, rfl⟩ := ic_t (by omega) hic
        refine bj_aload_n d_Mo_tell_65 rfl rfl ?_
        refine bj_get d_Mo_tell_66 in_Mo rfl (by decide : 16 < 17) wf_Mo_44 rfl hm3.1 rfl ?_
        refine bj_iload_n d_Mo_tell_69 rfl rfl ?_
        refine bv_iald d_Mo_tell_70 0 rfl (hls.in (hw3 92 (by decide))) (by omega) (by omega) rfl ?_
        exact bj_iret d_Mo_tell_71 rfl rfl (Nat.le_refl _) (Nat.le_refl _) ⟨_, 0, rfl, ⟨fun _ => wl_get (c := c) hN hw9 (hnW ▸ hj) w, fun q => absurd (h6 ▸ q : (0 : Int32) = nI 1) w01, fun q => absurd (h6 ▸ q : (0 : Int32) = nI 2) w02⟩, ⟨⟨⟨_, hm3⟩, hsc2.fx hx3⟩, (show mo_fr M N1 from fun q hq => hE q (by omega) (by omega)).tr (hfr2.tr hx3.fr)⟩, by decide⟩
      · refine bj_iload d_Mo_tell_45 rfl ?_
        refine bj_goto (tgt := 51) d_Mo_tell_47 (by decide) ?_
        refine bj_put d_Mo_tell_51 in_Mo ok_Mo nm_Mo rfl (by decide : 1 < 17) wf_Mo_51 rfl rfl rfl rfl rfl (Nat.le_of_ble_eq_true rfl) hm2.1 ?_
        have hm3 := hm2.hd (cd' := (nI w)) (se' := se) (op' := op) (li' := (nI n))
        have hx3 : mo_fx N2 (va_up N2 80 (some (.inr (5, mo_F ad N (nI w) se op (nI n))))) := mo_fx.rf.at (j := 80) (by omega) (fun q hq => va_up_ne _ _ hq)
        have hw3 : ∀ q, q ≠ 80 → (va_up N2 80 (some (.inr (5, mo_F ad N (nI w) se op (nI n))))) q = N2 q := fun q hq => va_up_ne _ _ hq
        show bj_S _ _ _ _ _ _ 0 0 _ _ [] (va_up N2 80 (some (.inr (5, mo_F ad N (nI w) se op (nI n)))))
        generalize va_up N2 80 (some (.inr (5, mo_F ad N (nI w) se op (nI n)))) = P3 at hm3 hx3 hw3 ⊢
        refine bj_aload_n d_Mo_tell_54 rfl rfl ?_
        refine bj_get d_Mo_tell_55 in_Mo rfl (by decide : 1 < 17) wf_Mo_51 rfl hm3.1 rfl ?_
        refine bj_if_leN (tgt := 65) d_Mo_tell_58 (by decide) (by omega) (fun h => absurd h (by omega)) (fun _ => ?_)
        refine bj_iconst (v := (nI 0)) d_Mo_tell_61 (by decide) ?_
        refine bj_goto (tgt := 71) d_Mo_tell_62 (by decide) ?_
        exact bj_iret d_Mo_tell_71 rfl rfl (Nat.le_refl _) (Nat.le_refl _) ⟨_, w, rfl, by rw [if_neg (by omega)]; exact ⟨fun _ => wl_no hN (hnW ▸ (show ic n x3 = false from (by first | exact ic_f1 h34 | exact ic_f2 h42))) w, fun q => absurd (h6 ▸ q : (0 : Int32) = nI 1) w01, fun q => absurd (h6 ▸ q : (0 : Int32) = nI 2) w02⟩, ⟨⟨⟨_, hm3⟩, hsc2.fx hx3⟩, (show mo_fr M N1 from fun q hq => hE q (by omega) (by omega)).tr (hfr2.tr hx3.fr)⟩, hw2⟩
set_option maxRecDepth 100000 in
set_option maxHeartbeats 4000000 in
/-- winner -/
theorem t_Mo_winner {N op : Nat} {cd : Int32} {se : Bool} {dw sg sz : Nat → Nat} {rk : Nat → Nat → Int32} {tm : Nat → Nat → Nat} (hA : mo_all c ad M N cd se op dw sg sz rk tm) (hiv : of_iv N op dw sg sz tm) {x1 : Int32} : bj_T (bw_G l D c) Y_Mo_winner 5 (0, 0, 0, 0) ad (q_mod true (Rf 1 (ft (mem_q (winb (psum sg sz rk tm 12) N) x1) 8)) (mo_st c ad M N se op dw sg sz rk tm) (mo_st c ad M N se op dw sg sz rk tm)) [.ref (ad 80), .int x1] M := by
  show bj_S _ _ _ _ _ _ 0 0 0 [some (.ref (ad 80)), some (.int x1)] [] M
  obtain ⟨⟨li, hm0⟩, hsc⟩ := hA
  obtain ⟨hN1, hN, hop, ⟨ps, hpm⟩, hbt, hun⟩ := id hiv
  refine bj_aload_n d_Mo_winner_0 rfl rfl ?_
  refine bj_iconst (v := (nI 0)) d_Mo_winner_1 (by decide) ?_
  refine bj_iconst (v := (-1)) d_Mo_winner_2 (by decide) ?_
  refine bj_iload_n d_Mo_winner_3 rfl rfl ?_
  refine bj_iconst (v := (nI 1)) d_Mo_winner_4 (by decide) ?_
  refine bj_cvR sv_Mo_125 d_Mo_winner_5 (t_Mo_tell l D c ad M ⟨⟨_, hm0⟩, hsc⟩ hiv m1_12 (Or.inl rfl) (w := 1) (by decide) (by decide)) rfl rfl (by decide) (by decide) (by decide) (Nat.le_of_ble_eq_true rfl) rfl hm0.1 rfl rfl (fun v1 N1 hq1 => ?_)
  obtain ⟨z, k, rfl, hR, hG, hk4⟩ := hq1
  show bj_S (bw_G l D c) Y_Mo_winner 5 (0, 0, 0, 0) ad (q_mod true (Rf 1 (ft (mem_q (winb (psum sg sz rk tm 12) N) x1) 8)) (mo_st c ad M N se op dw sg sz rk tm) (mo_st c ad M N se op dw sg sz rk tm)) 0 0 8 [some (.ref (ad 80)), some (.int x1)] [.int z] N1
  exact bj_iret d_Mo_winner_8 rfl rfl (Nat.le_refl _) (Nat.le_refl _) ⟨k, hR.1 rfl, by split <;> exact hG, hk4, ⟨fun _ => ⟨_, rfl⟩, fun h => absurd h (by decide)⟩⟩
set_option maxRecDepth 100000 in
set_option maxHeartbeats 4000000 in
/-- order -/
theorem t_Mo_order {N op : Nat} {cd : Int32} {se : Bool} {dw sg sz : Nat → Nat} {rk : Nat → Nat → Int32} {tm : Nat → Nat → Nat} (hA : mo_all c ad M N cd se op dw sg sz rk tm) (hiv : of_iv N op dw sg sz tm) {x1 : Int32} : bj_T (bw_G l D c) Y_Mo_order 5 (0, 0, 0, 0) ad (q_mod true (ordR 1 (psum sg sz rk tm 12) N dw x1) (mo_st c ad M N se op dw sg sz rk tm) (mo_st c ad M N se op dw sg sz rk tm)) [.ref (ad 80), .int x1] M := by
  show bj_S _ _ _ _ _ _ 0 0 0 [some (.ref (ad 80)), some (.int x1)] [] M
  obtain ⟨⟨li, hm0⟩, hsc⟩ := hA
  obtain ⟨hN1, hN, hop, ⟨ps, hpm⟩, hbt, hun⟩ := id hiv
  refine bj_aload_n d_Mo_order_0 rfl rfl ?_
  refine bj_iconst (v := (nI 1)) d_Mo_order_1 (by decide) ?_
  refine bj_iconst (v := (-1)) d_Mo_order_2 (by decide) ?_
  refine bj_iload_n d_Mo_order_3 rfl rfl ?_
  refine bj_iconst (v := (nI 1)) d_Mo_order_4 (by decide) ?_
  refine bj_cvR sv_Mo_125 d_Mo_order_5 (t_Mo_tell l D c ad M ⟨⟨_, hm0⟩, hsc⟩ hiv m1_12 (Or.inr (Or.inl rfl)) (w := 1) (by decide) (by decide)) rfl rfl (by decide) (by decide) (by decide) (Nat.le_of_ble_eq_true rfl) rfl hm0.1 rfl rfl (fun v1 N1 hq1 => ?_)
  obtain ⟨z, k, rfl, hR, hG, hk4⟩ := hq1
  show bj_S (bw_G l D c) Y_Mo_order 5 (0, 0, 0, 0) ad (q_mod true (ordR 1 (psum sg sz rk tm 12) N dw x1) (mo_st c ad M N se op dw sg sz rk tm) (mo_st c ad M N se op dw sg sz rk tm)) 0 0 8 [some (.ref (ad 80)), some (.int x1)] [.int z] N1
  exact bj_iret d_Mo_order_8 rfl rfl (Nat.le_refl _) (Nat.le_refl _) ⟨k, hR.2.1 rfl, by split <;> exact hG, hk4, ⟨fun _ => ⟨_, rfl⟩, fun h => absurd h (by decide)⟩⟩
set_option maxRecDepth 100000 in
set_option maxHeartbeats 4000000 in
/-- top -/
theorem t_Mo_top {N op : Nat} {cd : Int32} {se : Bool} {dw sg sz : Nat → Nat} {rk : Nat → Nat → Int32} {tm : Nat → Nat → Nat} (hA : mo_all c ad M N cd se op dw sg sz rk tm) (hiv : of_iv N op dw sg sz tm) {x1 : Int32} : bj_T (bw_G l D c) Y_Mo_top 5 (0, 0, 0, 0) ad (q_mod true (topR 1 (fun a b => nI (psum sg sz rk tm 12 a b)) N x1) (mo_st c ad M N se op dw sg sz rk tm) (mo_st c ad M N se op dw sg sz rk tm)) [.ref (ad 80), .int x1] M := by
  show bj_S _ _ _ _ _ _ 0 0 0 [some (.ref (ad 80)), some (.int x1)] [] M
  obtain ⟨⟨li, hm0⟩, hsc⟩ := hA
  obtain ⟨hN1, hN, hop, ⟨ps, hpm⟩, hbt, hun⟩ := id hiv
  refine bj_aload_n d_Mo_top_0 rfl rfl ?_
  refine bj_iconst (v := (nI 2)) d_Mo_top_1 (by decide) ?_
  refine bj_iconst (v := (-1)) d_Mo_top_2 (by decide) ?_
  refine bj_iload_n d_Mo_top_3 rfl rfl ?_
  refine bj_iconst (v := (nI 1)) d_Mo_top_4 (by decide) ?_
  refine bj_cvR sv_Mo_125 d_Mo_top_5 (t_Mo_tell l D c ad M ⟨⟨_, hm0⟩, hsc⟩ hiv m1_12 (Or.inr (Or.inr rfl)) (w := 1) (by decide) (by decide)) rfl rfl (by decide) (by decide) (by decide) (Nat.le_of_ble_eq_true rfl) rfl hm0.1 rfl rfl (fun v1 N1 hq1 => ?_)
  obtain ⟨z, k, rfl, hR, hG, hk4⟩ := hq1
  show bj_S (bw_G l D c) Y_Mo_top 5 (0, 0, 0, 0) ad (q_mod true (topR 1 (fun a b => nI (psum sg sz rk tm 12 a b)) N x1) (mo_st c ad M N se op dw sg sz rk tm) (mo_st c ad M N se op dw sg sz rk tm)) 0 0 8 [some (.ref (ad 80)), some (.int x1)] [.int z] N1
  exact bj_iret d_Mo_top_8 rfl rfl (Nat.le_refl _) (Nat.le_refl _) ⟨k, hR.2.2 rfl, by split <;> exact hG, hk4, ⟨fun _ => ⟨_, rfl⟩, fun h => absurd h (by decide)⟩⟩
set_option maxRecDepth 100000 in
set_option maxHeartbeats 4000000 in
/-- without -/
theorem t_Mo_without {N op : Nat} {cd : Int32} {se : Bool} {dw sg sz : Nat → Nat} {rk : Nat → Nat → Int32} {tm : Nat → Nat → Nat} (hA : mo_all c ad M N cd se op dw sg sz rk tm) (hiv : of_iv N op dw sg sz tm) {x1 x2 x3 : Int32} : bj_T (bw_G l D c) Y_Mo_without 5 (0, 0, 0, 0) ad (q_mod true (withR op sg sz rk tm N dw x1 x2 x3) (mo_st c ad M N se op dw sg sz rk tm) (mo_st c ad M N se op dw sg sz rk tm)) [.ref (ad 80), .int x1, .int x2, .int x3] M := by
  show bj_S _ _ _ _ _ _ 0 0 0 [some (.ref (ad 80)), some (.int x1), some (.int x2), some (.int x3)] [] M
  obtain ⟨⟨li, hm0⟩, hsc⟩ := hA
  obtain ⟨hN1, hN, hop, ⟨ps, hpm⟩, hbt, hun⟩ := id hiv
  refine bj_aload_n d_Mo_without_0 rfl rfl ?_
  refine bj_aload_n d_Mo_without_1 rfl rfl ?_
  refine bj_iload_n d_Mo_without_2 rfl rfl ?_
  refine bj_cvF sv_Mo_73 d_Mo_without_3 (t_Mo_isBatch l D c ad M hm0 hN) rfl rfl (by decide) (by decide) (by decide) (Nat.le_of_ble_eq_true rfl) rfl hm0.1 rfl rfl ?_
  refine bj_if_eq (tgt := 18) d_Mo_without_6 (by decide) (fun h6 => ?_) (fun h6 => ?_)
  · refine bj_iconst (v := (nI 1)) d_Mo_without_18 (by decide) ?_
    refine bj_goto (tgt := 23) d_Mo_without_19 (by decide) ?_
    refine bj_put d_Mo_without_23 in_Mo ok_Mo nm_Mo rfl (by decide : 1 < 17) wf_Mo_51 rfl rfl rfl rfl rfl (Nat.le_of_ble_eq_true rfl) hm0.1 ?_
    have hm1 := hm0.hd (cd' := (nI 1)) (se' := se) (op' := op) (li' := li)
    have hx1 : mo_fx M (va_up M 80 (some (.inr (5, mo_F ad N (nI 1) se op li)))) := mo_fx.rf.at (j := 80) (by omega) (fun q hq => va_up_ne _ _ hq)
    have hw1 : ∀ q, q ≠ 80 → (va_up M 80 (some (.inr (5, mo_F ad N (nI 1) se op li)))) q = M q := fun q hq => va_up_ne _ _ hq
    show bj_S _ _ _ _ _ _ 0 0 _ _ [] (va_up M 80 (some (.inr (5, mo_F ad N (nI 1) se op li))))
    generalize va_up M 80 (some (.inr (5, mo_F ad N (nI 1) se op li))) = P1 at hm1 hx1 hw1 ⊢
    refine bj_aload_n d_Mo_without_26 rfl rfl ?_
    refine bj_get d_Mo_without_27 in_Mo rfl (by decide : 1 < 17) wf_Mo_51 rfl hm1.1 rfl ?_
    refine bj_if_leN (tgt := 37) d_Mo_without_30 (by decide) (by decide) (fun h => absurd h (by decide)) (fun _ => ?_)
    refine bj_iconst (v := (nI 0)) d_Mo_without_33 (by decide) ?_
    refine bj_goto (tgt := 45) d_Mo_without_34 (by decide) ?_
    exact bj_iret d_Mo_without_45 rfl rfl (Nat.le_refl _) (Nat.le_refl _) (q_modn 1 (by decide) (by decide) (Or.inl ⟨fun q => by first | (rw [bt_n0.mp h6] at q; exact absurd q.1 (by decide)) | exact to_n1 h10 q.2 | exact to_n2 h15 q.2, rfl, rfl⟩) ⟨⟨⟨_, hm1⟩, hsc.fx hx1⟩, hx1.fr⟩)
  · refine bj_iload_n d_Mo_without_9 rfl rfl ?_
    refine bj_if_lt (tgt := 18) d_Mo_without_10 (by decide) (fun h10 => ?_) (fun h10 => ?_)
    · refine bj_iconst (v := (nI 1)) d_Mo_without_18 (by decide) ?_
      refine bj_goto (tgt := 23) d_Mo_without_19 (by decide) ?_
      refine bj_put d_Mo_without_23 in_Mo ok_Mo nm_Mo rfl (by decide : 1 < 17) wf_Mo_51 rfl rfl rfl rfl rfl (Nat.le_of_ble_eq_true rfl) hm0.1 ?_
      have hm1 := hm0.hd (cd' := (nI 1)) (se' := se) (op' := op) (li' := li)
      have hx1 : mo_fx M (va_up M 80 (some (.inr (5, mo_F ad N (nI 1) se op li)))) := mo_fx.rf.at (j := 80) (by omega) (fun q hq => va_up_ne _ _ hq)
      have hw1 : ∀ q, q ≠ 80 → (va_up M 80 (some (.inr (5, mo_F ad N (nI 1) se op li)))) q = M q := fun q hq => va_up_ne _ _ hq
      show bj_S _ _ _ _ _ _ 0 0 _ _ [] (va_up M 80 (some (.inr (5, mo_F ad N (nI 1) se op li))))
      generalize va_up M 80 (some (.inr (5, mo_F ad N (nI 1) se op li))) = P1 at hm1 hx1 hw1 ⊢
      refine bj_aload_n d_Mo_without_26 rfl rfl ?_
      refine bj_get d_Mo_without_27 in_Mo rfl (by decide : 1 < 17) wf_Mo_51 rfl hm1.1 rfl ?_
      refine bj_if_leN (tgt := 37) d_Mo_without_30 (by decide) (by decide) (fun h => absurd h (by decide)) (fun _ => ?_)
      refine bj_iconst (v := (nI 0)) d_Mo_without_33 (by decide) ?_
      refine bj_goto (tgt := 45) d_Mo_without_34 (by decide) ?_
      exact bj_iret d_Mo_without_45 rfl rfl (Nat.le_refl _) (Nat.le_refl _) (q_modn 1 (by decide) (by decide) (Or.inl ⟨fun q => by first | (rw [bt_n0.mp h6] at q; exact absurd q.1 (by decide)) | exact to_n1 h10 q.2 | exact to_n2 h15 q.2, rfl, rfl⟩) ⟨⟨⟨_, hm1⟩, hsc.fx hx1⟩, hx1.fr⟩)
    · refine bj_iload_n d_Mo_without_13 rfl rfl ?_
      refine bj_iconst (v := (nI 2)) d_Mo_without_14 (by decide) ?_
      refine bj_icmp_le (tgt := 22) d_Mo_without_15 (by decide) (fun h15 => ?_) (fun h15 => ?_)
      · refine bj_iconst (v := (nI 0)) d_Mo_without_22 (by decide) ?_
        refine bj_put d_Mo_without_23 in_Mo ok_Mo nm_Mo rfl (by decide : 1 < 17) wf_Mo_51 rfl rfl rfl rfl rfl (Nat.le_of_ble_eq_true rfl) hm0.1 ?_
        have hm1 := hm0.hd (cd' := (nI 0)) (se' := se) (op' := op) (li' := li)
        have hx1 : mo_fx M (va_up M 80 (some (.inr (5, mo_F ad N (nI 0) se op li)))) := mo_fx.rf.at (j := 80) (by omega) (fun q hq => va_up_ne _ _ hq)
        have hw1 : ∀ q, q ≠ 80 → (va_up M 80 (some (.inr (5, mo_F ad N (nI 0) se op li)))) q = M q := fun q hq => va_up_ne _ _ hq
        show bj_S _ _ _ _ _ _ 0 0 _ _ [] (va_up M 80 (some (.inr (5, mo_F ad N (nI 0) se op li))))
        generalize va_up M 80 (some (.inr (5, mo_F ad N (nI 0) se op li))) = P1 at hm1 hx1 hw1 ⊢
        refine bj_aload_n d_Mo_without_26 rfl rfl ?_
        refine bj_get d_Mo_without_27 in_Mo rfl (by decide : 1 < 17) wf_Mo_51 rfl hm1.1 rfl ?_
        refine bj_if_leN (tgt := 37) d_Mo_without_30 (by decide) (by decide) (fun _ => ?_) (fun h => absurd h (by decide))
        have h1 := bt_nn h6
        obtain ⟨a, ha, rfl⟩ := ic_t (by omega) h1
        have hcl : (nI a).toNatClampNeg = a := nI_clamp (by omega)
        refine bj_aload_n d_Mo_without_37 rfl rfl ?_
        refine bj_iload_n d_Mo_without_38 rfl rfl ?_
        refine bj_iload_n d_Mo_without_39 rfl rfl ?_
        refine bj_iload_n d_Mo_without_40 rfl rfl ?_
        refine bj_iconst (v := (nI 2)) d_Mo_without_41 (by decide) ?_
        refine bj_cvR sv_Mo_125 d_Mo_without_42 (t_Mo_tell l D c ad P1 ⟨⟨_, hm1⟩, hsc.fx hx1⟩ hiv (b_12 (by omega)) (to_3 h10 h15) (w := 2) (by decide) (by decide)) rfl rfl (by decide) (by decide) (by decide) (Nat.le_of_ble_eq_true rfl) rfl hm1.1 rfl rfl (fun v1 N1 hq1 => ?_)
        obtain ⟨z, k, rfl, hR, hG, hk4⟩ := hq1
        show bj_S (bw_G l D c) Y_Mo_without 5 (0, 0, 0, 0) ad (q_mod true (withR op sg sz rk tm N dw (nI a) x2 x3) (mo_st c ad M N se op dw sg sz rk tm) (mo_st c ad M N se op dw sg sz rk tm)) 0 0 45 [some (.ref (ad 80)), some (.int (nI a)), some (.int x2), some (.int x3)] [.int z] N1
        exact bj_iret d_Mo_without_45 rfl rfl (Nat.le_refl _) (Nat.le_refl _) ⟨k, Or.inr ⟨⟨h1, to_3 h10 h15⟩, by rw [hcl]; exact hR⟩, by split <;> exact ⟨hG.1, hx1.fr.tr hG.2⟩, hk4, ⟨fun _ => ⟨_, rfl⟩, fun h => absurd h (by decide)⟩⟩
      · refine bj_iconst (v := (nI 1)) d_Mo_without_18 (by decide) ?_
        refine bj_goto (tgt := 23) d_Mo_without_19 (by decide) ?_
        refine bj_put d_Mo_without_23 in_Mo ok_Mo nm_Mo rfl (by decide : 1 < 17) wf_Mo_51 rfl rfl rfl rfl rfl (Nat.le_of_ble_eq_true rfl) hm0.1 ?_
        have hm1 := hm0.hd (cd' := (nI 1)) (se' := se) (op' := op) (li' := li)
        have hx1 : mo_fx M (va_up M 80 (some (.inr (5, mo_F ad N (nI 1) se op li)))) := mo_fx.rf.at (j := 80) (by omega) (fun q hq => va_up_ne _ _ hq)
        have hw1 : ∀ q, q ≠ 80 → (va_up M 80 (some (.inr (5, mo_F ad N (nI 1) se op li)))) q = M q := fun q hq => va_up_ne _ _ hq
        show bj_S _ _ _ _ _ _ 0 0 _ _ [] (va_up M 80 (some (.inr (5, mo_F ad N (nI 1) se op li))))
        generalize va_up M 80 (some (.inr (5, mo_F ad N (nI 1) se op li))) = P1 at hm1 hx1 hw1 ⊢
        refine bj_aload_n d_Mo_without_26 rfl rfl ?_
        refine bj_get d_Mo_without_27 in_Mo rfl (by decide : 1 < 17) wf_Mo_51 rfl hm1.1 rfl ?_
        refine bj_if_leN (tgt := 37) d_Mo_without_30 (by decide) (by decide) (fun h => absurd h (by decide)) (fun _ => ?_)
        refine bj_iconst (v := (nI 0)) d_Mo_without_33 (by decide) ?_
        refine bj_goto (tgt := 45) d_Mo_without_34 (by decide) ?_
        exact bj_iret d_Mo_without_45 rfl rfl (Nat.le_refl _) (Nat.le_refl _) (q_modn 1 (by decide) (by decide) (Or.inl ⟨fun q => by first | (rw [bt_n0.mp h6] at q; exact absurd q.1 (by decide)) | exact to_n1 h10 q.2 | exact to_n2 h15 q.2, rfl, rfl⟩) ⟨⟨⟨_, hm1⟩, hsc.fx hx1⟩, hx1.fr⟩)
set_option maxRecDepth 100000 in
set_option maxHeartbeats 4000000 in
/-- locked -/
theorem t_Mo_locked {N op : Nat} {cd : Int32} {se : Bool} {dw sg sz : Nat → Nat} {rk : Nat → Nat → Int32} {tm : Nat → Nat → Nat} (hA : mo_all c ad M N cd se op dw sg sz rk tm) (hiv : of_iv N op dw sg sz tm) {x1 x2 : Int32} : bj_T (bw_G l D c) Y_Mo_locked 4 (0, 0, 0, 0) ad (q_mod true (Rw (prC N x1 x2) (lockA (psum sg sz rk tm 12) N dw x1 x2)) (mo_st c ad M N se op dw sg sz rk tm) (mo_st c ad M N se op dw sg sz rk tm)) [.ref (ad 80), .int x1, .int x2] M := by
  show bj_S _ _ _ _ _ _ 0 0 0 [some (.ref (ad 80)), some (.int x1), some (.int x2)] [] M
  obtain ⟨⟨li, hm0⟩, hsc⟩ := hA
  obtain ⟨hN1, hN, hop, ⟨ps, hpm⟩, hbt, hun⟩ := id hiv
  refine bj_aload_n d_Mo_locked_0 rfl rfl ?_
  refine bj_iload_n d_Mo_locked_1 rfl rfl ?_
  refine bj_iload_n d_Mo_locked_2 rfl rfl ?_
  refine bj_cvR sv_Mo_93 d_Mo_locked_3 (t_Mo_lacks l D c ad M ⟨⟨_, hm0⟩, hsc⟩ hiv) rfl rfl (by decide) (by decide) (by decide) (Nat.le_of_ble_eq_true rfl) rfl hm0.1 rfl rfl (fun v1 N1 hq1 => ?_)
  obtain ⟨hfr1, hsc1, ⟨hz, rfl, li1, hm1⟩ | ⟨hz, rfl, ⟨li1, hm1⟩, hcn, e, he, hes, heB⟩⟩ := hq1
  · show bj_S (bw_G l D c) Y_Mo_locked 4 (0, 0, 0, 0) ad (q_mod true (Rw (prC N x1 x2) (lockA (psum sg sz rk tm 12) N dw x1 x2)) (mo_st c ad M N se op dw sg sz rk tm) (mo_st c ad M N se op dw sg sz rk tm)) 0 0 6 [some (.ref (ad 80)), some (.int x1), some (.int x2)] [.int (nI 1)] N1
    refine bj_if_eqN (tgt := 11) d_Mo_locked_6 (by decide) (by decide) (fun h => absurd h (by decide)) (fun _ => ?_)
    refine bj_iconst (v := (nI 0)) d_Mo_locked_9 (by decide) ?_
    exact bj_iret d_Mo_locked_10 rfl rfl (Nat.le_refl _) (Nat.le_refl _) (q_modn 1 (by decide) (by decide) (Rw_n hz (by decide)) ⟨⟨⟨_, hm1⟩, hsc1⟩, hfr1⟩)
  · have h1 := prC_inv hz
    obtain ⟨a, ha, rfl⟩ := ic_t (by omega) h1.1
    obtain ⟨b, hb9, rfl⟩ := ic_t (by omega) h1.2.1
    have hab : a ≠ b := fun q => h1.2.2 (by rw [q])
    show bj_S (bw_G l D c) Y_Mo_locked 4 (0, 0, 0, 0) ad (q_mod true (Rw (prC N (nI a) (nI b)) (lockA (psum sg sz rk tm 12) N dw (nI a) (nI b))) (mo_st c ad M N se op dw sg sz rk tm) (mo_st c ad M N se op dw sg sz rk tm)) 0 0 6 [some (.ref (ad 80)), some (.int (nI a)), some (.int (nI b))] [.int (nI 0)] N1
    refine bj_if_eqN (tgt := 11) d_Mo_locked_6 (by decide) (by decide) (fun _ => ?_) (fun h => absurd h (by decide))
    obtain ⟨pf, di, st0, lk0, ld0, fa0, ls0, g1, g2, g3, g4, g5, g6, g7⟩ := id hsc1
    have hpz31 : ∀ a b, pz N (psum sg sz rk tm 12) a b < 2 ^ 31 := fun a b => by have := psum_le (sg := sg) (sz := sz) (rk := rk) (tm := tm) (but := 12) (a := a) (b := b) (fun j hj => (hbt j hj).2); unfold pz; split <;> omega
    refine bj_aload_n d_Mo_locked_11 rfl rfl ?_
    refine bj_cvR sv_Mo_110 d_Mo_locked_12 (t_Mo_lockAll l D c ad N1 hm1 hN hcn hpz31 hpm g4 g5) rfl rfl (by decide) (by decide) (by decide) (Nat.le_of_ble_eq_true rfl) rfl hm1.1 rfl rfl (fun v2 N2 hq2 => ?_)
    obtain ⟨rfl, ⟨e9, pn, hso, hk8, hk9⟩, hE⟩ := hq2
    show bj_S (bw_G l D c) Y_Mo_locked 4 (0, 0, 0, 0) ad (q_mod true (Rw (prC N (nI a) (nI b)) (lockA (psum sg sz rk tm 12) N dw (nI a) (nI b))) (mo_st c ad M N se op dw sg sz rk tm) (mo_st c ad M N se op dw sg sz rk tm)) 0 0 15 [some (.ref (ad 80)), some (.int (nI a)), some (.int (nI b))] [] N2
    have hm2 := hm1.in (M' := N2) (fun q q1 q2 => hE q (by omega) (by omega))
    refine bj_aload_n d_Mo_locked_15 rfl rfl ?_
    refine bj_get d_Mo_locked_16 in_Mo rfl (by decide : 12 < 17) wf_Mo_34 rfl hm2.1 rfl ?_
    refine bj_bipush (v := (nI 8)) d_Mo_locked_19 (by decide) ?_
    refine bj_iload_n d_Mo_locked_21 rfl rfl ?_
    refine bj_imul (v := (nI (8 * a))) d_Mo_locked_22 (pk_mul _ _) ?_
    refine bj_iload_n d_Mo_locked_23 rfl rfl ?_
    refine bj_iadd (v := (nI ((8 * a) + b))) d_Mo_locked_24 (nI_add _ _) ?_
    refine bv_zald (v := (bt_n (so_lk e9 pn a b))) d_Mo_locked_25 1 rfl hk8 (by omega) (by omega) (by show bt_n _ = bt_n _; rw [show (8 * a + b) / 8 = a by omega, show (8 * a + b) % 8 = b by omega]) ?_
    exact bj_iret d_Mo_locked_26 rfl nar_bt (Nat.le_refl _) (Nat.le_refl _) (q_mod0 (Rw_0 hz ⟨a, b, so_lk e9 pn, ha, hb9, rfl, rfl, ⟨ps, e9, pn, hpm, hso, rfl⟩, rfl⟩) ⟨⟨⟨_, hm2⟩, hsc1.k8 hk8 hk9 hE⟩, hfr1.tr (fun q hq => hE q (by omega) (by omega))⟩)
end MB
