/-! the reference: what it holds; its plain methods (walks by gen/m_mo1.py) -/
section M1

abbrev mo_F (ad : Nat → Nat) (N : Nat) (cd : Int32) (se : Bool) (op : Nat) (li : Int32) : List Value := [.int (nI N), .int cd, .int (bt_n se), .ref (ad 81), .int (nI op), .ref (ad 82), .ref (ad 83), .ref (ad 84), .ref (ad 85), .ref (ad 86), .ref (ad 87), .ref (ad 88), .ref (ad 89), .ref (ad 90), .ref (ad 91), .int li, .ref (ad 92)]
def mo_ok (c : Nat → ClassId) (ad : Nat → Nat) (M : bj_M) (N : Nat) (cd : Int32) (se : Bool) (op : Nat) (li : Int32) (dw sg sz : Nat → Nat) (rk : Nat → Nat → Int32) (tm : Nat → Nat → Nat) : Prop :=
  M 80 = some (.inr (5, mo_F ad N cd se op li)) ∧ bv_I (c 0) M 81 8 (fun i => nI (dw i)) ∧ bv_I (c 0) M 82 12 (fun i => nI (sg i)) ∧ bv_I (c 0) M 83 12 (fun i => nI (sz i)) ∧ bv_I (c 0) M 84 72 (fun j => rk (j / 6) (j % 6)) ∧ bv_I (c 0) M 85 72 (fun j => nI (tm (j / 6) (j % 6)))
def mo_sc (c : Nat → ClassId) (M : bj_M) : Prop := ∃ pf di st lk ld fa ls : Nat → Int32, bv_I (c 0) M 86 64 pf ∧ bv_I (c 0) M 87 64 di ∧ bv_I (c 0) M 88 64 st ∧ bv_I (c 1) M 89 64 lk ∧ bv_I (c 1) M 90 64 ld ∧ bv_I (c 0) M 91 8 fa ∧ bv_I (c 0) M 92 8 ls
def mo_fx (M M' : bj_M) : Prop := ∀ q, q < 80 ∨ 86 ≤ q → M' q = M q
def mo_fr (M M' : bj_M) : Prop := ∀ q, ¬ (80 ≤ q ∧ q < 93) → M' q = M q
theorem mo_fx.rf {M : bj_M} : mo_fx M M := fun _ _ => rfl
theorem mo_fx.tr {M M' M'' : bj_M} (h : mo_fx M M') (h' : mo_fx M' M'') : mo_fx M M'' := fun q hq => (h' q hq).trans (h q hq)
theorem mo_fx.at {j : Nat} {M M' M'' : bj_M} (h : mo_fx M M') (hj : 80 ≤ j ∧ j < 86) (ho : ∀ q, q ≠ j → M'' q = M' q) : mo_fx M M'' := fun q hq => (ho q (by omega)).trans (h q hq)
theorem mo_fx.fr {M M' : bj_M} (h : mo_fx M M') : mo_fr M M' := fun q hq => h q (by omega)
theorem mo_fr.rf {M : bj_M} : mo_fr M M := fun _ _ => rfl
theorem mo_fr.tr {M M' M'' : bj_M} (h : mo_fr M M') (h' : mo_fr M' M'') : mo_fr M M'' := fun q hq => (h' q hq).trans (h q hq)
theorem mo_sc.fx {c : Nat → ClassId} {M M' : bj_M} (h : mo_sc c M) (e : mo_fx M M') : mo_sc c M' := by
  obtain ⟨pf, di, st, lk, ld, fa, ls, h1, h2, h3, h4, h5, h6, h7⟩ := h
  exact ⟨pf, di, st, lk, ld, fa, ls, h1.in (e _ (by omega)), h2.in (e _ (by omega)), h3.in (e _ (by omega)), h4.in (e _ (by omega)), h5.in (e _ (by omega)), h6.in (e _ (by omega)), h7.in (e _ (by omega))⟩
section V
variable {c : Nat → ClassId} {ad : Nat → Nat} {M M' : bj_M} {N op : Nat} {cd li : Int32} {se : Bool} {dw sg sz : Nat → Nat} {rk : Nat → Nat → Int32} {tm : Nat → Nat → Nat}
theorem mo_ok.hd {cd' li' : Int32} {se' : Bool} {op' : Nat} (h : mo_ok c ad M N cd se op li dw sg sz rk tm) : mo_ok c ad (va_up M 80 (some (.inr (5, mo_F ad N cd' se' op' li')))) N cd' se' op' li' dw sg sz rk tm := ⟨va_up_self _ _ _, h.2.1.in (va_up_ne _ _ (by omega)), h.2.2.1.in (va_up_ne _ _ (by omega)), h.2.2.2.1.in (va_up_ne _ _ (by omega)), h.2.2.2.2.1.in (va_up_ne _ _ (by omega)), h.2.2.2.2.2.in (va_up_ne _ _ (by omega))⟩
theorem mo_ok.in (h : mo_ok c ad M N cd se op li dw sg sz rk tm) (e : ∀ q, 80 ≤ q → q < 86 → M' q = M q) : mo_ok c ad M' N cd se op li dw sg sz rk tm := ⟨(e 80 (by omega) (by omega)).trans h.1, h.2.1.in (e _ (by omega) (by omega)), h.2.2.1.in (e _ (by omega) (by omega)), h.2.2.2.1.in (e _ (by omega) (by omega)), h.2.2.2.2.1.in (e _ (by omega) (by omega)), h.2.2.2.2.2.in (e _ (by omega) (by omega))⟩
theorem mo_ok.p1 {dw' : Nat → Nat} (h : mo_ok c ad M N cd se op li dw sg sz rk tm) (hr : bv_I (c 0) M' 81 8 (fun i => nI (dw' i))) (e : ∀ q, q ≠ 81 → M' q = M q) : mo_ok c ad M' N cd se op li dw' sg sz rk tm := ⟨(e 80 (by omega)).trans h.1, hr, h.2.2.1.in (e _ (by omega)), h.2.2.2.1.in (e _ (by omega)), h.2.2.2.2.1.in (e _ (by omega)), h.2.2.2.2.2.in (e _ (by omega))⟩
theorem mo_ok.p2 {sg' : Nat → Nat} (h : mo_ok c ad M N cd se op li dw sg sz rk tm) (hr : bv_I (c 0) M' 82 12 (fun i => nI (sg' i))) (e : ∀ q, q ≠ 82 → M' q = M q) : mo_ok c ad M' N cd se op li dw sg' sz rk tm := ⟨(e 80 (by omega)).trans h.1, h.2.1.in (e _ (by omega)), hr, h.2.2.2.1.in (e _ (by omega)), h.2.2.2.2.1.in (e _ (by omega)), h.2.2.2.2.2.in (e _ (by omega))⟩
theorem mo_ok.p3 {sz' : Nat → Nat} (h : mo_ok c ad M N cd se op li dw sg sz rk tm) (hr : bv_I (c 0) M' 83 12 (fun i => nI (sz' i))) (e : ∀ q, q ≠ 83 → M' q = M q) : mo_ok c ad M' N cd se op li dw sg sz' rk tm := ⟨(e 80 (by omega)).trans h.1, h.2.1.in (e _ (by omega)), h.2.2.1.in (e _ (by omega)), hr, h.2.2.2.2.1.in (e _ (by omega)), h.2.2.2.2.2.in (e _ (by omega))⟩
theorem mo_ok.p4 {rk' : Nat → Nat → Int32} (h : mo_ok c ad M N cd se op li dw sg sz rk tm) (hr : bv_I (c 0) M' 84 72 (fun j => rk' (j / 6) (j % 6))) (e : ∀ q, q ≠ 84 → M' q = M q) : mo_ok c ad M' N cd se op li dw sg sz rk' tm := ⟨(e 80 (by omega)).trans h.1, h.2.1.in (e _ (by omega)), h.2.2.1.in (e _ (by omega)), h.2.2.2.1.in (e _ (by omega)), hr, h.2.2.2.2.2.in (e _ (by omega))⟩
theorem mo_ok.p5 {tm' : Nat → Nat → Nat} (h : mo_ok c ad M N cd se op li dw sg sz rk tm) (hr : bv_I (c 0) M' 85 72 (fun j => nI (tm' (j / 6) (j % 6)))) (e : ∀ q, q ≠ 85 → M' q = M q) : mo_ok c ad M' N cd se op li dw sg sz rk tm' := ⟨(e 80 (by omega)).trans h.1, h.2.1.in (e _ (by omega)), h.2.2.1.in (e _ (by omega)), h.2.2.2.1.in (e _ (by omega)), h.2.2.2.2.1.in (e _ (by omega)), hr⟩
end V
def mo_all (c : Nat → ClassId) (ad : Nat → Nat) (M : bj_M) (N : Nat) (cd : Int32) (se : Bool) (op : Nat) (dw sg sz : Nat → Nat) (rk : Nat → Nat → Int32) (tm : Nat → Nat → Nat) : Prop := (∃ li, mo_ok c ad M N cd se op li dw sg sz rk tm) ∧ mo_sc c M
/-- after a call: the code, the state -/
def mo_st (c : Nat → ClassId) (ad : Nat → Nat) (M : bj_M) (N : Nat) (se : Bool) (op : Nat) (dw sg sz : Nat → Nat) (rk : Nat → Nat → Int32) (tm : Nat → Nat → Nat) (k : Nat) (M' : bj_M) : Prop := mo_all c ad M' N (nI k) se op dw sg sz rk tm ∧ mo_fr M M'
/-- a call's post: code k, answer where it is 0; the state after (Gd where 0, else Bd); a method that answers an int does so also where it tells a code -/
def shp (b : Bool) (r : Option Value) : Prop := (b = true → ∃ y, r = some (.int y)) ∧ (b = false → r = none)
def q_mod (b : Bool) (R : Nat → Option Value → Prop) (Gd Bd : Nat → bj_M → Prop) : bj_R → bj_M → Prop := bj_ret (fun r M' => ∃ k, R k (if k = 0 then r else none) ∧ (if k = 0 then Gd k M' else Bd k M') ∧ k < 4 ∧ shp b r)
theorem q_mod0 {b : Bool} {R : Nat → Option Value → Prop} {Gd Bd : Nat → bj_M → Prop} {r : Option Value} {M' : bj_M} (h : R 0 r) (h2 : Gd 0 M') (hs : shp b r := by first | exact ⟨fun _ => ⟨_, rfl⟩, fun h => absurd h (by decide)⟩ | exact ⟨fun h => absurd h (by decide), fun _ => rfl⟩) : q_mod b R Gd Bd (.inl r) M' := ⟨0, h, h2, by decide, hs⟩
theorem q_modn {b : Bool} {R : Nat → Option Value → Prop} {Gd Bd : Nat → bj_M → Prop} {r : Option Value} {M' : bj_M} (k : Nat) (hk : k ≠ 0) (h4 : k < 4) (h : R k none) (h2 : Bd k M') (hs : shp b r := by first | exact ⟨fun _ => ⟨_, rfl⟩, fun h => absurd h (by decide)⟩ | exact ⟨fun h => absurd h (by decide), fun _ => rfl⟩) : q_mod b R Gd Bd (.inl r) M' := ⟨k, by rw [if_neg hk]; exact h, by rw [if_neg hk]; exact h2, h4, hs⟩
def rm2 (dw : Nat → Nat) (N fr i x : Nat) : Nat := if i < x ∧ x < N then mv1 dw fr (N - 1) (x - 1) else mv1 dw fr (N - 1) x
theorem rm2_0 {dw : Nat → Nat} {N fr x : Nat} : mv1 dw fr (N - 1) x = rm2 dw N fr (N - 1) x := by
  unfold rm2
  rw [if_neg (by omega)]
theorem rm2_s {dw : Nat → Nat} {N fr i x : Nat} (h0 : 0 < i) (hi : i < N) : va_up (rm2 dw N fr i) i (rm2 dw N fr i (i - 1)) x = rm2 dw N fr (i - 1) x := by
  by_cases e : x = i
  · subst e
    rw [va_up_self]
    unfold rm2
    rw [if_neg (by omega), if_pos (by omega)]
  · rw [va_up_ne _ _ e]
    unfold rm2
    by_cases e2 : i < x ∧ x < N
    · rw [if_pos e2, if_pos (by omega)]
    · rw [if_neg e2, if_neg (by omega)]
theorem rm2_e {dw : Nat → Nat} {N fr pl x : Nat} (hf : fr < N) (hp : pl < N) : va_up (rm2 dw N fr pl) pl (dw fr) x = tdw dw fr pl x := by
  unfold tdw
  by_cases e : x = pl
  · subst e
    rw [va_up_self, if_pos rfl]
  · rw [va_up_ne _ _ e, if_neg e]
    unfold rm2 mv1
    by_cases e1 : pl < x ∧ x < N
    · rw [if_pos e1, if_neg (show ¬ (fr ≤ x ∧ x < pl) by omega)]
      by_cases e2 : x ≤ fr
      · rw [if_neg (by omega), if_pos (by omega)]
      · rw [if_pos (by omega), if_neg (by omega), show x - 1 + 1 = x by omega]
    · rw [if_neg e1]
      by_cases e2 : fr ≤ x ∧ x < pl
      · rw [if_pos (by omega), if_pos e2]
      · rw [if_neg e2]
        rw [if_neg (by omega), if_neg (by omega)]
def vpart (sg sz : Nat → Nat) (tm : Nat → Nat → Nat) (b : Nat) : Nat := sm (fun j => if sg j = 1 then sm (tm j) (sz j) else 0) b
theorem sm_ext {f : Nat → Nat} {m : Nat} : ∀ n, m ≤ n → (∀ i, m ≤ i → i < n → f i = 0) → sm f m = sm f n
  | 0, h, _ => by rw [show m = 0 by omega]
  | n + 1, h, hz => by
    by_cases e : m = n + 1
    · rw [e]
    · rw [sm, ← sm_ext n (by omega) (fun i h1 h2 => hz i h1 (by omega)), hz n (by omega) (by omega)]
      rfl
variable (l : Launch) (D : va_G) (c : Nat → ClassId) (ad : Nat → Nat) (M : bj_M)
set_option maxRecDepth 100000 in
set_option maxHeartbeats 4000000 in
/-- thrown -/
theorem t_Mo_thrown {N op : Nat} {cd li : Int32} {se : Bool} {dw sg sz : Nat → Nat} {rk : Nat → Nat → Int32} {tm : Nat → Nat → Nat} (hm0 : mo_ok c ad M N cd se op li dw sg sz rk tm) (hN : N ≤ 8)  : bj_T (bw_G l D c) Y_Mo_thrown 0 (0, 0, 0, 0) ad (bj_fn cd M) [.ref (ad 80)] M := by
  show bj_S _ _ _ _ _ _ 0 0 0 [some (.ref (ad 80))] [] M
  refine bj_aload_n d_Mo_thrown_0 rfl rfl ?_
  refine bj_get d_Mo_thrown_1 in_Mo rfl (by decide : 1 < 17) wf_Mo_51 rfl hm0.1 rfl ?_
  exact bj_iret d_Mo_thrown_4 rfl rfl (Nat.le_refl _) (Nat.le_refl _) ⟨rfl, rfl⟩
set_option maxRecDepth 100000 in
set_option maxHeartbeats 4000000 in
/-- isCandidate -/
theorem t_Mo_isCandidate {N op : Nat} {cd li : Int32} {se : Bool} {dw sg sz : Nat → Nat} {rk : Nat → Nat → Int32} {tm : Nat → Nat → Nat} (hm0 : mo_ok c ad M N cd se op li dw sg sz rk tm) (hN : N ≤ 8) {x : Int32} : bj_T (bw_G l D c) Y_Mo_isCandidate 0 (0, 0, 0, 0) ad (bj_fn (bt_n (ic N x)) M) [.ref (ad 80), .int x] M := by
  show bj_S _ _ _ _ _ _ 0 0 0 [some (.ref (ad 80)), some (.int x)] [] M
  refine bj_iload_n d_Mo_isCandidate_0 rfl rfl ?_
  refine bj_if_lt (tgt := 16) d_Mo_isCandidate_1 (by decide) (fun h1 => ?_) (fun h1 => ?_)
  · refine bj_iconst (v := (nI 0)) d_Mo_isCandidate_16 (by decide) ?_
    exact bj_iret d_Mo_isCandidate_17 rfl rfl (Nat.le_refl _) (Nat.le_refl _) ⟨bt_f (decide_eq_false (fun q => by first | exact q.1 h1 | exact q.2 h9)), rfl⟩
  · refine bj_iload_n d_Mo_isCandidate_4 rfl rfl ?_
    refine bj_aload_n d_Mo_isCandidate_5 rfl rfl ?_
    refine bj_get d_Mo_isCandidate_6 in_Mo rfl (by decide : 0 < 17) wf_Mo_47 rfl hm0.1 rfl ?_
    refine bj_icmp_ge (tgt := 16) d_Mo_isCandidate_9 (by decide) (fun h9 => ?_) (fun h9 => ?_)
    · refine bj_iconst (v := (nI 0)) d_Mo_isCandidate_16 (by decide) ?_
      exact bj_iret d_Mo_isCandidate_17 rfl rfl (Nat.le_refl _) (Nat.le_refl _) ⟨bt_f (decide_eq_false (fun q => by first | exact q.1 h1 | exact q.2 h9)), rfl⟩
    · refine bj_iconst (v := (nI 1)) d_Mo_isCandidate_12 (by decide) ?_
      refine bj_goto (tgt := 17) d_Mo_isCandidate_13 (by decide) ?_
      exact bj_iret d_Mo_isCandidate_17 rfl rfl (Nat.le_refl _) (Nat.le_refl _) ⟨bt_t (decide_eq_true ⟨h1, h9⟩), rfl⟩
set_option maxRecDepth 100000 in
set_option maxHeartbeats 4000000 in
/-- isBatch -/
theorem t_Mo_isBatch {N op : Nat} {cd li : Int32} {se : Bool} {dw sg sz : Nat → Nat} {rk : Nat → Nat → Int32} {tm : Nat → Nat → Nat} (hm0 : mo_ok c ad M N cd se op li dw sg sz rk tm) (hN : N ≤ 8) {x : Int32} : bj_T (bw_G l D c) Y_Mo_isBatch 0 (0, 0, 0, 0) ad (bj_fn (bt_n (ic op x)) M) [.ref (ad 80), .int x] M := by
  show bj_S _ _ _ _ _ _ 0 0 0 [some (.ref (ad 80)), some (.int x)] [] M
  refine bj_iload_n d_Mo_isBatch_0 rfl rfl ?_
  refine bj_if_lt (tgt := 16) d_Mo_isBatch_1 (by decide) (fun h1 => ?_) (fun h1 => ?_)
  · refine bj_iconst (v := (nI 0)) d_Mo_isBatch_16 (by decide) ?_
    exact bj_iret d_Mo_isBatch_17 rfl rfl (Nat.le_refl _) (Nat.le_refl _) ⟨bt_f (decide_eq_false (fun q => by first | exact q.1 h1 | exact q.2 h9)), rfl⟩
  · refine bj_iload_n d_Mo_isBatch_4 rfl rfl ?_
    refine bj_aload_n d_Mo_isBatch_5 rfl rfl ?_
    refine bj_get d_Mo_isBatch_6 in_Mo rfl (by decide : 4 < 17) wf_Mo_54 rfl hm0.1 rfl ?_
    refine bj_icmp_ge (tgt := 16) d_Mo_isBatch_9 (by decide) (fun h9 => ?_) (fun h9 => ?_)
    · refine bj_iconst (v := (nI 0)) d_Mo_isBatch_16 (by decide) ?_
      exact bj_iret d_Mo_isBatch_17 rfl rfl (Nat.le_refl _) (Nat.le_refl _) ⟨bt_f (decide_eq_false (fun q => by first | exact q.1 h1 | exact q.2 h9)), rfl⟩
    · refine bj_iconst (v := (nI 1)) d_Mo_isBatch_12 (by decide) ?_
      refine bj_goto (tgt := 17) d_Mo_isBatch_13 (by decide) ?_
      exact bj_iret d_Mo_isBatch_17 rfl rfl (Nat.le_refl _) (Nat.le_refl _) ⟨bt_t (decide_eq_true ⟨h1, h9⟩), rfl⟩
set_option maxRecDepth 100000 in
set_option maxHeartbeats 4000000 in
/-- place -/
theorem t_Mo_place {w : Int32} {i : Nat} (hi : i < 8) : bj_T (bw_G l D c) Y_Mo_place 0 (0, 0, 0, 0) ad (bj_fn (nI (nb w i)) M) [.int w, .int (nI i)] M := by
  show bj_S _ _ _ _ _ _ 0 0 0 [some (.int w), some (.int (nI i))] [] M
  refine bj_iload_n d_Mo_place_0 rfl rfl ?_
  refine bj_iconst (v := (nI 4)) d_Mo_place_1 (by decide) ?_
  refine bj_iload_n d_Mo_place_2 rfl rfl ?_
  refine bj_imul (v := (nI (4 * i))) d_Mo_place_3 (pk_mul _ _) ?_
  refine bj_iushr (v := (w.toUInt32 >>> ((nI (4 * i)).toUInt32 &&& Int32.toUInt32 31)).toInt32) d_Mo_place_4 rfl ?_
  refine bj_bipush (v := (nI 15)) d_Mo_place_5 (by decide) ?_
  refine bj_iand (v := (nI (nb w i))) d_Mo_place_7 (nb_get w hi) ?_
  exact bj_iret d_Mo_place_8 rfl rfl (Nat.le_refl _) (Nat.le_refl _) ⟨rfl, rfl⟩
set_option maxRecDepth 100000 in
set_option maxHeartbeats 4000000 in
/-- placeOf -/
theorem t_Mo_placeOf {N op : Nat} {cd li : Int32} {se : Bool} {dw sg sz : Nat → Nat} {rk : Nat → Nat → Int32} {tm : Nat → Nat → Nat} (hm0 : mo_ok c ad M N cd se op li dw sg sz rk tm) (hN : N ≤ 8) {ps : Nat → Nat} {a : Nat} (hpm : pm_ok N dw ps) (ha : a < N) : bj_T (bw_G l D c) Y_Mo_placeOf 0 (0, 0, 0, 0) ad (bj_fn (nI (ps a)) M) [.ref (ad 80), .int (nI a)] M := by
  show bj_S _ _ _ _ _ _ 0 0 0 [some (.ref (ad 80)), some (.int (nI a)), none] [] M
  have hps := hpm.2 a ha
  refine bj_iconst (v := (nI 0)) d_Mo_placeOf_0 (by decide) ?_
  refine bj_istore_n (L' := [some (.ref (ad 80)), some (.int (nI a)), some (.int (nI 0))]) d_Mo_placeOf_1 rfl (by decide) rfl ?_
  have lp : ∀ (i : Nat), (i ≤ ps a) → bj_S (bw_G l D c) Y_Mo_placeOf 0 (0, 0, 0, 0) ad (bj_fn (nI (ps a)) M) 0 0 2 [some (.ref (ad 80)), some (.int (nI a)), some (.int (nI i))] [] M := by
    intro i
    induction hd_lp : N - i using Nat.strongRecOn generalizing i with
    | ind d_lp ih_lp =>
      intro hi
      refine bj_aload_n d_Mo_placeOf_2 rfl rfl ?_
      refine bj_get d_Mo_placeOf_3 in_Mo rfl (by decide : 3 < 17) wf_Mo_7 rfl hm0.1 rfl ?_
      refine bj_iload_n d_Mo_placeOf_6 rfl rfl ?_
      refine bv_iald d_Mo_placeOf_7 0 rfl hm0.2.1 (by omega) (by first | omega | exact Nat.lt_trans (hpm.1 i (by omega)).1 (by omega)) rfl ?_
      refine bj_iload_n d_Mo_placeOf_8 rfl rfl ?_
      refine bj_icmp_eqN (tgt := 18) d_Mo_placeOf_9 (by decide) (by first | omega | exact Nat.lt_trans (hpm.1 i (by omega)).1 (by omega)) (by first | omega | exact Nat.lt_trans (hpm.1 i (by omega)).1 (by omega)) (fun h9 => ?_) (fun h9 => ?_)
      · refine bj_iload_n d_Mo_placeOf_18 rfl rfl ?_
        exact bj_iret d_Mo_placeOf_19 rfl rfl (Nat.le_refl _) (Nat.le_refl _) ⟨by rw [show i = ps a by rw [← h9]; exact (hpm.1 i (by omega)).2.symm], rfl⟩
      · have hz : i ≠ ps a := fun e => h9 (by rw [e]; exact hps.2)
        refine bj_iinc (v := (nI (i + 1))) (L' := [some (.ref (ad 80)), some (.int (nI a)), some (.int (nI (i + 1)))]) d_Mo_placeOf_12 rfl (bj_inc1 _) (by decide) rfl ?_
        refine bj_goto (tgt := 2) d_Mo_placeOf_15 (by decide) ?_
        exact ih_lp (N - (i + 1)) (by omega) (i + 1) rfl (by omega)
  exact lp 0 (Nat.zero_le _)
set_option maxRecDepth 100000 in
set_option maxHeartbeats 4000000 in
/-- isRanking -/
theorem t_Mo_isRanking {N op : Nat} {cd li : Int32} {se : Bool} {dw sg sz : Nat → Nat} {rk : Nat → Nat → Int32} {tm : Nat → Nat → Nat} (hm0 : mo_ok c ad M N cd se op li dw sg sz rk tm) (hN : N ≤ 8) {w : Int32} : bj_T (bw_G l D c) Y_Mo_isRanking 1 (0, 0, 0, 0) ad (q_b M (rkg N w)) [.ref (ad 80), .int w] M := by
  show bj_S _ _ _ _ _ _ 0 0 0 [some (.ref (ad 80)), some (.int w), none, none] [] M
  refine bj_iconst (v := (nI 1)) d_Mo_isRanking_0 (by decide) ?_
  refine bj_istore_n (L' := [some (.ref (ad 80)), some (.int w), some (.int (nI 1)), none]) d_Mo_isRanking_1 rfl (by decide) rfl ?_
  refine bj_iconst (v := (nI 0)) d_Mo_isRanking_2 (by decide) ?_
  refine bj_istore_n (L' := [some (.ref (ad 80)), some (.int w), some (.int (nI 1)), some (.int (nI 0))]) d_Mo_isRanking_3 rfl (by decide) rfl ?_
  have lp : ∀ (i : Nat), ∀ (g : Bool), (i ≤ 8) → (g = true ↔ ∀ j, j < i → nb w j ≤ (if j < N then 8 else 0)) → bj_S (bw_G l D c) Y_Mo_isRanking 1 (0, 0, 0, 0) ad (q_b M (rkg N w)) 0 0 4 [some (.ref (ad 80)), some (.int w), some (.int (bt_n g)), some (.int (nI i))] [] M := by
    intro i g
    induction hd_lp : 8 - i using Nat.strongRecOn generalizing i g with
    | ind d_lp ih_lp =>
      intro hi hq
      refine bj_iload_n d_Mo_isRanking_4 rfl rfl ?_
      refine bj_bipush (v := (nI 8)) d_Mo_isRanking_5 (by decide) ?_
      refine bj_icmp_geN (tgt := 48) d_Mo_isRanking_7 (by decide) (by first | omega | exact Nat.lt_trans (nb_lt w i) (by decide)) (by first | omega | exact Nat.lt_trans (nb_lt w i) (by decide)) (fun h7 => ?_) (fun h7 => ?_)
      · refine bj_iload_n d_Mo_isRanking_48 rfl rfl ?_
        exact bj_iret d_Mo_isRanking_49 rfl nar_bt (Nat.le_refl _) (Nat.le_refl _) ⟨g, rfl, hq.trans ⟨fun q j hj => q j (by omega), fun q j hj => q j (by omega)⟩, rfl⟩
      · refine bj_iload_n d_Mo_isRanking_10 rfl rfl ?_
        refine bj_if_eq (tgt := 40) d_Mo_isRanking_11 (by decide) (fun h11 => ?_) (fun h11 => ?_)
        · refine bj_iconst (v := (nI 0)) d_Mo_isRanking_40 (by decide) ?_
          refine bj_istore_n (L' := [some (.ref (ad 80)), some (.int w), some (.int (nI 0)), some (.int (nI i))]) d_Mo_isRanking_41 rfl (by decide) rfl ?_
          refine bj_iinc (v := (nI (i + 1))) (L' := [some (.ref (ad 80)), some (.int w), some (.int (nI 0)), some (.int (nI (i + 1)))]) d_Mo_isRanking_42 rfl (bj_inc1 _) (by decide) rfl ?_
          refine bj_goto (tgt := 4) d_Mo_isRanking_45 (by decide) ?_
          exact ih_lp (8 - (i + 1)) (by omega) (i + 1) false rfl (by omega) ⟨fun e => (by cases e), fun q => by first | exact absurd (q i (by omega)) hz | (have := hq.mpr (fun j hj => q j (by omega)); rw [this] at h11; exact absurd h11 (by decide))⟩
        · refine bj_iload_n d_Mo_isRanking_14 rfl rfl ?_
          refine bj_iload_n d_Mo_isRanking_15 rfl rfl ?_
          refine bj_csF ss_Mo_69 d_Mo_isRanking_16 (t_Mo_place l D c ad M (by omega)) rfl rfl (by decide) (by decide) (by decide) (Nat.le_of_ble_eq_true rfl) rfl ?_
          refine bj_iload_n d_Mo_isRanking_19 rfl rfl ?_
          refine bj_aload_n d_Mo_isRanking_20 rfl rfl ?_
          refine bj_get d_Mo_isRanking_21 in_Mo rfl (by decide : 0 < 17) wf_Mo_47 rfl hm0.1 rfl ?_
          refine bj_icmp_geN (tgt := 32) d_Mo_isRanking_24 (by decide) (by first | omega | exact Nat.lt_trans (nb_lt w i) (by decide)) (by first | omega | exact Nat.lt_trans (nb_lt w i) (by decide)) (fun h24 => ?_) (fun h24 => ?_)
          · have he : (if i < N then 8 else 0) = 0 := if_neg (by omega)
            refine bj_iconst (v := (nI 0)) d_Mo_isRanking_32 (by decide) ?_
            refine bj_icmp_gtN (tgt := 40) d_Mo_isRanking_33 (by decide) (by first | omega | exact Nat.lt_trans (nb_lt w i) (by decide)) (by first | omega | exact Nat.lt_trans (nb_lt w i) (by decide)) (fun h33 => ?_) (fun h33 => ?_)
            · have hz : ¬ nb w i ≤ (if i < N then 8 else 0) := by rw [he]; omega
              refine bj_iconst (v := (nI 0)) d_Mo_isRanking_40 (by decide) ?_
              refine bj_istore_n (L' := [some (.ref (ad 80)), some (.int w), some (.int (nI 0)), some (.int (nI i))]) d_Mo_isRanking_41 rfl (by decide) rfl ?_
              refine bj_iinc (v := (nI (i + 1))) (L' := [some (.ref (ad 80)), some (.int w), some (.int (nI 0)), some (.int (nI (i + 1)))]) d_Mo_isRanking_42 rfl (bj_inc1 _) (by decide) rfl ?_
              refine bj_goto (tgt := 4) d_Mo_isRanking_45 (by decide) ?_
              exact ih_lp (8 - (i + 1)) (by omega) (i + 1) false rfl (by omega) ⟨fun e => (by cases e), fun q => by first | exact absurd (q i (by omega)) hz | (have := hq.mpr (fun j hj => q j (by omega)); rw [this] at h11; exact absurd h11 (by decide))⟩
            · have hz : nb w i ≤ (if i < N then 8 else 0) := by rw [he]; exact h33
              refine bj_iconst (v := (nI 1)) d_Mo_isRanking_36 (by decide) ?_
              refine bj_goto (tgt := 41) d_Mo_isRanking_37 (by decide) ?_
              refine bj_istore_n (L' := [some (.ref (ad 80)), some (.int w), some (.int (nI 1)), some (.int (nI i))]) d_Mo_isRanking_41 rfl (by decide) rfl ?_
              refine bj_iinc (v := (nI (i + 1))) (L' := [some (.ref (ad 80)), some (.int w), some (.int (nI 1)), some (.int (nI (i + 1)))]) d_Mo_isRanking_42 rfl (bj_inc1 _) (by decide) rfl ?_
              refine bj_goto (tgt := 4) d_Mo_isRanking_45 (by decide) ?_
              exact ih_lp (8 - (i + 1)) (by omega) (i + 1) true rfl (by omega) ⟨fun _ j hj => by
                rcases Nat.lt_or_ge j i with q | q
                · exact hq.mp (bt_nn h11) j q
                · rw [show j = i by omega]; exact hz, fun _ => rfl⟩
          · have he : (if i < N then 8 else 0) = 8 := if_pos h24
            refine bj_bipush (v := (nI 8)) d_Mo_isRanking_27 (by decide) ?_
            refine bj_goto (tgt := 33) d_Mo_isRanking_29 (by decide) ?_
            refine bj_icmp_gtN (tgt := 40) d_Mo_isRanking_33 (by decide) (by first | omega | exact Nat.lt_trans (nb_lt w i) (by decide)) (by first | omega | exact Nat.lt_trans (nb_lt w i) (by decide)) (fun h33 => ?_) (fun h33 => ?_)
            · have hz : ¬ nb w i ≤ (if i < N then 8 else 0) := by rw [he]; omega
              refine bj_iconst (v := (nI 0)) d_Mo_isRanking_40 (by decide) ?_
              refine bj_istore_n (L' := [some (.ref (ad 80)), some (.int w), some (.int (nI 0)), some (.int (nI i))]) d_Mo_isRanking_41 rfl (by decide) rfl ?_
              refine bj_iinc (v := (nI (i + 1))) (L' := [some (.ref (ad 80)), some (.int w), some (.int (nI 0)), some (.int (nI (i + 1)))]) d_Mo_isRanking_42 rfl (bj_inc1 _) (by decide) rfl ?_
              refine bj_goto (tgt := 4) d_Mo_isRanking_45 (by decide) ?_
              exact ih_lp (8 - (i + 1)) (by omega) (i + 1) false rfl (by omega) ⟨fun e => (by cases e), fun q => by first | exact absurd (q i (by omega)) hz | (have := hq.mpr (fun j hj => q j (by omega)); rw [this] at h11; exact absurd h11 (by decide))⟩
            · have hz : nb w i ≤ (if i < N then 8 else 0) := by rw [he]; exact h33
              refine bj_iconst (v := (nI 1)) d_Mo_isRanking_36 (by decide) ?_
              refine bj_goto (tgt := 41) d_Mo_isRanking_37 (by decide) ?_
              refine bj_istore_n (L' := [some (.ref (ad 80)), some (.int w), some (.int (nI 1)), some (.int (nI i))]) d_Mo_isRanking_41 rfl (by decide) rfl ?_
              refine bj_iinc (v := (nI (i + 1))) (L' := [some (.ref (ad 80)), some (.int w), some (.int (nI 1)), some (.int (nI (i + 1)))]) d_Mo_isRanking_42 rfl (bj_inc1 _) (by decide) rfl ?_
              refine bj_goto (tgt := 4) d_Mo_isRanking_45 (by decide) ?_
              exact ih_lp (8 - (i + 1)) (by omega) (i + 1) true rfl (by omega) ⟨fun _ j hj => by
                rcases Nat.lt_or_ge j i with q | q
                · exact hq.mp (bt_nn h11) j q
                · rw [show j = i by omega]; exact hz, fun _ => rfl⟩
  exact lp 0 true (Nat.zero_le _) ⟨fun _ j hj => absurd hj (Nat.not_lt_zero _), fun _ => rfl⟩
end M1
