/-! constructors: Count (walks by gen/m_ini2.py); a cell's number is its address -/
section I2

/-- a fresh grid at o -/
def gd_ok (c : Nat → ClassId) (M : bj_M) (o N : Nat) : Prop := bv_R (c 4) M o N (fun i => o + 1 + i) ∧ ∀ i, i < N → bv_I (c 0) M (o + 1 + i) N (fun _ => 0)
theorem gd_new {c : Nat → ClassId} {M : bj_M} {o N : Nat} : gd_ok c (bm_M M (c 4) (c 0) N o) o N := ⟨⟨_, if_pos rfl, fun j hj => if_pos hj⟩, fun i hi => ⟨_, by unfold bm_M; rw [if_neg (by omega), if_pos (by omega)], fun _ _ => rfl⟩⟩
theorem gd_ok.in {c : Nat → ClassId} {M M' : bj_M} {o N : Nat} (h : gd_ok c M o N) (e : ∀ x, o ≤ x → x ≤ o + N → M' x = M x) : gd_ok c M' o N := ⟨h.1.in (e _ (by omega) (by omega)), fun i hi => (h.2 i hi).in (e _ (by omega) (by omega))⟩
theorem bm_old {M : bj_M} {cA cI : ClassId} {o N x : Nat} (h : ¬ (o ≤ x ∧ x ≤ o + N)) : bm_M M cA cI N o x = M x := by
  unfold bm_M
  rw [if_neg (by omega), if_neg (by omega)]
def q_iCo (c : Nat → ClassId) (M : bj_M) (q N : Nat) : bj_R → bj_M → Prop := bj_ret (fun r M' => r = none ∧ ∃ o, (∀ i, i ≤ N → M (o + i) = none) ∧ M' q = some (.inr (2, [.int (nI N), .int (nI 0), .ref o])) ∧ gd_ok c M' o N ∧ ∀ x, x ≠ q → ¬ (o ≤ x ∧ x ≤ o + N) → M' x = M x)
variable (l : Launch) (D : va_G) (c : Nat → ClassId) (M : bj_M)
set_option maxRecDepth 100000 in
set_option maxHeartbeats 4000000 in
/-- new Count -/
theorem t_Co_init {q N : Nat} (hN : N ≤ 8) (h0 : M q = some (.inr (2, [.int (nI 0), .int (nI 0), .null]))) : bj_T (bw_G l D c) Y_Co_init 1 (1 + N, N + N * N, 0, 0) (fun k => k) (q_iCo c M q N) [.ref q, .int (nI N)] M := by
  show bj_S _ _ _ _ _ _ 0 0 0 [some (.ref q), some (.int (nI N))] [] M
  refine bj_aload_n d_Co_init_0 rfl rfl ?_
  refine bj_oini d_Co_init_1 wob_Co wob_2 wob_3 (by decide) (Nat.le_of_ble_eq_true rfl) ?_
  refine bj_aload_n d_Co_init_4 rfl rfl ?_
  refine bj_iload_n d_Co_init_5 rfl rfl ?_
  refine bj_putF d_Co_init_6 in_Co ok_Co nm_Co rfl (by decide : 0 < 3) wf_Co_9 rfl rfl rfl rfl rfl rfl rfl (Nat.le_of_ble_eq_true rfl) h0 ?_
  have hq1 : (va_up M q (some (.inr (2, [.int (nI N), .int (nI 0), .null])))) q = some (.inr (2, [.int (nI N), .int (nI 0), .null])) := va_up_self _ _ _
  have hf1 : ∀ x, x ≠ q → (va_up M q (some (.inr (2, [.int (nI N), .int (nI 0), .null])))) x = M x := fun x hx => va_up_ne _ _ hx
  show bj_S _ _ _ _ _ _ _ _ _ _ [] (va_up M q (some (.inr (2, [.int (nI N), .int (nI 0), .null]))))
  generalize va_up M q (some (.inr (2, [.int (nI N), .int (nI 0), .null]))) = P1 at hq1 hf1 ⊢
  refine bj_aload_n d_Co_init_9 rfl rfl ?_
  refine bj_iconst (v := (nI 0)) d_Co_init_10 (by decide) ?_
  refine bj_put d_Co_init_11 in_Co ok_Co nm_Co rfl (by decide : 1 < 3) wf_Co_15 rfl rfl rfl rfl rfl (Nat.le_of_ble_eq_true rfl) hq1 ?_
  have hq2 : (va_up P1 q (some (.inr (2, [.int (nI N), .int (nI 0), .null])))) q = some (.inr (2, [.int (nI N), .int (nI 0), .null])) := va_up_self _ _ _
  have hf2 : ∀ x, x ≠ q → (va_up P1 q (some (.inr (2, [.int (nI N), .int (nI 0), .null])))) x = P1 x := fun x hx => va_up_ne _ _ hx
  show bj_S _ _ _ _ _ _ _ _ _ _ [] (va_up P1 q (some (.inr (2, [.int (nI N), .int (nI 0), .null]))))
  generalize va_up P1 q (some (.inr (2, [.int (nI N), .int (nI 0), .null]))) = P2 at hq2 hf2 ⊢
  refine bj_aload_n d_Co_init_14 rfl rfl ?_
  refine bj_iload_n d_Co_init_15 rfl rfl ?_
  refine bj_iload_n d_Co_init_16 rfl rfl ?_
  refine bj_mna d_Co_init_17 rfl rfl wc_Co_18 wz_60 wz_52 hN (by show 0 + (1 + N) ≤ (1 + N) + 0; omega) (by show 0 + (N + N * N) ≤ (N + N * N) + 0; omega) (fun o ho => ?_)
  have hno : ¬ (o ≤ q ∧ q ≤ o + N) := fun e => by have h9 := ho (q - o) (by omega); rw [show o + (q - o) = q by omega, hq2] at h9; cases h9
  have hq3 : (bm_M P2 (c 4) (c 0) N o) q = some (.inr (2, [.int (nI N), .int (nI 0), .null])) := (bm_old hno).trans hq2
  have hgd : gd_ok c (bm_M P2 (c 4) (c 0) N o) o N := gd_new
  have hf3 : ∀ x, ¬ (o ≤ x ∧ x ≤ o + N) → (bm_M P2 (c 4) (c 0) N o) x = P2 x := fun x hx => bm_old hx
  show bj_S _ _ _ _ _ _ _ _ _ _ [.ref o, .ref q] (bm_M P2 (c 4) (c 0) N o)
  generalize bm_M P2 (c 4) (c 0) N o = P3 at hq3 hgd hf3 ⊢
  refine bj_putF d_Co_init_21 in_Co ok_Co nm_Co rfl (by decide : 2 < 3) wf_Co_20 rfl rfl rfl rfl rfl rfl rfl (Nat.le_of_ble_eq_true rfl) hq3 ?_
  have hq4 : (va_up P3 q (some (.inr (2, [.int (nI N), .int (nI 0), .ref o])))) q = some (.inr (2, [.int (nI N), .int (nI 0), .ref o])) := va_up_self _ _ _
  have hf4 : ∀ x, x ≠ q → (va_up P3 q (some (.inr (2, [.int (nI N), .int (nI 0), .ref o])))) x = P3 x := fun x hx => va_up_ne _ _ hx
  show bj_S _ _ _ _ _ _ _ _ _ _ [] (va_up P3 q (some (.inr (2, [.int (nI N), .int (nI 0), .ref o]))))
  generalize va_up P3 q (some (.inr (2, [.int (nI N), .int (nI 0), .ref o]))) = P4 at hq4 hf4 ⊢
  exact bj_vret d_Co_init_24 rfl (by show 0 + 1 + N ≤ 1 + N; omega) (by show 0 + N + N * N ≤ N + N * N; omega) ⟨rfl, o, fun i hi => (by have h9 := ho i hi; rwa [hf2 _ (fun e => hno (by omega)), hf1 _ (fun e => hno (by omega))] at h9), hq4, hgd.in (fun x x1 x2 => hf4 x (fun e => hno (by omega))), fun x x1 x2 => by rw [hf4 x x1, hf3 x x2, hf2 x x1, hf1 x x1]⟩
end I2
