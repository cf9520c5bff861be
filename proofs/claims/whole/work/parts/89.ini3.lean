/-! constructors: BeatPaths, Locks (walks by gen/m_ini3.py); a cell's number is its address -/
section I3

def q_iPa (c : Nat → ClassId) (M : bj_M) (q N : Nat) : bj_R → bj_M → Prop := bj_ret (fun r M' => r = none ∧ ∃ o z, (∀ i, i ≤ N → M (o + i) = none) ∧ M z = none ∧ ¬ (o ≤ z ∧ z ≤ o + N) ∧ M' q = some (.inr (1, [.int (nI N), .ref o, .ref z])) ∧ gd_ok c M' o N ∧ bv_I (c 0) M' z N (fun _ => 0) ∧ ∀ x, x ≠ q → x ≠ z → ¬ (o ≤ x ∧ x ≤ o + N) → M' x = M x)
def q_iLo (c : Nat → ClassId) (M : bj_M) (q N : Nat) : bj_R → bj_M → Prop := bj_ret (fun r M' => r = none ∧ ∃ a1 a2 a3 a4, M a1 = none ∧ M a2 = none ∧ M a3 = none ∧ M a4 = none ∧ a1 ≠ a2 ∧ a1 ≠ a3 ∧ a1 ≠ a4 ∧ a2 ≠ a3 ∧ a2 ≠ a4 ∧ a3 ≠ a4 ∧ M' q = some (.inr (3, [.int (nI N), .ref a1, .ref a2, .ref a3, .ref a4, .int (nI 0)])) ∧ bv_I (c 0) M' a1 N (fun _ => 0) ∧ bv_I (c 0) M' a2 N (fun _ => 0) ∧ bv_I (c 0) M' a3 (N * N) (fun _ => 0) ∧ bv_I (c 0) M' a4 (N * N) (fun _ => 0) ∧ ∀ x, x ≠ q → x ≠ a1 → x ≠ a2 → x ≠ a3 → x ≠ a4 → M' x = M x)
variable (l : Launch) (D : va_G) (c : Nat → ClassId) (M : bj_M)
set_option maxRecDepth 100000 in
set_option maxHeartbeats 4000000 in
/-- new BeatPaths -/
theorem t_Pa_init {q N : Nat} (hN : N ≤ 8) (h0 : M q = some (.inr (1, [.int (nI 0), .null, .null]))) : bj_T (bw_G l D c) Y_Pa_init 1 (2 + N, N + N * N + N, 0, 0) (fun k => k) (q_iPa c M q N) [.ref q, .int (nI N)] M := by
  show bj_S _ _ _ _ _ _ 0 0 0 [some (.ref q), some (.int (nI N))] [] M
  refine bj_aload_n d_Pa_init_0 rfl rfl ?_
  refine bj_oini d_Pa_init_1 wob_Pa wob_2 wob_3 (by decide) (Nat.le_of_ble_eq_true rfl) ?_
  refine bj_aload_n d_Pa_init_4 rfl rfl ?_
  refine bj_iload_n d_Pa_init_5 rfl rfl ?_
  refine bj_putF d_Pa_init_6 in_Pa ok_Pa nm_Pa rfl (by decide : 0 < 3) wf_Pa_9 rfl rfl rfl rfl rfl rfl rfl (Nat.le_of_ble_eq_true rfl) h0 ?_
  have hq1 : (va_up M q (some (.inr (1, [.int (nI N), .null, .null])))) q = some (.inr (1, [.int (nI N), .null, .null])) := va_up_self _ _ _
  have hf1 : ∀ x, x ≠ q → (va_up M q (some (.inr (1, [.int (nI N), .null, .null])))) x = M x := fun x hx => va_up_ne _ _ hx
  show bj_S _ _ _ _ _ _ _ _ _ _ [] (va_up M q (some (.inr (1, [.int (nI N), .null, .null]))))
  generalize va_up M q (some (.inr (1, [.int (nI N), .null, .null]))) = P1 at hq1 hf1 ⊢
  refine bj_aload_n d_Pa_init_9 rfl rfl ?_
  refine bj_iload_n d_Pa_init_10 rfl rfl ?_
  refine bj_iload_n d_Pa_init_11 rfl rfl ?_
  refine bj_mna d_Pa_init_12 rfl rfl wc_Pa_15 wz_60 wz_52 hN (by show 0 + (1 + N) ≤ (2 + N) + 0; omega) (by show 0 + (N + N * N) ≤ (N + N * N + N) + 0; omega) (fun o ho => ?_)
  have hno : ¬ (o ≤ q ∧ q ≤ o + N) := fun e => by have h9 := ho (q - o) (by omega); rw [show o + (q - o) = q by omega, hq1] at h9; cases h9
  have hq2 : (bm_M P1 (c 4) (c 0) N o) q = some (.inr (1, [.int (nI N), .null, .null])) := (bm_old hno).trans hq1
  have hgd : gd_ok c (bm_M P1 (c 4) (c 0) N o) o N := gd_new
  have hf2 : ∀ x, ¬ (o ≤ x ∧ x ≤ o + N) → (bm_M P1 (c 4) (c 0) N o) x = P1 x := fun x hx => bm_old hx
  show bj_S _ _ _ _ _ _ _ _ _ _ [.ref o, .ref q] (bm_M P1 (c 4) (c 0) N o)
  generalize bm_M P1 (c 4) (c 0) N o = P2 at hq2 hgd hf2 ⊢
  refine bj_putF d_Pa_init_16 in_Pa ok_Pa nm_Pa rfl (by decide : 1 < 3) wf_Pa_17 rfl rfl rfl rfl rfl rfl rfl (Nat.le_of_ble_eq_true rfl) hq2 ?_
  have hq3 : (va_up P2 q (some (.inr (1, [.int (nI N), .ref o, .null])))) q = some (.inr (1, [.int (nI N), .ref o, .null])) := va_up_self _ _ _
  have hf3 : ∀ x, x ≠ q → (va_up P2 q (some (.inr (1, [.int (nI N), .ref o, .null])))) x = P2 x := fun x hx => va_up_ne _ _ hx
  show bj_S _ _ _ _ _ _ _ _ _ _ [] (va_up P2 q (some (.inr (1, [.int (nI N), .ref o, .null]))))
  generalize va_up P2 q (some (.inr (1, [.int (nI N), .ref o, .null]))) = P3 at hq3 hf3 ⊢
  refine bj_aload_n d_Pa_init_19 rfl rfl ?_
  refine bj_iload_n d_Pa_init_20 rfl rfl ?_
  refine bj_newa (a0 := (N, .inl (fun _ => 0))) d_Pa_init_21 0 rfl wz_52 (fun cA => arrV_zero cA (N)) rfl (by omega) (by show (N) * 4 ≤ _; omega) (by show 0 + 1 + N + 1 ≤ (2 + N) + 0; omega) (by show 0 + N + N * N + N ≤ (N + N * N + N) + 0; omega) (fun z hz => ?_)
  have hnz : z ≠ q := fun e => by rw [e, hq3] at hz; cases hz
  have hq4 : (va_up P3 z (some (.inl (c 0, N, .inl (fun _ => 0))))) q = some (.inr (1, [.int (nI N), .ref o, .null])) := (va_up_ne _ _ (Ne.symm hnz)).trans hq3
  have haz : (va_up P3 z (some (.inl (c 0, N, .inl (fun _ => 0))))) z = some (.inl (c 0, N, .inl (fun _ => 0))) := va_up_self _ _ _
  have hf4 : ∀ x, x ≠ z → (va_up P3 z (some (.inl (c 0, N, .inl (fun _ => 0))))) x = P3 x := fun x hx => va_up_ne _ _ hx
  show bj_S _ _ _ _ _ _ _ _ _ _ [.ref z, .ref q] (va_up P3 z (some (.inl (c 0, N, .inl (fun _ => 0)))))
  generalize va_up P3 z (some (.inl (c 0, N, .inl (fun _ => 0)))) = P4 at hq4 haz hf4 ⊢
  refine bj_putF d_Pa_init_23 in_Pa ok_Pa nm_Pa rfl (by decide : 2 < 3) wf_Pa_20 rfl rfl rfl rfl rfl rfl rfl (Nat.le_of_ble_eq_true rfl) hq4 ?_
  have hq5 : (va_up P4 q (some (.inr (1, [.int (nI N), .ref o, .ref z])))) q = some (.inr (1, [.int (nI N), .ref o, .ref z])) := va_up_self _ _ _
  have hf5 : ∀ x, x ≠ q → (va_up P4 q (some (.inr (1, [.int (nI N), .ref o, .ref z])))) x = P4 x := fun x hx => va_up_ne _ _ hx
  show bj_S _ _ _ _ _ _ _ _ _ _ [] (va_up P4 q (some (.inr (1, [.int (nI N), .ref o, .ref z]))))
  generalize va_up P4 q (some (.inr (1, [.int (nI N), .ref o, .ref z]))) = P5 at hq5 hf5 ⊢
  have hg3 := hgd.in (fun x x1 x2 => hf3 x (fun e => hno (by omega)))
  have hzo : ¬ (o ≤ z ∧ z ≤ o + N) := fun e => by
    rcases Nat.eq_or_lt_of_le e.1 with r | r
    · obtain ⟨f9, h9, -⟩ := hg3.1
      rw [r, hz] at h9; cases h9
    · obtain ⟨f9, h9, -⟩ := hg3.2 (z - o - 1) (by omega)
      rw [show o + 1 + (z - o - 1) = z by omega, hz] at h9; cases h9
  have hz0 : M z = none := by rw [← hf1 z hnz, ← hf2 z hzo, ← hf3 z hnz]; exact hz
  exact bj_vret d_Pa_init_26 rfl (by show 0 + 1 + N + 1 ≤ 2 + N; omega) (by show 0 + N + N * N + N ≤ N + N * N + N; omega) ⟨rfl, o, z, fun i hi => (by have h9 := ho i hi; rwa [hf1 _ (fun e => hno (by omega))] at h9), hz0, hzo, hq5, (hg3.in (fun x x1 x2 => hf4 x (fun e => hzo (by omega)))).in (fun x x1 x2 => hf5 x (fun e => hno (by omega))), ⟨_, by rw [hf5 z hnz]; exact haz, fun _ _ => rfl⟩, fun x x1 x2 x3 => by rw [hf5 x x1, hf4 x x2, hf3 x x1, hf2 x x3, hf1 x x1]⟩
end I3
