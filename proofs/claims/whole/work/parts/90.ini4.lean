/-! constructors: Locks (walks by gen/m_ini4.py); a cell's number is its address -/
section I4
variable (l : Launch) (D : va_G) (c : Nat → ClassId) (M : bj_M)
set_option maxRecDepth 100000 in
set_option maxHeartbeats 4000000 in
/-- new Locks -/
theorem t_Lo_init {q N : Nat} (hN : N ≤ 8) (h0 : M q = some (.inr (3, [.int (nI 0), .null, .null, .null, .null, .int (nI 0)]))) : bj_T (bw_G l D c) Y_Lo_init 1 (4, N + N + N * N + N * N, 0, 0) (fun k => k) (q_iLo c M q N) [.ref q, .int (nI N)] M := by
  show bj_S _ _ _ _ _ _ 0 0 0 [some (.ref q), some (.int (nI N))] [] M
  have hnn := nn_le hN
  refine bj_aload_n d_Lo_init_0 rfl rfl ?_
  refine bj_oini d_Lo_init_1 wob_Lo wob_2 wob_3 (by decide) (Nat.le_of_ble_eq_true rfl) ?_
  refine bj_aload_n d_Lo_init_4 rfl rfl ?_
  refine bj_iload_n d_Lo_init_5 rfl rfl ?_
  refine bj_putF d_Lo_init_6 in_Lo ok_Lo nm_Lo rfl (by decide : 0 < 6) wf_Lo_9 rfl rfl rfl rfl rfl rfl rfl (Nat.le_of_ble_eq_true rfl) h0 ?_
  have hq1 : (va_up M q (some (.inr (3, [.int (nI N), .null, .null, .null, .null, .int (nI 0)])))) q = some (.inr (3, [.int (nI N), .null, .null, .null, .null, .int (nI 0)])) := va_up_self _ _ _
  have hf1 : ∀ x, x ≠ q → (va_up M q (some (.inr (3, [.int (nI N), .null, .null, .null, .null, .int (nI 0)])))) x = M x := fun x hx => va_up_ne _ _ hx
  show bj_S _ _ _ _ _ _ _ _ _ _ [] (va_up M q (some (.inr (3, [.int (nI N), .null, .null, .null, .null, .int (nI 0)]))))
  generalize va_up M q (some (.inr (3, [.int (nI N), .null, .null, .null, .null, .int (nI 0)]))) = P1 at hq1 hf1 ⊢
  refine bj_aload_n d_Lo_init_9 rfl rfl ?_
  refine bj_iload_n d_Lo_init_10 rfl rfl ?_
  refine bj_newa (a0 := (N, .inl (fun _ => 0))) d_Lo_init_11 0 rfl wz_52 (fun cA => arrV_zero cA (N)) rfl (by omega) (by show (N) * 4 ≤ _; omega) (by show 0 + 1 ≤ 4 + 0; omega) (by show 0 + N ≤ (N + N + N * N + N * N) + 0; omega) (fun a1 ha1 => ?_)
  have hna1 : a1 ≠ q := fun e => by rw [e, hq1] at ha1; cases ha1
  have hq2 : (va_up P1 a1 (some (.inl (c 0, N, .inl (fun _ => 0))))) q = some (.inr (3, [.int (nI N), .null, .null, .null, .null, .int (nI 0)])) := (va_up_ne _ _ (Ne.symm hna1)).trans hq1
  have haa1 : (va_up P1 a1 (some (.inl (c 0, N, .inl (fun _ => 0))))) a1 = some (.inl (c 0, N, .inl (fun _ => 0))) := va_up_self _ _ _
  have hf2 : ∀ x, x ≠ a1 → (va_up P1 a1 (some (.inl (c 0, N, .inl (fun _ => 0))))) x = P1 x := fun x hx => va_up_ne _ _ hx
  show bj_S _ _ _ _ _ _ _ _ _ _ [.ref a1, .ref q] (va_up P1 a1 (some (.inl (c 0, N, .inl (fun _ => 0)))))
  generalize va_up P1 a1 (some (.inl (c 0, N, .inl (fun _ => 0)))) = P2 at hq2 haa1 hf2 ⊢
  refine bj_putF d_Lo_init_13 in_Lo ok_Lo nm_Lo rfl (by decide : 1 < 6) wf_Lo_15 rfl rfl rfl rfl rfl rfl rfl (Nat.le_of_ble_eq_true rfl) hq2 ?_
  have hq3 : (va_up P2 q (some (.inr (3, [.int (nI N), .ref a1, .null, .null, .null, .int (nI 0)])))) q = some (.inr (3, [.int (nI N), .ref a1, .null, .null, .null, .int (nI 0)])) := va_up_self _ _ _
  have hf3 : ∀ x, x ≠ q → (va_up P2 q (some (.inr (3, [.int (nI N), .ref a1, .null, .null, .null, .int (nI 0)])))) x = P2 x := fun x hx => va_up_ne _ _ hx
  show bj_S _ _ _ _ _ _ _ _ _ _ [] (va_up P2 q (some (.inr (3, [.int (nI N), .ref a1, .null, .null, .null, .int (nI 0)]))))
  generalize va_up P2 q (some (.inr (3, [.int (nI N), .ref a1, .null, .null, .null, .int (nI 0)]))) = P3 at hq3 hf3 ⊢
  refine bj_aload_n d_Lo_init_16 rfl rfl ?_
  refine bj_iload_n d_Lo_init_17 rfl rfl ?_
  refine bj_newa (a0 := (N, .inl (fun _ => 0))) d_Lo_init_18 0 rfl wz_52 (fun cA => arrV_zero cA (N)) rfl (by omega) (by show (N) * 4 ≤ _; omega) (by show 0 + 1 + 1 ≤ 4 + 0; omega) (by show 0 + N + N ≤ (N + N + N * N + N * N) + 0; omega) (fun a2 ha2 => ?_)
  have hna2 : a2 ≠ q := fun e => by rw [e, hq3] at ha2; cases ha2
  have hq4 : (va_up P3 a2 (some (.inl (c 0, N, .inl (fun _ => 0))))) q = some (.inr (3, [.int (nI N), .ref a1, .null, .null, .null, .int (nI 0)])) := (va_up_ne _ _ (Ne.symm hna2)).trans hq3
  have haa2 : (va_up P3 a2 (some (.inl (c 0, N, .inl (fun _ => 0))))) a2 = some (.inl (c 0, N, .inl (fun _ => 0))) := va_up_self _ _ _
  have hf4 : ∀ x, x ≠ a2 → (va_up P3 a2 (some (.inl (c 0, N, .inl (fun _ => 0))))) x = P3 x := fun x hx => va_up_ne _ _ hx
  show bj_S _ _ _ _ _ _ _ _ _ _ [.ref a2, .ref q] (va_up P3 a2 (some (.inl (c 0, N, .inl (fun _ => 0)))))
  generalize va_up P3 a2 (some (.inl (c 0, N, .inl (fun _ => 0)))) = P4 at hq4 haa2 hf4 ⊢
  refine bj_putF d_Lo_init_20 in_Lo ok_Lo nm_Lo rfl (by decide : 2 < 6) wf_Lo_19 rfl rfl rfl rfl rfl rfl rfl (Nat.le_of_ble_eq_true rfl) hq4 ?_
  have hq5 : (va_up P4 q (some (.inr (3, [.int (nI N), .ref a1, .ref a2, .null, .null, .int (nI 0)])))) q = some (.inr (3, [.int (nI N), .ref a1, .ref a2, .null, .null, .int (nI 0)])) := va_up_self _ _ _
  have hf5 : ∀ x, x ≠ q → (va_up P4 q (some (.inr (3, [.int (nI N), .ref a1, .ref a2, .null, .null, .int (nI 0)])))) x = P4 x := fun x hx => va_up_ne _ _ hx
  show bj_S _ _ _ _ _ _ _ _ _ _ [] (va_up P4 q (some (.inr (3, [.int (nI N), .ref a1, .ref a2, .null, .null, .int (nI 0)]))))
  generalize va_up P4 q (some (.inr (3, [.int (nI N), .ref a1, .ref a2, .null, .null, .int (nI 0)]))) = P5 at hq5 hf5 ⊢
  refine bj_aload_n d_Lo_init_23 rfl rfl ?_
  refine bj_iload_n d_Lo_init_24 rfl rfl ?_
  refine bj_iload_n d_Lo_init_25 rfl rfl ?_
  refine bj_imul (v := (nI (N * N))) d_Lo_init_26 (pk_mul _ _) ?_
  refine bj_newa (a0 := (N * N, .inl (fun _ => 0))) d_Lo_init_27 0 rfl wz_52 (fun cA => arrV_zero cA (N * N)) rfl (by omega) (by show (N * N) * 4 ≤ _; omega) (by show 0 + 1 + 1 + 1 ≤ 4 + 0; omega) (by show 0 + N + N + N * N ≤ (N + N + N * N + N * N) + 0; omega) (fun a3 ha3 => ?_)
  have hna3 : a3 ≠ q := fun e => by rw [e, hq5] at ha3; cases ha3
  have hq6 : (va_up P5 a3 (some (.inl (c 0, N * N, .inl (fun _ => 0))))) q = some (.inr (3, [.int (nI N), .ref a1, .ref a2, .null, .null, .int (nI 0)])) := (va_up_ne _ _ (Ne.symm hna3)).trans hq5
  have haa3 : (va_up P5 a3 (some (.inl (c 0, N * N, .inl (fun _ => 0))))) a3 = some (.inl (c 0, N * N, .inl (fun _ => 0))) := va_up_self _ _ _
  have hf6 : ∀ x, x ≠ a3 → (va_up P5 a3 (some (.inl (c 0, N * N, .inl (fun _ => 0))))) x = P5 x := fun x hx => va_up_ne _ _ hx
  show bj_S _ _ _ _ _ _ _ _ _ _ [.ref a3, .ref q] (va_up P5 a3 (some (.inl (c 0, N * N, .inl (fun _ => 0)))))
  generalize va_up P5 a3 (some (.inl (c 0, N * N, .inl (fun _ => 0)))) = P6 at hq6 haa3 hf6 ⊢
  refine bj_putF d_Lo_init_29 in_Lo ok_Lo nm_Lo rfl (by decide : 3 < 6) wf_Lo_22 rfl rfl rfl rfl rfl rfl rfl (Nat.le_of_ble_eq_true rfl) hq6 ?_
  have hq7 : (va_up P6 q (some (.inr (3, [.int (nI N), .ref a1, .ref a2, .ref a3, .null, .int (nI 0)])))) q = some (.inr (3, [.int (nI N), .ref a1, .ref a2, .ref a3, .null, .int (nI 0)])) := va_up_self _ _ _
  have hf7 : ∀ x, x ≠ q → (va_up P6 q (some (.inr (3, [.int (nI N), .ref a1, .ref a2, .ref a3, .null, .int (nI 0)])))) x = P6 x := fun x hx => va_up_ne _ _ hx
  show bj_S _ _ _ _ _ _ _ _ _ _ [] (va_up P6 q (some (.inr (3, [.int (nI N), .ref a1, .ref a2, .ref a3, .null, .int (nI 0)]))))
  generalize va_up P6 q (some (.inr (3, [.int (nI N), .ref a1, .ref a2, .ref a3, .null, .int (nI 0)]))) = P7 at hq7 hf7 ⊢
  refine bj_aload_n d_Lo_init_32 rfl rfl ?_
  refine bj_iload_n d_Lo_init_33 rfl rfl ?_
  refine bj_iload_n d_Lo_init_34 rfl rfl ?_
  refine bj_imul (v := (nI (N * N))) d_Lo_init_35 (pk_mul _ _) ?_
  refine bj_newa (a0 := (N * N, .inl (fun _ => 0))) d_Lo_init_36 0 rfl wz_52 (fun cA => arrV_zero cA (N * N)) rfl (by omega) (by show (N * N) * 4 ≤ _; omega) (by show 0 + 1 + 1 + 1 + 1 ≤ 4 + 0; omega) (by show 0 + N + N + N * N + N * N ≤ (N + N + N * N + N * N) + 0; omega) (fun a4 ha4 => ?_)
  have hna4 : a4 ≠ q := fun e => by rw [e, hq7] at ha4; cases ha4
  have hq8 : (va_up P7 a4 (some (.inl (c 0, N * N, .inl (fun _ => 0))))) q = some (.inr (3, [.int (nI N), .ref a1, .ref a2, .ref a3, .null, .int (nI 0)])) := (va_up_ne _ _ (Ne.symm hna4)).trans hq7
  have haa4 : (va_up P7 a4 (some (.inl (c 0, N * N, .inl (fun _ => 0))))) a4 = some (.inl (c 0, N * N, .inl (fun _ => 0))) := va_up_self _ _ _
  have hf8 : ∀ x, x ≠ a4 → (va_up P7 a4 (some (.inl (c 0, N * N, .inl (fun _ => 0))))) x = P7 x := fun x hx => va_up_ne _ _ hx
  show bj_S _ _ _ _ _ _ _ _ _ _ [.ref a4, .ref q] (va_up P7 a4 (some (.inl (c 0, N * N, .inl (fun _ => 0)))))
  generalize va_up P7 a4 (some (.inl (c 0, N * N, .inl (fun _ => 0)))) = P8 at hq8 haa4 hf8 ⊢
  refine bj_putF d_Lo_init_38 in_Lo ok_Lo nm_Lo rfl (by decide : 4 < 6) wf_Lo_25 rfl rfl rfl rfl rfl rfl rfl (Nat.le_of_ble_eq_true rfl) hq8 ?_
  have hq9 : (va_up P8 q (some (.inr (3, [.int (nI N), .ref a1, .ref a2, .ref a3, .ref a4, .int (nI 0)])))) q = some (.inr (3, [.int (nI N), .ref a1, .ref a2, .ref a3, .ref a4, .int (nI 0)])) := va_up_self _ _ _
  have hf9 : ∀ x, x ≠ q → (va_up P8 q (some (.inr (3, [.int (nI N), .ref a1, .ref a2, .ref a3, .ref a4, .int (nI 0)])))) x = P8 x := fun x hx => va_up_ne _ _ hx
  show bj_S _ _ _ _ _ _ _ _ _ _ [] (va_up P8 q (some (.inr (3, [.int (nI N), .ref a1, .ref a2, .ref a3, .ref a4, .int (nI 0)]))))
  generalize va_up P8 q (some (.inr (3, [.int (nI N), .ref a1, .ref a2, .ref a3, .ref a4, .int (nI 0)]))) = P9 at hq9 hf9 ⊢
  refine bj_aload_n d_Lo_init_41 rfl rfl ?_
  refine bj_iconst (v := (nI 0)) d_Lo_init_42 (by decide) ?_
  refine bj_put d_Lo_init_43 in_Lo ok_Lo nm_Lo rfl (by decide : 5 < 6) wf_Lo_28 rfl rfl rfl rfl rfl (Nat.le_of_ble_eq_true rfl) hq9 ?_
  have hq10 : (va_up P9 q (some (.inr (3, [.int (nI N), .ref a1, .ref a2, .ref a3, .ref a4, .int (nI 0)])))) q = some (.inr (3, [.int (nI N), .ref a1, .ref a2, .ref a3, .ref a4, .int (nI 0)])) := va_up_self _ _ _
  have hf10 : ∀ x, x ≠ q → (va_up P9 q (some (.inr (3, [.int (nI N), .ref a1, .ref a2, .ref a3, .ref a4, .int (nI 0)])))) x = P9 x := fun x hx => va_up_ne _ _ hx
  show bj_S _ _ _ _ _ _ _ _ _ _ [] (va_up P9 q (some (.inr (3, [.int (nI N), .ref a1, .ref a2, .ref a3, .ref a4, .int (nI 0)]))))
  generalize va_up P9 q (some (.inr (3, [.int (nI N), .ref a1, .ref a2, .ref a3, .ref a4, .int (nI 0)]))) = P10 at hq10 hf10 ⊢
  have e12 : a1 ≠ a2 := fun e => by rw [← e, hf3 a1 hna1, haa1] at ha2; cases ha2
  have e13 : a1 ≠ a3 := fun e => by rw [← e, hf5 a1 hna1, hf4 a1 e12, hf3 a1 hna1, haa1] at ha3; cases ha3
  have e23 : a2 ≠ a3 := fun e => by rw [← e, hf5 a2 hna2, haa2] at ha3; cases ha3
  have e14 : a1 ≠ a4 := fun e => by rw [← e, hf7 a1 hna1, hf6 a1 e13, hf5 a1 hna1, hf4 a1 e12, hf3 a1 hna1, haa1] at ha4; cases ha4
  have e24 : a2 ≠ a4 := fun e => by rw [← e, hf7 a2 hna2, hf6 a2 e23, hf5 a2 hna2, haa2] at ha4; cases ha4
  have e34 : a3 ≠ a4 := fun e => by rw [← e, hf7 a3 hna3, haa3] at ha4; cases ha4
  have b1 : P10 a1 = some (.inl (c 0, N, .inl (fun _ => 0))) := by rw [hf10 a1 hna1, hf9 a1 hna1, hf8 a1 e14, hf7 a1 hna1, hf6 a1 e13, hf5 a1 hna1, hf4 a1 e12, hf3 a1 hna1, haa1]
  have b2 : P10 a2 = some (.inl (c 0, N, .inl (fun _ => 0))) := by rw [hf10 a2 hna2, hf9 a2 hna2, hf8 a2 e24, hf7 a2 hna2, hf6 a2 e23, hf5 a2 hna2, haa2]
  have b3 : P10 a3 = some (.inl (c 0, N * N, .inl (fun _ => 0))) := by rw [hf10 a3 hna3, hf9 a3 hna3, hf8 a3 e34, hf7 a3 hna3, haa3]
  have b4 : P10 a4 = some (.inl (c 0, N * N, .inl (fun _ => 0))) := by rw [hf10 a4 hna4, hf9 a4 hna4, haa4]
  have n1 : M a1 = none := by rw [← hf1 a1 hna1]; exact ha1
  have n2 : M a2 = none := by rw [← hf1 a2 hna2, ← hf2 a2 (Ne.symm e12), ← hf3 a2 hna2]; exact ha2
  have n3 : M a3 = none := by rw [← hf1 a3 hna3, ← hf2 a3 (Ne.symm e13), ← hf3 a3 hna3, ← hf4 a3 (Ne.symm e23), ← hf5 a3 hna3]; exact ha3
  have n4 : M a4 = none := by rw [← hf1 a4 hna4, ← hf2 a4 (Ne.symm e14), ← hf3 a4 hna4, ← hf4 a4 (Ne.symm e24), ← hf5 a4 hna4, ← hf6 a4 (Ne.symm e34), ← hf7 a4 hna4]; exact ha4
  exact bj_vret d_Lo_init_46 rfl (by show 0 + 1 + 1 + 1 + 1 ≤ 4; omega) (by show 0 + N + N + N * N + N * N ≤ N + N + N * N + N * N; omega) ⟨rfl, a1, a2, a3, a4, n1, n2, n3, n4, e12, e13, e14, e23, e24, e34, hq10, ⟨_, b1, fun _ _ => rfl⟩, ⟨_, b2, fun _ _ => rfl⟩, ⟨_, b3, fun _ _ => rfl⟩, ⟨_, b4, fun _ _ => rfl⟩, fun x x1 x2 x3 x4 x5 => by rw [hf10 x x1, hf9 x x1, hf8 x x5, hf7 x x1, hf6 x x4, hf5 x x1, hf4 x x3, hf3 x x1, hf2 x x2, hf1 x x1]⟩
end I4
