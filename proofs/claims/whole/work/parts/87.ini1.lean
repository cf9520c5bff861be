/-! constructors: Batch (walks by gen/m_ini1.py); a cell's number is its address -/
section I1

def q_iBa (c : Nat → ClassId) (M : bj_M) (q : Nat) : bj_R → bj_M → Prop := bj_ret (fun r M' => r = none ∧ ∃ kr kt, M kr = none ∧ M kt = none ∧ kr ≠ kt ∧ ba_ok c (fun k => k) M' q kr kt (nI 0) 0 (fun _ => 0) (fun _ => 0) ∧ ∀ x, x ≠ q → x ≠ kr → x ≠ kt → M' x = M x)
variable (l : Launch) (D : va_G) (c : Nat → ClassId) (M : bj_M)
theorem arrV_zero (cA : ClassId) (N : Nat) : vp_cell cA (N, .inl (fun _ => 0)) = arrV cA N (fun _ => defaultValue (newarray.typeOf .int)) := rfl
set_option maxRecDepth 100000 in
set_option maxHeartbeats 4000000 in
/-- new Batch -/
theorem t_Ba_init {q : Nat} (h0 : M q = some (.inr (0, [.int (nI 0), .int (nI 0), .null, .null]))) : bj_T (bw_G l D c) Y_Ba_init 1 (2, 12, 0, 0) (fun k => k) (q_iBa c M q) [.ref q] M := by
  show bj_S _ _ _ _ _ _ 0 0 0 [some (.ref q)] [] M
  refine bj_aload_n d_Ba_init_0 rfl rfl ?_
  refine bj_oini d_Ba_init_1 wob_Ba wob_2 wob_3 (by decide) (Nat.le_of_ble_eq_true rfl) ?_
  refine bj_aload_n d_Ba_init_4 rfl rfl ?_
  refine bj_iconst (v := (nI 0)) d_Ba_init_5 (by decide) ?_
  refine bj_put d_Ba_init_6 in_Ba ok_Ba nm_Ba rfl (by decide : 0 < 4) wf_Ba_9 rfl rfl rfl rfl rfl (Nat.le_of_ble_eq_true rfl) h0 ?_
  have hq1 : (va_up M q (some (.inr (0, [.int (nI 0), .int (nI 0), .null, .null])))) q = some (.inr (0, [.int (nI 0), .int (nI 0), .null, .null])) := va_up_self _ _ _
  have hf1 : ∀ x, x ≠ q → (va_up M q (some (.inr (0, [.int (nI 0), .int (nI 0), .null, .null])))) x = M x := fun x hx => va_up_ne _ _ hx
  show bj_S _ _ _ _ _ _ _ _ _ _ [] (va_up M q (some (.inr (0, [.int (nI 0), .int (nI 0), .null, .null]))))
  generalize va_up M q (some (.inr (0, [.int (nI 0), .int (nI 0), .null, .null]))) = P1 at hq1 hf1 ⊢
  refine bj_aload_n d_Ba_init_9 rfl rfl ?_
  refine bj_iconst (v := (nI 0)) d_Ba_init_10 (by decide) ?_
  refine bj_put d_Ba_init_11 in_Ba ok_Ba nm_Ba rfl (by decide : 1 < 4) wf_Ba_15 rfl rfl rfl rfl rfl (Nat.le_of_ble_eq_true rfl) hq1 ?_
  have hq2 : (va_up P1 q (some (.inr (0, [.int (nI 0), .int (nI 0), .null, .null])))) q = some (.inr (0, [.int (nI 0), .int (nI 0), .null, .null])) := va_up_self _ _ _
  have hf2 : ∀ x, x ≠ q → (va_up P1 q (some (.inr (0, [.int (nI 0), .int (nI 0), .null, .null])))) x = P1 x := fun x hx => va_up_ne _ _ hx
  show bj_S _ _ _ _ _ _ _ _ _ _ [] (va_up P1 q (some (.inr (0, [.int (nI 0), .int (nI 0), .null, .null]))))
  generalize va_up P1 q (some (.inr (0, [.int (nI 0), .int (nI 0), .null, .null]))) = P2 at hq2 hf2 ⊢
  refine bj_aload_n d_Ba_init_14 rfl rfl ?_
  refine bj_bipush (v := (nI 6)) d_Ba_init_15 (by decide) ?_
  refine bj_newa (a0 := (6, .inl (fun _ => 0))) d_Ba_init_17 0 rfl wz_52 (fun cA => arrV_zero cA 6) rfl (by decide) (by decide) (by decide) (by decide) (fun kr hkr => ?_)
  have hnkr : kr ≠ q := fun e => by rw [e, hq2] at hkr; cases hkr
  have hq3 : (va_up P2 kr (some (.inl (c 0, 6, .inl (fun _ => 0))))) q = some (.inr (0, [.int (nI 0), .int (nI 0), .null, .null])) := (va_up_ne _ _ (Ne.symm hnkr)).trans hq2
  have hakr : (va_up P2 kr (some (.inl (c 0, 6, .inl (fun _ => 0))))) kr = some (.inl (c 0, 6, .inl (fun _ => 0))) := va_up_self _ _ _
  have hf3 : ∀ x, x ≠ kr → (va_up P2 kr (some (.inl (c 0, 6, .inl (fun _ => 0))))) x = P2 x := fun x hx => va_up_ne _ _ hx
  show bj_S _ _ _ _ _ _ _ _ _ _ [.ref kr, .ref q] (va_up P2 kr (some (.inl (c 0, 6, .inl (fun _ => 0)))))
  generalize va_up P2 kr (some (.inl (c 0, 6, .inl (fun _ => 0)))) = P3 at hq3 hakr hf3 ⊢
  refine bj_putF d_Ba_init_19 in_Ba ok_Ba nm_Ba rfl (by decide : 2 < 4) wf_Ba_18 rfl rfl rfl rfl rfl rfl rfl (Nat.le_of_ble_eq_true rfl) hq3 ?_
  have hq4 : (va_up P3 q (some (.inr (0, [.int (nI 0), .int (nI 0), .ref kr, .null])))) q = some (.inr (0, [.int (nI 0), .int (nI 0), .ref kr, .null])) := va_up_self _ _ _
  have hf4 : ∀ x, x ≠ q → (va_up P3 q (some (.inr (0, [.int (nI 0), .int (nI 0), .ref kr, .null])))) x = P3 x := fun x hx => va_up_ne _ _ hx
  show bj_S _ _ _ _ _ _ _ _ _ _ [] (va_up P3 q (some (.inr (0, [.int (nI 0), .int (nI 0), .ref kr, .null]))))
  generalize va_up P3 q (some (.inr (0, [.int (nI 0), .int (nI 0), .ref kr, .null]))) = P4 at hq4 hf4 ⊢
  refine bj_aload_n d_Ba_init_22 rfl rfl ?_
  refine bj_bipush (v := (nI 6)) d_Ba_init_23 (by decide) ?_
  refine bj_newa (a0 := (6, .inl (fun _ => 0))) d_Ba_init_25 0 rfl wz_52 (fun cA => arrV_zero cA 6) rfl (by decide) (by decide) (by decide) (by decide) (fun kt hkt => ?_)
  have hnkt : kt ≠ q := fun e => by rw [e, hq4] at hkt; cases hkt
  have hq5 : (va_up P4 kt (some (.inl (c 0, 6, .inl (fun _ => 0))))) q = some (.inr (0, [.int (nI 0), .int (nI 0), .ref kr, .null])) := (va_up_ne _ _ (Ne.symm hnkt)).trans hq4
  have hakt : (va_up P4 kt (some (.inl (c 0, 6, .inl (fun _ => 0))))) kt = some (.inl (c 0, 6, .inl (fun _ => 0))) := va_up_self _ _ _
  have hf5 : ∀ x, x ≠ kt → (va_up P4 kt (some (.inl (c 0, 6, .inl (fun _ => 0))))) x = P4 x := fun x hx => va_up_ne _ _ hx
  show bj_S _ _ _ _ _ _ _ _ _ _ [.ref kt, .ref q] (va_up P4 kt (some (.inl (c 0, 6, .inl (fun _ => 0)))))
  generalize va_up P4 kt (some (.inl (c 0, 6, .inl (fun _ => 0)))) = P5 at hq5 hakt hf5 ⊢
  refine bj_putF d_Ba_init_27 in_Ba ok_Ba nm_Ba rfl (by decide : 3 < 4) wf_Ba_22 rfl rfl rfl rfl rfl rfl rfl (Nat.le_of_ble_eq_true rfl) hq5 ?_
  have hq6 : (va_up P5 q (some (.inr (0, [.int (nI 0), .int (nI 0), .ref kr, .ref kt])))) q = some (.inr (0, [.int (nI 0), .int (nI 0), .ref kr, .ref kt])) := va_up_self _ _ _
  have hf6 : ∀ x, x ≠ q → (va_up P5 q (some (.inr (0, [.int (nI 0), .int (nI 0), .ref kr, .ref kt])))) x = P5 x := fun x hx => va_up_ne _ _ hx
  show bj_S _ _ _ _ _ _ _ _ _ _ [] (va_up P5 q (some (.inr (0, [.int (nI 0), .int (nI 0), .ref kr, .ref kt]))))
  generalize va_up P5 q (some (.inr (0, [.int (nI 0), .int (nI 0), .ref kr, .ref kt]))) = P6 at hq6 hf6 ⊢
  have hkk : kr ≠ kt := fun e => by rw [← e, hf4 kr hnkr, hakr] at hkt; cases hkt
  have hra : P6 kr = some (.inl (c 0, 6, .inl (fun _ => 0))) := by rw [hf6 kr hnkr, hf5 kr hkk, hf4 kr hnkr, hakr]
  have hta : P6 kt = some (.inl (c 0, 6, .inl (fun _ => 0))) := by rw [hf6 kt hnkt, hakt]
  have g1 : M kr = none := by rw [← hf1 kr hnkr, ← hf2 kr hnkr]; exact hkr
  have g2 : M kt = none := by rw [← hf1 kt hnkt, ← hf2 kt hnkt, ← hf3 kt (Ne.symm hkk), ← hf4 kt hnkt]; exact hkt
  exact bj_vret d_Ba_init_30 rfl (by decide) (by decide) ⟨rfl, kr, kt, g1, g2, hkk, ⟨hq6, ⟨_, hra, fun _ _ => rfl⟩, ⟨_, hta, fun _ _ => rfl⟩⟩, fun x x1 x2 x3 => by rw [hf6 x x1, hf5 x x3, hf4 x x1, hf3 x x2, hf2 x x1, hf1 x x1]⟩
end I1
