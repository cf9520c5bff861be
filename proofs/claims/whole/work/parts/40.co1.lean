/-! the class's small methods: nibble, has, comesBefore, direct (walks by gen/m_co1.py) -/
section C1
variable (l : Launch) (D : va_G) (c : Nat → ClassId) (ad : Nat → Nat) (M : bj_M)
theorem bt_t {b : Bool} (h : b = true) : (some (.int (nI 1)) : Option Value) = some (.int (bt_n b)) := by rw [h]; rfl
theorem bt_f {b : Bool} (h : b = false) : (some (.int (nI 0)) : Option Value) = some (.int (bt_n b)) := by rw [h]; rfl
set_option maxRecDepth 100000 in
set_option maxHeartbeats 4000000 in
/-- four bits of a word -/
theorem t_Of_nibble {w : Int32} {i : Nat} (hi : i < 8) : bj_T (bw_G l D c) Y_Of_nibble 0 (0, 0, 0, 0) ad (bj_fn (nI (nb w i)) M) [.int w, .int (nI i)] M := by
  show bj_S _ _ _ _ _ _ 0 0 0 [some (.int w), some (.int (nI i))] [] M
  refine bj_iload_n d_Of_nibble_0 rfl rfl ?_
  refine bj_iconst (v := (nI 4)) d_Of_nibble_1 (by decide) ?_
  refine bj_iload_n d_Of_nibble_2 rfl rfl ?_
  refine bj_imul (v := (nI (4 * i))) d_Of_nibble_3 (pk_mul _ _) ?_
  refine bj_iushr (v := (w.toUInt32 >>> ((nI (4 * i)).toUInt32 &&& Int32.toUInt32 31)).toInt32) d_Of_nibble_4 rfl ?_
  refine bj_bipush (v := (nI 15)) d_Of_nibble_5 (by decide) ?_
  refine bj_iand (v := (nI (nb w i))) d_Of_nibble_7 (nb_get w hi) ?_
  exact bj_iret d_Of_nibble_8 rfl rfl (Nat.le_refl _) (Nat.le_refl _) ⟨rfl, rfl⟩
theorem bt_nn {b : Bool} (h : ¬ bt_n b = 0) : b = true := by cases b with
  | true => rfl
  | false => exact absurd rfl h
set_option maxRecDepth 100000 in
set_option maxHeartbeats 4000000 in
/-- one bit of a set -/
theorem t_Of_has {w : Int32} {i : Nat} (hi : i < 32) : bj_T (bw_G l D c) Y_Of_has 0 (0, 0, 0, 0) ad (bj_fn (bt_n (bt w i)) M) [.int w, .int (nI i)] M := by
  show bj_S _ _ _ _ _ _ 0 0 0 [some (.int w), some (.int (nI i))] [] M
  refine bj_iload_n d_Of_has_0 rfl rfl ?_
  refine bj_iload_n d_Of_has_1 rfl rfl ?_
  refine bj_iushr (v := (w.toUInt32 >>> ((nI i).toUInt32 &&& Int32.toUInt32 31)).toInt32) d_Of_has_2 rfl ?_
  refine bj_iconst (v := (nI 1)) d_Of_has_3 (by decide) ?_
  refine bj_iand (v := (bt_n (bt w i))) d_Of_has_4 (bt_has w hi) ?_
  refine bj_if_eq (tgt := 12) d_Of_has_5 (by decide) (fun h5 => ?_) (fun h5 => ?_)
  · have e := bt_n0.mp h5
    refine bj_iconst (v := (nI 0)) d_Of_has_12 (by decide) ?_
    exact bj_iret d_Of_has_13 rfl rfl (Nat.le_refl _) (Nat.le_refl _) ⟨by rw [e]; rfl, rfl⟩
  · have e := bt_nn h5
    refine bj_iconst (v := (nI 1)) d_Of_has_8 (by decide) ?_
    refine bj_goto (tgt := 13) d_Of_has_9 (by decide) ?_
    exact bj_iret d_Of_has_13 rfl rfl (Nat.le_refl _) (Nat.le_refl _) ⟨by rw [e]; rfl, rfl⟩
/-- whether a ranking has a before b -/
def bef (w : Int32) (a b : Nat) : Bool := nb w a != 0 && (nb w b == 0 || decide (nb w a < nb w b))
set_option maxRecDepth 100000 in
set_option maxHeartbeats 4000000 in
/-- comesBefore -/
theorem t_Co_comesBefore {w : Int32} {a b : Nat} (ha : a < 8) (hb : b < 8) : bj_T (bw_G l D c) Y_Co_comesBefore 1 (0, 0, 0, 0) ad (bj_fn (bt_n (bef w a b)) M) [.int w, .int (nI a), .int (nI b)] M := by
  show bj_S _ _ _ _ _ _ 0 0 0 [some (.int w), some (.int (nI a)), some (.int (nI b)), none, none] [] M
  refine bj_iload_n d_Co_comesBefore_0 rfl rfl ?_
  refine bj_iload_n d_Co_comesBefore_1 rfl rfl ?_
  refine bj_cnF sn_Co_49 d_Co_comesBefore_2 (t_Of_nibble l D c ad M ha) rfl rfl (by decide) (by decide) (by decide) (Nat.le_of_ble_eq_true rfl) rfl ?_
  refine bj_istore_n (L' := [some (.int w), some (.int (nI a)), some (.int (nI b)), some (.int (nI (nb w a))), none]) d_Co_comesBefore_5 rfl (by decide) rfl ?_
  refine bj_iload_n d_Co_comesBefore_6 rfl rfl ?_
  refine bj_iload_n d_Co_comesBefore_7 rfl rfl ?_
  refine bj_cnF sn_Co_49 d_Co_comesBefore_8 (t_Of_nibble l D c ad M hb) rfl rfl (by decide) (by decide) (by decide) (Nat.le_of_ble_eq_true rfl) rfl ?_
  refine bj_istore (L' := [some (.int w), some (.int (nI a)), some (.int (nI b)), some (.int (nI (nb w a))), some (.int (nI (nb w b)))]) d_Co_comesBefore_11 (by decide) rfl ?_
  refine bj_iload_n d_Co_comesBefore_13 rfl rfl ?_
  refine bj_if_eqN (tgt := 32) d_Co_comesBefore_14 (by decide) (by have := nb_lt w a; have := nb_lt w b; omega) (fun h14 => ?_) (fun h14 => ?_)
  · refine bj_iconst (v := (nI 0)) d_Co_comesBefore_32 (by decide) ?_
    exact bj_iret d_Co_comesBefore_33 rfl rfl (Nat.le_refl _) (Nat.le_refl _) ⟨bt_f (by simp [bef]; omega), rfl⟩
  · refine bj_iload d_Co_comesBefore_17 rfl ?_
    refine bj_if_eqN (tgt := 28) d_Co_comesBefore_19 (by decide) (by have := nb_lt w a; have := nb_lt w b; omega) (fun h19 => ?_) (fun h19 => ?_)
    · refine bj_iconst (v := (nI 1)) d_Co_comesBefore_28 (by decide) ?_
      refine bj_goto (tgt := 33) d_Co_comesBefore_29 (by decide) ?_
      exact bj_iret d_Co_comesBefore_33 rfl rfl (Nat.le_refl _) (Nat.le_refl _) ⟨bt_t (by simp [bef]; omega), rfl⟩
    · refine bj_iload_n d_Co_comesBefore_22 rfl rfl ?_
      refine bj_iload d_Co_comesBefore_23 rfl ?_
      refine bj_icmp_geN (tgt := 32) d_Co_comesBefore_25 (by decide) (by have := nb_lt w a; have := nb_lt w b; omega) (by have := nb_lt w a; have := nb_lt w b; omega) (fun h25 => ?_) (fun h25 => ?_)
      · refine bj_iconst (v := (nI 0)) d_Co_comesBefore_32 (by decide) ?_
        exact bj_iret d_Co_comesBefore_33 rfl rfl (Nat.le_refl _) (Nat.le_refl _) ⟨bt_f (by simp [bef]; omega), rfl⟩
      · refine bj_iconst (v := (nI 1)) d_Co_comesBefore_28 (by decide) ?_
        refine bj_goto (tgt := 33) d_Co_comesBefore_29 (by decide) ?_
        exact bj_iret d_Co_comesBefore_33 rfl rfl (Nat.le_refl _) (Nat.le_refl _) ⟨bt_t (by simp [bef]; omega), rfl⟩
/-- the direct strength, as ints -/
def dir (P : Nat → Nat → Int32) (a b : Nat) : Int32 := if P b a < P a b then P a b else 0
set_option maxRecDepth 100000 in
set_option maxHeartbeats 4000000 in
/-- direct -/
theorem t_Co_direct {k N a b : Nat} {vs : Int32} {P : Nat → Nat → Int32} (h : co_ok c ad M k N vs P) (hN : N ≤ 8) (ha : a < N) (hb : b < N) : bj_T (bw_G l D c) Y_Co_direct 0 (0, 0, 0, 0) ad (bj_fn (dir P a b) M) [.ref (ad k), .int (nI a), .int (nI b)] M := by
  show bj_S _ _ _ _ _ _ 0 0 0 [some (.ref (ad k)), some (.int (nI a)), some (.int (nI b))] [] M
  refine bj_aload_n d_Co_direct_0 rfl rfl ?_
  refine bj_get d_Co_direct_1 in_Co rfl (by decide : 2 < 3) wf_Co_20 rfl h.1 rfl ?_
  refine bj_iload_n d_Co_direct_4 rfl rfl ?_
  refine bv_aald d_Co_direct_5 4 rfl rfl h.2.1 (by omega) (by omega) ?_
  refine bj_iload_n d_Co_direct_6 rfl rfl ?_
  refine bv_iald d_Co_direct_7 0 rfl (h.2.2 a ha) (by omega) (by omega) rfl ?_
  refine bj_aload_n d_Co_direct_8 rfl rfl ?_
  refine bj_get d_Co_direct_9 in_Co rfl (by decide : 2 < 3) wf_Co_20 rfl h.1 rfl ?_
  refine bj_iload_n d_Co_direct_12 rfl rfl ?_
  refine bv_aald d_Co_direct_13 4 rfl rfl h.2.1 (by omega) (by omega) ?_
  refine bj_iload_n d_Co_direct_14 rfl rfl ?_
  refine bv_iald d_Co_direct_15 0 rfl (h.2.2 b hb) (by omega) (by omega) rfl ?_
  refine bj_icmp_le (tgt := 30) d_Co_direct_16 (by decide) (fun h16 => ?_) (fun h16 => ?_)
  · refine bj_iconst (v := (nI 0)) d_Co_direct_30 (by decide) ?_
    exact bj_iret d_Co_direct_31 rfl rfl (Nat.le_refl _) (Nat.le_refl _) ⟨by first | (rw [dir, if_pos (Int32.not_le.mp h16)]) | (rw [dir, if_neg (Int32.not_lt.mpr h16)]; rfl), rfl⟩
  · refine bj_aload_n d_Co_direct_19 rfl rfl ?_
    refine bj_get d_Co_direct_20 in_Co rfl (by decide : 2 < 3) wf_Co_20 rfl h.1 rfl ?_
    refine bj_iload_n d_Co_direct_23 rfl rfl ?_
    refine bv_aald d_Co_direct_24 4 rfl rfl h.2.1 (by omega) (by omega) ?_
    refine bj_iload_n d_Co_direct_25 rfl rfl ?_
    refine bv_iald d_Co_direct_26 0 rfl (h.2.2 a ha) (by omega) (by omega) rfl ?_
    refine bj_goto (tgt := 31) d_Co_direct_27 (by decide) ?_
    exact bj_iret d_Co_direct_31 rfl rfl (Nat.le_refl _) (Nat.le_refl _) ⟨by first | (rw [dir, if_pos (Int32.not_le.mp h16)]) | (rw [dir, if_neg (Int32.not_lt.mpr h16)]; rfl), rfl⟩
end C1
