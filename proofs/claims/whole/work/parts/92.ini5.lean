/-! constructors: the reference's (walks by gen/m_ini5.py); a cell's number is its address -/
section I5

def nc (x : Int32) : Nat := if nI 1 ≤ x ∧ x ≤ nI 8 then x.toNatClampNeg else 5
theorem nc_in {x : Int32} (h1 : ¬ x < nI 1) (h2 : x ≤ nI 8) : x = nI (nc x) ∧ 1 ≤ nc x ∧ nc x ≤ 8 := by
  obtain ⟨j, hj, rfl⟩ := nI_of (x := x) (fun h0 => h1 (Int32.lt_trans h0 (by decide)))
  have e8 : j ≤ 8 := (nI_leI hj (by decide)).mp h2
  have e1 : 1 ≤ j := Nat.le_of_not_lt (fun h => h1 ((nI_ltI hj (by decide)).mpr h))
  have e : nc (nI j) = j := by
    unfold nc
    rw [if_pos ⟨(nI_leI (by decide) hj).mpr e1, h2⟩]
    exact nI_clamp hj
  rw [e]
  exact ⟨rfl, e1, e8⟩
theorem nc_lo {x : Int32} (h1 : x < nI 1) : nc x = 5 := if_neg (fun h => absurd h1 (Int32.not_lt.mpr h.1))
theorem nc_hi {x : Int32} (h1 : ¬ x ≤ nI 8) : nc x = 5 := if_neg (fun h => h1 h.2)
theorem nc_b (x : Int32) : 1 ≤ nc x ∧ nc x ≤ 8 := by
  by_cases h1 : x < nI 1
  · rw [nc_lo h1]; decide
  · by_cases h2 : x ≤ nI 8
    · exact (nc_in h1 h2).2
    · rw [nc_hi h2]; decide
/-- addresses of the numbers from b on -/
def ad_l (b : Nat) (l : List Nat) (k : Nat) : Nat := l.getD (k - b) 0
/-- the part of a picture whose numbers are D, at addresses ad -/
def pic (D : Nat → Bool) (ad : Nat → Nat) (M : bj_M) : bj_M := fun k => if D k = true then M (ad k) else none
theorem pic_at {D : Nat → Bool} {ad : Nat → Nat} {M : bj_M} {k : Nat} (h : D k = true) : pic D ad M k = M (ad k) := if_pos h
def mo_D (k : Nat) : Bool := decide (80 ≤ k ∧ k < 93)
def q_iMo (c : Nat → ClassId) (M : bj_M) (q N : Nat) : bj_R → bj_M → Prop := bj_ret (fun r M' => r = none ∧ ∃ ad, ad 80 = q ∧ nu ad (fun k => mo_D k = true) M' ∧ (∀ k, 80 < k → k < 93 → M (ad k) = none) ∧ mo_all c ad (pic mo_D ad M') N (nI 0) false 0 (fun i => i) (fun _ => 0) (fun _ => 0) (fun _ _ => 0) (fun _ _ => 0) ∧ ex_k q M M')
theorem arrV_zeroZ (cA : ClassId) (N : Nat) : vp_cell cA (N, .inl (fun _ => 0)) = arrV cA N (fun _ => defaultValue (newarray.typeOf .boolean)) := rfl
theorem dr_up {g : Nat → Int32} {w N : Nat} (hg : ∀ i, i < N → g i = if i < w then nI i else 0) : ∀ i, i < N → va_up g w (nI w) i = if i < w + 1 then nI i else 0 := by
  intro i hi
  by_cases e : i = w
  · subst e
    rw [va_up_self, if_pos (by omega)]
  · rw [va_up_ne _ _ e, hg i hi]
    by_cases h : i < w
    · rw [if_pos h, if_pos (by omega)]
    · rw [if_neg h, if_neg (by omega)]
variable (l : Launch) (D : va_G) (c : Nat → ClassId) (M : bj_M)
set_option maxRecDepth 100000 in
set_option maxHeartbeats 4000000 in
/-- new BeatPathOfficeModel -/
theorem t_Mo_init {q : Nat} {xn : Int32} (h0 : M q = some (.inr (5, [.int (nI 0), .int (nI 0), .int (nI 0), .null, .int (nI 0), .null, .null, .null, .null, .null, .null, .null, .null, .null, .null, .int (nI 0), .null]))) : bj_T (bw_G l D c) Y_Mo_init 1 (12, 512, 0, 0) (fun k => k) (q_iMo c M q (nc xn)) [.ref q, .int xn] M := by
  show bj_S _ _ _ _ _ _ 0 0 0 [some (.ref q), some (.int xn), none] [] M
  refine bj_aload_n d_Mo_init_0 rfl rfl ?_
  refine bj_oini d_Mo_init_1 wob_Mo wob_2 wob_3 (by decide) (Nat.le_of_ble_eq_true rfl) ?_
  refine bj_aload_n d_Mo_init_4 rfl rfl ?_
  refine bj_bipush (v := (nI 8)) d_Mo_init_5 (by decide) ?_
  refine bj_newa (a0 := (8, .inl (fun _ => 0))) d_Mo_init_7 0 rfl wz_52 (fun cA => arrV_zero cA 8) rfl (by decide) (by decide) (by decide) (by decide) (fun a_drawn ha_drawn => ?_)
  have hna_drawn : a_drawn ≠ q := fun e => by rw [e, h0] at ha_drawn; cases ha_drawn
  have hq1 : (va_up M a_drawn (some (.inl (c 0, 8, .inl (fun _ => 0))))) q = some (.inr (5, [.int (nI 0), .int (nI 0), .int (nI 0), .null, .int (nI 0), .null, .null, .null, .null, .null, .null, .null, .null, .null, .null, .int (nI 0), .null])) := (va_up_ne _ _ (Ne.symm hna_drawn)).trans h0
  have haa_drawn : (va_up M a_drawn (some (.inl (c 0, 8, .inl (fun _ => 0))))) a_drawn = some (.inl (c 0, 8, .inl (fun _ => 0))) := va_up_self _ _ _
  have ek1 : ex_k q M (va_up M a_drawn (some (.inl (c 0, 8, .inl (fun _ => 0))))) := ex_k.new ha_drawn (fun x hx => va_up_ne _ _ hx)
  show bj_S _ _ _ _ _ _ _ _ _ _ [.ref a_drawn, .ref q] (va_up M a_drawn (some (.inl (c 0, 8, .inl (fun _ => 0)))))
  generalize va_up M a_drawn (some (.inl (c 0, 8, .inl (fun _ => 0)))) = P1 at hq1 haa_drawn ek1 ⊢
  refine bj_putF d_Mo_init_9 in_Mo ok_Mo nm_Mo rfl (by decide : 3 < 17) wf_Mo_7 rfl rfl rfl rfl rfl rfl rfl (Nat.le_of_ble_eq_true rfl) hq1 ?_
  have hq2 : (va_up P1 q (some (.inr (5, [.int (nI 0), .int (nI 0), .int (nI 0), .ref a_drawn, .int (nI 0), .null, .null, .null, .null, .null, .null, .null, .null, .null, .null, .int (nI 0), .null])))) q = some (.inr (5, [.int (nI 0), .int (nI 0), .int (nI 0), .ref a_drawn, .int (nI 0), .null, .null, .null, .null, .null, .null, .null, .null, .null, .null, .int (nI 0), .null])) := va_up_self _ _ _
  have hf2 : ∀ x, x ≠ q → (va_up P1 q (some (.inr (5, [.int (nI 0), .int (nI 0), .int (nI 0), .ref a_drawn, .int (nI 0), .null, .null, .null, .null, .null, .null, .null, .null, .null, .null, .int (nI 0), .null])))) x = P1 x := fun x hx => va_up_ne _ _ hx
  show bj_S _ _ _ _ _ _ _ _ _ _ [] (va_up P1 q (some (.inr (5, [.int (nI 0), .int (nI 0), .int (nI 0), .ref a_drawn, .int (nI 0), .null, .null, .null, .null, .null, .null, .null, .null, .null, .null, .int (nI 0), .null]))))
  generalize va_up P1 q (some (.inr (5, [.int (nI 0), .int (nI 0), .int (nI 0), .ref a_drawn, .int (nI 0), .null, .null, .null, .null, .null, .null, .null, .null, .null, .null, .int (nI 0), .null]))) = P2 at hq2 hf2 ⊢
  have ek2 : ex_k q P1 P2 := ex_k.put hq2 hf2
  refine bj_aload_n d_Mo_init_12 rfl rfl ?_
  refine bj_bipush (v := (nI 12)) d_Mo_init_13 (by decide) ?_
  refine bj_newa (a0 := (12, .inl (fun _ => 0))) d_Mo_init_15 0 rfl wz_52 (fun cA => arrV_zero cA 12) rfl (by decide) (by decide) (by decide) (by decide) (fun a_state ha_state => ?_)
  have hna_state : a_state ≠ q := fun e => by rw [e, hq2] at ha_state; cases ha_state
  have hq3 : (va_up P2 a_state (some (.inl (c 0, 12, .inl (fun _ => 0))))) q = some (.inr (5, [.int (nI 0), .int (nI 0), .int (nI 0), .ref a_drawn, .int (nI 0), .null, .null, .null, .null, .null, .null, .null, .null, .null, .null, .int (nI 0), .null])) := (va_up_ne _ _ (Ne.symm hna_state)).trans hq2
  have haa_state : (va_up P2 a_state (some (.inl (c 0, 12, .inl (fun _ => 0))))) a_state = some (.inl (c 0, 12, .inl (fun _ => 0))) := va_up_self _ _ _
  have ek3 : ex_k q P2 (va_up P2 a_state (some (.inl (c 0, 12, .inl (fun _ => 0))))) := ex_k.new ha_state (fun x hx => va_up_ne _ _ hx)
  show bj_S _ _ _ _ _ _ _ _ _ _ [.ref a_state, .ref q] (va_up P2 a_state (some (.inl (c 0, 12, .inl (fun _ => 0)))))
  generalize va_up P2 a_state (some (.inl (c 0, 12, .inl (fun _ => 0)))) = P3 at hq3 haa_state ek3 ⊢
  refine bj_putF d_Mo_init_17 in_Mo ok_Mo nm_Mo rfl (by decide : 5 < 17) wf_Mo_13 rfl rfl rfl rfl rfl rfl rfl (Nat.le_of_ble_eq_true rfl) hq3 ?_
  have hq4 : (va_up P3 q (some (.inr (5, [.int (nI 0), .int (nI 0), .int (nI 0), .ref a_drawn, .int (nI 0), .ref a_state, .null, .null, .null, .null, .null, .null, .null, .null, .null, .int (nI 0), .null])))) q = some (.inr (5, [.int (nI 0), .int (nI 0), .int (nI 0), .ref a_drawn, .int (nI 0), .ref a_state, .null, .null, .null, .null, .null, .null, .null, .null, .null, .int (nI 0), .null])) := va_up_self _ _ _
  have hf4 : ∀ x, x ≠ q → (va_up P3 q (some (.inr (5, [.int (nI 0), .int (nI 0), .int (nI 0), .ref a_drawn, .int (nI 0), .ref a_state, .null, .null, .null, .null, .null, .null, .null, .null, .null, .int (nI 0), .null])))) x = P3 x := fun x hx => va_up_ne _ _ hx
  show bj_S _ _ _ _ _ _ _ _ _ _ [] (va_up P3 q (some (.inr (5, [.int (nI 0), .int (nI 0), .int (nI 0), .ref a_drawn, .int (nI 0), .ref a_state, .null, .null, .null, .null, .null, .null, .null, .null, .null, .int (nI 0), .null]))))
  generalize va_up P3 q (some (.inr (5, [.int (nI 0), .int (nI 0), .int (nI 0), .ref a_drawn, .int (nI 0), .ref a_state, .null, .null, .null, .null, .null, .null, .null, .null, .null, .int (nI 0), .null]))) = P4 at hq4 hf4 ⊢
  have ek4 : ex_k q P3 P4 := ex_k.put hq4 hf4
  refine bj_aload_n d_Mo_init_20 rfl rfl ?_
  refine bj_bipush (v := (nI 12)) d_Mo_init_21 (by decide) ?_
  refine bj_newa (a0 := (12, .inl (fun _ => 0))) d_Mo_init_23 0 rfl wz_52 (fun cA => arrV_zero cA 12) rfl (by decide) (by decide) (by decide) (by decide) (fun a_sizes ha_sizes => ?_)
  have hna_sizes : a_sizes ≠ q := fun e => by rw [e, hq4] at ha_sizes; cases ha_sizes
  have hq5 : (va_up P4 a_sizes (some (.inl (c 0, 12, .inl (fun _ => 0))))) q = some (.inr (5, [.int (nI 0), .int (nI 0), .int (nI 0), .ref a_drawn, .int (nI 0), .ref a_state, .null, .null, .null, .null, .null, .null, .null, .null, .null, .int (nI 0), .null])) := (va_up_ne _ _ (Ne.symm hna_sizes)).trans hq4
  have haa_sizes : (va_up P4 a_sizes (some (.inl (c 0, 12, .inl (fun _ => 0))))) a_sizes = some (.inl (c 0, 12, .inl (fun _ => 0))) := va_up_self _ _ _
  have ek5 : ex_k q P4 (va_up P4 a_sizes (some (.inl (c 0, 12, .inl (fun _ => 0))))) := ex_k.new ha_sizes (fun x hx => va_up_ne _ _ hx)
  show bj_S _ _ _ _ _ _ _ _ _ _ [.ref a_sizes, .ref q] (va_up P4 a_sizes (some (.inl (c 0, 12, .inl (fun _ => 0)))))
  generalize va_up P4 a_sizes (some (.inl (c 0, 12, .inl (fun _ => 0)))) = P5 at hq5 haa_sizes ek5 ⊢
  refine bj_putF d_Mo_init_25 in_Mo ok_Mo nm_Mo rfl (by decide : 6 < 17) wf_Mo_16 rfl rfl rfl rfl rfl rfl rfl (Nat.le_of_ble_eq_true rfl) hq5 ?_
  have hq6 : (va_up P5 q (some (.inr (5, [.int (nI 0), .int (nI 0), .int (nI 0), .ref a_drawn, .int (nI 0), .ref a_state, .ref a_sizes, .null, .null, .null, .null, .null, .null, .null, .null, .int (nI 0), .null])))) q = some (.inr (5, [.int (nI 0), .int (nI 0), .int (nI 0), .ref a_drawn, .int (nI 0), .ref a_state, .ref a_sizes, .null, .null, .null, .null, .null, .null, .null, .null, .int (nI 0), .null])) := va_up_self _ _ _
  have hf6 : ∀ x, x ≠ q → (va_up P5 q (some (.inr (5, [.int (nI 0), .int (nI 0), .int (nI 0), .ref a_drawn, .int (nI 0), .ref a_state, .ref a_sizes, .null, .null, .null, .null, .null, .null, .null, .null, .int (nI 0), .null])))) x = P5 x := fun x hx => va_up_ne _ _ hx
  show bj_S _ _ _ _ _ _ _ _ _ _ [] (va_up P5 q (some (.inr (5, [.int (nI 0), .int (nI 0), .int (nI 0), .ref a_drawn, .int (nI 0), .ref a_state, .ref a_sizes, .null, .null, .null, .null, .null, .null, .null, .null, .int (nI 0), .null]))))
  generalize va_up P5 q (some (.inr (5, [.int (nI 0), .int (nI 0), .int (nI 0), .ref a_drawn, .int (nI 0), .ref a_state, .ref a_sizes, .null, .null, .null, .null, .null, .null, .null, .null, .int (nI 0), .null]))) = P6 at hq6 hf6 ⊢
  have ek6 : ex_k q P5 P6 := ex_k.put hq6 hf6
  refine bj_aload_n d_Mo_init_28 rfl rfl ?_
  refine bj_bipush (v := (nI 72)) d_Mo_init_29 (by decide) ?_
  refine bj_newa (a0 := (72, .inl (fun _ => 0))) d_Mo_init_31 0 rfl wz_52 (fun cA => arrV_zero cA 72) rfl (by decide) (by decide) (by decide) (by decide) (fun a_ranking ha_ranking => ?_)
  have hna_ranking : a_ranking ≠ q := fun e => by rw [e, hq6] at ha_ranking; cases ha_ranking
  have hq7 : (va_up P6 a_ranking (some (.inl (c 0, 72, .inl (fun _ => 0))))) q = some (.inr (5, [.int (nI 0), .int (nI 0), .int (nI 0), .ref a_drawn, .int (nI 0), .ref a_state, .ref a_sizes, .null, .null, .null, .null, .null, .null, .null, .null, .int (nI 0), .null])) := (va_up_ne _ _ (Ne.symm hna_ranking)).trans hq6
  have haa_ranking : (va_up P6 a_ranking (some (.inl (c 0, 72, .inl (fun _ => 0))))) a_ranking = some (.inl (c 0, 72, .inl (fun _ => 0))) := va_up_self _ _ _
  have ek7 : ex_k q P6 (va_up P6 a_ranking (some (.inl (c 0, 72, .inl (fun _ => 0))))) := ex_k.new ha_ranking (fun x hx => va_up_ne _ _ hx)
  show bj_S _ _ _ _ _ _ _ _ _ _ [.ref a_ranking, .ref q] (va_up P6 a_ranking (some (.inl (c 0, 72, .inl (fun _ => 0)))))
  generalize va_up P6 a_ranking (some (.inl (c 0, 72, .inl (fun _ => 0)))) = P7 at hq7 haa_ranking ek7 ⊢
  refine bj_putF d_Mo_init_33 in_Mo ok_Mo nm_Mo rfl (by decide : 7 < 17) wf_Mo_19 rfl rfl rfl rfl rfl rfl rfl (Nat.le_of_ble_eq_true rfl) hq7 ?_
  have hq8 : (va_up P7 q (some (.inr (5, [.int (nI 0), .int (nI 0), .int (nI 0), .ref a_drawn, .int (nI 0), .ref a_state, .ref a_sizes, .ref a_ranking, .null, .null, .null, .null, .null, .null, .null, .int (nI 0), .null])))) q = some (.inr (5, [.int (nI 0), .int (nI 0), .int (nI 0), .ref a_drawn, .int (nI 0), .ref a_state, .ref a_sizes, .ref a_ranking, .null, .null, .null, .null, .null, .null, .null, .int (nI 0), .null])) := va_up_self _ _ _
  have hf8 : ∀ x, x ≠ q → (va_up P7 q (some (.inr (5, [.int (nI 0), .int (nI 0), .int (nI 0), .ref a_drawn, .int (nI 0), .ref a_state, .ref a_sizes, .ref a_ranking, .null, .null, .null, .null, .null, .null, .null, .int (nI 0), .null])))) x = P7 x := fun x hx => va_up_ne _ _ hx
  show bj_S _ _ _ _ _ _ _ _ _ _ [] (va_up P7 q (some (.inr (5, [.int (nI 0), .int (nI 0), .int (nI 0), .ref a_drawn, .int (nI 0), .ref a_state, .ref a_sizes, .ref a_ranking, .null, .null, .null, .null, .null, .null, .null, .int (nI 0), .null]))))
  generalize va_up P7 q (some (.inr (5, [.int (nI 0), .int (nI 0), .int (nI 0), .ref a_drawn, .int (nI 0), .ref a_state, .ref a_sizes, .ref a_ranking, .null, .null, .null, .null, .null, .null, .null, .int (nI 0), .null]))) = P8 at hq8 hf8 ⊢
  have ek8 : ex_k q P7 P8 := ex_k.put hq8 hf8
  refine bj_aload_n d_Mo_init_36 rfl rfl ?_
  refine bj_bipush (v := (nI 72)) d_Mo_init_37 (by decide) ?_
  refine bj_newa (a0 := (72, .inl (fun _ => 0))) d_Mo_init_39 0 rfl wz_52 (fun cA => arrV_zero cA 72) rfl (by decide) (by decide) (by decide) (by decide) (fun a_times ha_times => ?_)
  have hna_times : a_times ≠ q := fun e => by rw [e, hq8] at ha_times; cases ha_times
  have hq9 : (va_up P8 a_times (some (.inl (c 0, 72, .inl (fun _ => 0))))) q = some (.inr (5, [.int (nI 0), .int (nI 0), .int (nI 0), .ref a_drawn, .int (nI 0), .ref a_state, .ref a_sizes, .ref a_ranking, .null, .null, .null, .null, .null, .null, .null, .int (nI 0), .null])) := (va_up_ne _ _ (Ne.symm hna_times)).trans hq8
  have haa_times : (va_up P8 a_times (some (.inl (c 0, 72, .inl (fun _ => 0))))) a_times = some (.inl (c 0, 72, .inl (fun _ => 0))) := va_up_self _ _ _
  have ek9 : ex_k q P8 (va_up P8 a_times (some (.inl (c 0, 72, .inl (fun _ => 0))))) := ex_k.new ha_times (fun x hx => va_up_ne _ _ hx)
  show bj_S _ _ _ _ _ _ _ _ _ _ [.ref a_times, .ref q] (va_up P8 a_times (some (.inl (c 0, 72, .inl (fun _ => 0)))))
  generalize va_up P8 a_times (some (.inl (c 0, 72, .inl (fun _ => 0)))) = P9 at hq9 haa_times ek9 ⊢
  refine bj_putF d_Mo_init_41 in_Mo ok_Mo nm_Mo rfl (by decide : 8 < 17) wf_Mo_22 rfl rfl rfl rfl rfl rfl rfl (Nat.le_of_ble_eq_true rfl) hq9 ?_
  have hq10 : (va_up P9 q (some (.inr (5, [.int (nI 0), .int (nI 0), .int (nI 0), .ref a_drawn, .int (nI 0), .ref a_state, .ref a_sizes, .ref a_ranking, .ref a_times, .null, .null, .null, .null, .null, .null, .int (nI 0), .null])))) q = some (.inr (5, [.int (nI 0), .int (nI 0), .int (nI 0), .ref a_drawn, .int (nI 0), .ref a_state, .ref a_sizes, .ref a_ranking, .ref a_times, .null, .null, .null, .null, .null, .null, .int (nI 0), .null])) := va_up_self _ _ _
  have hf10 : ∀ x, x ≠ q → (va_up P9 q (some (.inr (5, [.int (nI 0), .int (nI 0), .int (nI 0), .ref a_drawn, .int (nI 0), .ref a_state, .ref a_sizes, .ref a_ranking, .ref a_times, .null, .null, .null, .null, .null, .null, .int (nI 0), .null])))) x = P9 x := fun x hx => va_up_ne _ _ hx
  show bj_S _ _ _ _ _ _ _ _ _ _ [] (va_up P9 q (some (.inr (5, [.int (nI 0), .int (nI 0), .int (nI 0), .ref a_drawn, .int (nI 0), .ref a_state, .ref a_sizes, .ref a_ranking, .ref a_times, .null, .null, .null, .null, .null, .null, .int (nI 0), .null]))))
  generalize va_up P9 q (some (.inr (5, [.int (nI 0), .int (nI 0), .int (nI 0), .ref a_drawn, .int (nI 0), .ref a_state, .ref a_sizes, .ref a_ranking, .ref a_times, .null, .null, .null, .null, .null, .null, .int (nI 0), .null]))) = P10 at hq10 hf10 ⊢
  have ek10 : ex_k q P9 P10 := ex_k.put hq10 hf10
  refine bj_aload_n d_Mo_init_44 rfl rfl ?_
  refine bj_bipush (v := (nI 64)) d_Mo_init_45 (by decide) ?_
  refine bj_newa (a0 := (64, .inl (fun _ => 0))) d_Mo_init_47 0 rfl wz_52 (fun cA => arrV_zero cA 64) rfl (by decide) (by decide) (by decide) (by decide) (fun a_prefer ha_prefer => ?_)
  have hna_prefer : a_prefer ≠ q := fun e => by rw [e, hq10] at ha_prefer; cases ha_prefer
  have hq11 : (va_up P10 a_prefer (some (.inl (c 0, 64, .inl (fun _ => 0))))) q = some (.inr (5, [.int (nI 0), .int (nI 0), .int (nI 0), .ref a_drawn, .int (nI 0), .ref a_state, .ref a_sizes, .ref a_ranking, .ref a_times, .null, .null, .null, .null, .null, .null, .int (nI 0), .null])) := (va_up_ne _ _ (Ne.symm hna_prefer)).trans hq10
  have haa_prefer : (va_up P10 a_prefer (some (.inl (c 0, 64, .inl (fun _ => 0))))) a_prefer = some (.inl (c 0, 64, .inl (fun _ => 0))) := va_up_self _ _ _
  have ek11 : ex_k q P10 (va_up P10 a_prefer (some (.inl (c 0, 64, .inl (fun _ => 0))))) := ex_k.new ha_prefer (fun x hx => va_up_ne _ _ hx)
  show bj_S _ _ _ _ _ _ _ _ _ _ [.ref a_prefer, .ref q] (va_up P10 a_prefer (some (.inl (c 0, 64, .inl (fun _ => 0)))))
  generalize va_up P10 a_prefer (some (.inl (c 0, 64, .inl (fun _ => 0)))) = P11 at hq11 haa_prefer ek11 ⊢
  refine bj_putF d_Mo_init_49 in_Mo ok_Mo nm_Mo rfl (by decide : 9 < 17) wf_Mo_25 rfl rfl rfl rfl rfl rfl rfl (Nat.le_of_ble_eq_true rfl) hq11 ?_
  have hq12 : (va_up P11 q (some (.inr (5, [.int (nI 0), .int (nI 0), .int (nI 0), .ref a_drawn, .int (nI 0), .ref a_state, .ref a_sizes, .ref a_ranking, .ref a_times, .ref a_prefer, .null, .null, .null, .null, .null, .int (nI 0), .null])))) q = some (.inr (5, [.int (nI 0), .int (nI 0), .int (nI 0), .ref a_drawn, .int (nI 0), .ref a_state, .ref a_sizes, .ref a_ranking, .ref a_times, .ref a_prefer, .null, .null, .null, .null, .null, .int (nI 0), .null])) := va_up_self _ _ _
  have hf12 : ∀ x, x ≠ q → (va_up P11 q (some (.inr (5, [.int (nI 0), .int (nI 0), .int (nI 0), .ref a_drawn, .int (nI 0), .ref a_state, .ref a_sizes, .ref a_ranking, .ref a_times, .ref a_prefer, .null, .null, .null, .null, .null, .int (nI 0), .null])))) x = P11 x := fun x hx => va_up_ne _ _ hx
  show bj_S _ _ _ _ _ _ _ _ _ _ [] (va_up P11 q (some (.inr (5, [.int (nI 0), .int (nI 0), .int (nI 0), .ref a_drawn, .int (nI 0), .ref a_state, .ref a_sizes, .ref a_ranking, .ref a_times, .ref a_prefer, .null, .null, .null, .null, .null, .int (nI 0), .null]))))
  generalize va_up P11 q (some (.inr (5, [.int (nI 0), .int (nI 0), .int (nI 0), .ref a_drawn, .int (nI 0), .ref a_state, .ref a_sizes, .ref a_ranking, .ref a_times, .ref a_prefer, .null, .null, .null, .null, .null, .int (nI 0), .null]))) = P12 at hq12 hf12 ⊢
  have ek12 : ex_k q P11 P12 := ex_k.put hq12 hf12
  refine bj_aload_n d_Mo_init_52 rfl rfl ?_
  refine bj_bipush (v := (nI 64)) d_Mo_init_53 (by decide) ?_
  refine bj_newa (a0 := (64, .inl (fun _ => 0))) d_Mo_init_55 0 rfl wz_52 (fun cA => arrV_zero cA 64) rfl (by decide) (by decide) (by decide) (by decide) (fun a_direct ha_direct => ?_)
  have hna_direct : a_direct ≠ q := fun e => by rw [e, hq12] at ha_direct; cases ha_direct
  have hq13 : (va_up P12 a_direct (some (.inl (c 0, 64, .inl (fun _ => 0))))) q = some (.inr (5, [.int (nI 0), .int (nI 0), .int (nI 0), .ref a_drawn, .int (nI 0), .ref a_state, .ref a_sizes, .ref a_ranking, .ref a_times, .ref a_prefer, .null, .null, .null, .null, .null, .int (nI 0), .null])) := (va_up_ne _ _ (Ne.symm hna_direct)).trans hq12
  have haa_direct : (va_up P12 a_direct (some (.inl (c 0, 64, .inl (fun _ => 0))))) a_direct = some (.inl (c 0, 64, .inl (fun _ => 0))) := va_up_self _ _ _
  have ek13 : ex_k q P12 (va_up P12 a_direct (some (.inl (c 0, 64, .inl (fun _ => 0))))) := ex_k.new ha_direct (fun x hx => va_up_ne _ _ hx)
  show bj_S _ _ _ _ _ _ _ _ _ _ [.ref a_direct, .ref q] (va_up P12 a_direct (some (.inl (c 0, 64, .inl (fun _ => 0)))))
  generalize va_up P12 a_direct (some (.inl (c 0, 64, .inl (fun _ => 0)))) = P13 at hq13 haa_direct ek13 ⊢
  refine bj_putF d_Mo_init_57 in_Mo ok_Mo nm_Mo rfl (by decide : 10 < 17) wf_Mo_28 rfl rfl rfl rfl rfl rfl rfl (Nat.le_of_ble_eq_true rfl) hq13 ?_
  have hq14 : (va_up P13 q (some (.inr (5, [.int (nI 0), .int (nI 0), .int (nI 0), .ref a_drawn, .int (nI 0), .ref a_state, .ref a_sizes, .ref a_ranking, .ref a_times, .ref a_prefer, .ref a_direct, .null, .null, .null, .null, .int (nI 0), .null])))) q = some (.inr (5, [.int (nI 0), .int (nI 0), .int (nI 0), .ref a_drawn, .int (nI 0), .ref a_state, .ref a_sizes, .ref a_ranking, .ref a_times, .ref a_prefer, .ref a_direct, .null, .null, .null, .null, .int (nI 0), .null])) := va_up_self _ _ _
  have hf14 : ∀ x, x ≠ q → (va_up P13 q (some (.inr (5, [.int (nI 0), .int (nI 0), .int (nI 0), .ref a_drawn, .int (nI 0), .ref a_state, .ref a_sizes, .ref a_ranking, .ref a_times, .ref a_prefer, .ref a_direct, .null, .null, .null, .null, .int (nI 0), .null])))) x = P13 x := fun x hx => va_up_ne _ _ hx
  show bj_S _ _ _ _ _ _ _ _ _ _ [] (va_up P13 q (some (.inr (5, [.int (nI 0), .int (nI 0), .int (nI 0), .ref a_drawn, .int (nI 0), .ref a_state, .ref a_sizes, .ref a_ranking, .ref a_times, .ref a_prefer, .ref a_direct, .null, .null, .null, .null, .int (nI 0), .null]))))
  generalize va_up P13 q (some (.inr (5, [.int (nI 0), .int (nI 0), .int (nI 0), .ref a_drawn, .int (nI 0), .ref a_state, .ref a_sizes, .ref a_ranking, .ref a_times, .ref a_prefer, .ref a_direct, .null, .null, .null, .null, .int (nI 0), .null]))) = P14 at hq14 hf14 ⊢
  have ek14 : ex_k q P13 P14 := ex_k.put hq14 hf14
  refine bj_aload_n d_Mo_init_60 rfl rfl ?_
  refine bj_bipush (v := (nI 64)) d_Mo_init_61 (by decide) ?_
  refine bj_newa (a0 := (64, .inl (fun _ => 0))) d_Mo_init_63 0 rfl wz_52 (fun cA => arrV_zero cA 64) rfl (by decide) (by decide) (by decide) (by decide) (fun a_strength ha_strength => ?_)
  have hna_strength : a_strength ≠ q := fun e => by rw [e, hq14] at ha_strength; cases ha_strength
  have hq15 : (va_up P14 a_strength (some (.inl (c 0, 64, .inl (fun _ => 0))))) q = some (.inr (5, [.int (nI 0), .int (nI 0), .int (nI 0), .ref a_drawn, .int (nI 0), .ref a_state, .ref a_sizes, .ref a_ranking, .ref a_times, .ref a_prefer, .ref a_direct, .null, .null, .null, .null, .int (nI 0), .null])) := (va_up_ne _ _ (Ne.symm hna_strength)).trans hq14
  have haa_strength : (va_up P14 a_strength (some (.inl (c 0, 64, .inl (fun _ => 0))))) a_strength = some (.inl (c 0, 64, .inl (fun _ => 0))) := va_up_self _ _ _
  have ek15 : ex_k q P14 (va_up P14 a_strength (some (.inl (c 0, 64, .inl (fun _ => 0))))) := ex_k.new ha_strength (fun x hx => va_up_ne _ _ hx)
  show bj_S _ _ _ _ _ _ _ _ _ _ [.ref a_strength, .ref q] (va_up P14 a_strength (some (.inl (c 0, 64, .inl (fun _ => 0)))))
  generalize va_up P14 a_strength (some (.inl (c 0, 64, .inl (fun _ => 0)))) = P15 at hq15 haa_strength ek15 ⊢
  refine bj_putF d_Mo_init_65 in_Mo ok_Mo nm_Mo rfl (by decide : 11 < 17) wf_Mo_31 rfl rfl rfl rfl rfl rfl rfl (Nat.le_of_ble_eq_true rfl) hq15 ?_
  have hq16 : (va_up P15 q (some (.inr (5, [.int (nI 0), .int (nI 0), .int (nI 0), .ref a_drawn, .int (nI 0), .ref a_state, .ref a_sizes, .ref a_ranking, .ref a_times, .ref a_prefer, .ref a_direct, .ref a_strength, .null, .null, .null, .int (nI 0), .null])))) q = some (.inr (5, [.int (nI 0), .int (nI 0), .int (nI 0), .ref a_drawn, .int (nI 0), .ref a_state, .ref a_sizes, .ref a_ranking, .ref a_times, .ref a_prefer, .ref a_direct, .ref a_strength, .null, .null, .null, .int (nI 0), .null])) := va_up_self _ _ _
  have hf16 : ∀ x, x ≠ q → (va_up P15 q (some (.inr (5, [.int (nI 0), .int (nI 0), .int (nI 0), .ref a_drawn, .int (nI 0), .ref a_state, .ref a_sizes, .ref a_ranking, .ref a_times, .ref a_prefer, .ref a_direct, .ref a_strength, .null, .null, .null, .int (nI 0), .null])))) x = P15 x := fun x hx => va_up_ne _ _ hx
  show bj_S _ _ _ _ _ _ _ _ _ _ [] (va_up P15 q (some (.inr (5, [.int (nI 0), .int (nI 0), .int (nI 0), .ref a_drawn, .int (nI 0), .ref a_state, .ref a_sizes, .ref a_ranking, .ref a_times, .ref a_prefer, .ref a_direct, .ref a_strength, .null, .null, .null, .int (nI 0), .null]))))
  generalize va_up P15 q (some (.inr (5, [.int (nI 0), .int (nI 0), .int (nI 0), .ref a_drawn, .int (nI 0), .ref a_state, .ref a_sizes, .ref a_ranking, .ref a_times, .ref a_prefer, .ref a_direct, .ref a_strength, .null, .null, .null, .int (nI 0), .null]))) = P16 at hq16 hf16 ⊢
  have ek16 : ex_k q P15 P16 := ex_k.put hq16 hf16
  refine bj_aload_n d_Mo_init_68 rfl rfl ?_
  refine bj_bipush (v := (nI 64)) d_Mo_init_69 (by decide) ?_
  refine bj_newa (a0 := (64, .inl (fun _ => 0))) d_Mo_init_71 1 rfl wz_641 (fun cA => arrV_zeroZ cA 64) rfl (by decide) (by decide) (by decide) (by decide) (fun a_locked ha_locked => ?_)
  have hna_locked : a_locked ≠ q := fun e => by rw [e, hq16] at ha_locked; cases ha_locked
  have hq17 : (va_up P16 a_locked (some (.inl (c 1, 64, .inl (fun _ => 0))))) q = some (.inr (5, [.int (nI 0), .int (nI 0), .int (nI 0), .ref a_drawn, .int (nI 0), .ref a_state, .ref a_sizes, .ref a_ranking, .ref a_times, .ref a_prefer, .ref a_direct, .ref a_strength, .null, .null, .null, .int (nI 0), .null])) := (va_up_ne _ _ (Ne.symm hna_locked)).trans hq16
  have haa_locked : (va_up P16 a_locked (some (.inl (c 1, 64, .inl (fun _ => 0))))) a_locked = some (.inl (c 1, 64, .inl (fun _ => 0))) := va_up_self _ _ _
  have ek17 : ex_k q P16 (va_up P16 a_locked (some (.inl (c 1, 64, .inl (fun _ => 0))))) := ex_k.new ha_locked (fun x hx => va_up_ne _ _ hx)
  show bj_S _ _ _ _ _ _ _ _ _ _ [.ref a_locked, .ref q] (va_up P16 a_locked (some (.inl (c 1, 64, .inl (fun _ => 0)))))
  generalize va_up P16 a_locked (some (.inl (c 1, 64, .inl (fun _ => 0)))) = P17 at hq17 haa_locked ek17 ⊢
  refine bj_putF d_Mo_init_73 in_Mo ok_Mo nm_Mo rfl (by decide : 12 < 17) wf_Mo_34 rfl rfl rfl rfl rfl rfl rfl (Nat.le_of_ble_eq_true rfl) hq17 ?_
  have hq18 : (va_up P17 q (some (.inr (5, [.int (nI 0), .int (nI 0), .int (nI 0), .ref a_drawn, .int (nI 0), .ref a_state, .ref a_sizes, .ref a_ranking, .ref a_times, .ref a_prefer, .ref a_direct, .ref a_strength, .ref a_locked, .null, .null, .int (nI 0), .null])))) q = some (.inr (5, [.int (nI 0), .int (nI 0), .int (nI 0), .ref a_drawn, .int (nI 0), .ref a_state, .ref a_sizes, .ref a_ranking, .ref a_times, .ref a_prefer, .ref a_direct, .ref a_strength, .ref a_locked, .null, .null, .int (nI 0), .null])) := va_up_self _ _ _
  have hf18 : ∀ x, x ≠ q → (va_up P17 q (some (.inr (5, [.int (nI 0), .int (nI 0), .int (nI 0), .ref a_drawn, .int (nI 0), .ref a_state, .ref a_sizes, .ref a_ranking, .ref a_times, .ref a_prefer, .ref a_direct, .ref a_strength, .ref a_locked, .null, .null, .int (nI 0), .null])))) x = P17 x := fun x hx => va_up_ne _ _ hx
  show bj_S _ _ _ _ _ _ _ _ _ _ [] (va_up P17 q (some (.inr (5, [.int (nI 0), .int (nI 0), .int (nI 0), .ref a_drawn, .int (nI 0), .ref a_state, .ref a_sizes, .ref a_ranking, .ref a_times, .ref a_prefer, .ref a_direct, .ref a_strength, .ref a_locked, .null, .null, .int (nI 0), .null]))))
  generalize va_up P17 q (some (.inr (5, [.int (nI 0), .int (nI 0), .int (nI 0), .ref a_drawn, .int (nI 0), .ref a_state, .ref a_sizes, .ref a_ranking, .ref a_times, .ref a_prefer, .ref a_direct, .ref a_strength, .ref a_locked, .null, .null, .int (nI 0), .null]))) = P18 at hq18 hf18 ⊢
  have ek18 : ex_k q P17 P18 := ex_k.put hq18 hf18
  refine bj_aload_n d_Mo_init_76 rfl rfl ?_
  refine bj_bipush (v := (nI 64)) d_Mo_init_77 (by decide) ?_
  refine bj_newa (a0 := (64, .inl (fun _ => 0))) d_Mo_init_79 1 rfl wz_641 (fun cA => arrV_zeroZ cA 64) rfl (by decide) (by decide) (by decide) (by decide) (fun a_leads ha_leads => ?_)
  have hna_leads : a_leads ≠ q := fun e => by rw [e, hq18] at ha_leads; cases ha_leads
  have hq19 : (va_up P18 a_leads (some (.inl (c 1, 64, .inl (fun _ => 0))))) q = some (.inr (5, [.int (nI 0), .int (nI 0), .int (nI 0), .ref a_drawn, .int (nI 0), .ref a_state, .ref a_sizes, .ref a_ranking, .ref a_times, .ref a_prefer, .ref a_direct, .ref a_strength, .ref a_locked, .null, .null, .int (nI 0), .null])) := (va_up_ne _ _ (Ne.symm hna_leads)).trans hq18
  have haa_leads : (va_up P18 a_leads (some (.inl (c 1, 64, .inl (fun _ => 0))))) a_leads = some (.inl (c 1, 64, .inl (fun _ => 0))) := va_up_self _ _ _
  have ek19 : ex_k q P18 (va_up P18 a_leads (some (.inl (c 1, 64, .inl (fun _ => 0))))) := ex_k.new ha_leads (fun x hx => va_up_ne _ _ hx)
  show bj_S _ _ _ _ _ _ _ _ _ _ [.ref a_leads, .ref q] (va_up P18 a_leads (some (.inl (c 1, 64, .inl (fun _ => 0)))))
  generalize va_up P18 a_leads (some (.inl (c 1, 64, .inl (fun _ => 0)))) = P19 at hq19 haa_leads ek19 ⊢
  refine bj_putF d_Mo_init_81 in_Mo ok_Mo nm_Mo rfl (by decide : 13 < 17) wf_Mo_38 rfl rfl rfl rfl rfl rfl rfl (Nat.le_of_ble_eq_true rfl) hq19 ?_
  have hq20 : (va_up P19 q (some (.inr (5, [.int (nI 0), .int (nI 0), .int (nI 0), .ref a_drawn, .int (nI 0), .ref a_state, .ref a_sizes, .ref a_ranking, .ref a_times, .ref a_prefer, .ref a_direct, .ref a_strength, .ref a_locked, .ref a_leads, .null, .int (nI 0), .null])))) q = some (.inr (5, [.int (nI 0), .int (nI 0), .int (nI 0), .ref a_drawn, .int (nI 0), .ref a_state, .ref a_sizes, .ref a_ranking, .ref a_times, .ref a_prefer, .ref a_direct, .ref a_strength, .ref a_locked, .ref a_leads, .null, .int (nI 0), .null])) := va_up_self _ _ _
  have hf20 : ∀ x, x ≠ q → (va_up P19 q (some (.inr (5, [.int (nI 0), .int (nI 0), .int (nI 0), .ref a_drawn, .int (nI 0), .ref a_state, .ref a_sizes, .ref a_ranking, .ref a_times, .ref a_prefer, .ref a_direct, .ref a_strength, .ref a_locked, .ref a_leads, .null, .int (nI 0), .null])))) x = P19 x := fun x hx => va_up_ne _ _ hx
  show bj_S _ _ _ _ _ _ _ _ _ _ [] (va_up P19 q (some (.inr (5, [.int (nI 0), .int (nI 0), .int (nI 0), .ref a_drawn, .int (nI 0), .ref a_state, .ref a_sizes, .ref a_ranking, .ref a_times, .ref a_prefer, .ref a_direct, .ref a_strength, .ref a_locked, .ref a_leads, .null, .int (nI 0), .null]))))
  generalize va_up P19 q (some (.inr (5, [.int (nI 0), .int (nI 0), .int (nI 0), .ref a_drawn, .int (nI 0), .ref a_state, .ref a_sizes, .ref a_ranking, .ref a_times, .ref a_prefer, .ref a_direct, .ref a_strength, .ref a_locked, .ref a_leads, .null, .int (nI 0), .null]))) = P20 at hq20 hf20 ⊢
  have ek20 : ex_k q P19 P20 := ex_k.put hq20 hf20
  refine bj_aload_n d_Mo_init_84 rfl rfl ?_
  refine bj_bipush (v := (nI 8)) d_Mo_init_85 (by decide) ?_
  refine bj_newa (a0 := (8, .inl (fun _ => 0))) d_Mo_init_87 0 rfl wz_52 (fun cA => arrV_zero cA 8) rfl (by decide) (by decide) (by decide) (by decide) (fun a_far ha_far => ?_)
  have hna_far : a_far ≠ q := fun e => by rw [e, hq20] at ha_far; cases ha_far
  have hq21 : (va_up P20 a_far (some (.inl (c 0, 8, .inl (fun _ => 0))))) q = some (.inr (5, [.int (nI 0), .int (nI 0), .int (nI 0), .ref a_drawn, .int (nI 0), .ref a_state, .ref a_sizes, .ref a_ranking, .ref a_times, .ref a_prefer, .ref a_direct, .ref a_strength, .ref a_locked, .ref a_leads, .null, .int (nI 0), .null])) := (va_up_ne _ _ (Ne.symm hna_far)).trans hq20
  have haa_far : (va_up P20 a_far (some (.inl (c 0, 8, .inl (fun _ => 0))))) a_far = some (.inl (c 0, 8, .inl (fun _ => 0))) := va_up_self _ _ _
  have ek21 : ex_k q P20 (va_up P20 a_far (some (.inl (c 0, 8, .inl (fun _ => 0))))) := ex_k.new ha_far (fun x hx => va_up_ne _ _ hx)
  show bj_S _ _ _ _ _ _ _ _ _ _ [.ref a_far, .ref q] (va_up P20 a_far (some (.inl (c 0, 8, .inl (fun _ => 0)))))
  generalize va_up P20 a_far (some (.inl (c 0, 8, .inl (fun _ => 0)))) = P21 at hq21 haa_far ek21 ⊢
  refine bj_putF d_Mo_init_89 in_Mo ok_Mo nm_Mo rfl (by decide : 14 < 17) wf_Mo_41 rfl rfl rfl rfl rfl rfl rfl (Nat.le_of_ble_eq_true rfl) hq21 ?_
  have hq22 : (va_up P21 q (some (.inr (5, [.int (nI 0), .int (nI 0), .int (nI 0), .ref a_drawn, .int (nI 0), .ref a_state, .ref a_sizes, .ref a_ranking, .ref a_times, .ref a_prefer, .ref a_direct, .ref a_strength, .ref a_locked, .ref a_leads, .ref a_far, .int (nI 0), .null])))) q = some (.inr (5, [.int (nI 0), .int (nI 0), .int (nI 0), .ref a_drawn, .int (nI 0), .ref a_state, .ref a_sizes, .ref a_ranking, .ref a_times, .ref a_prefer, .ref a_direct, .ref a_strength, .ref a_locked, .ref a_leads, .ref a_far, .int (nI 0), .null])) := va_up_self _ _ _
  have hf22 : ∀ x, x ≠ q → (va_up P21 q (some (.inr (5, [.int (nI 0), .int (nI 0), .int (nI 0), .ref a_drawn, .int (nI 0), .ref a_state, .ref a_sizes, .ref a_ranking, .ref a_times, .ref a_prefer, .ref a_direct, .ref a_strength, .ref a_locked, .ref a_leads, .ref a_far, .int (nI 0), .null])))) x = P21 x := fun x hx => va_up_ne _ _ hx
  show bj_S _ _ _ _ _ _ _ _ _ _ [] (va_up P21 q (some (.inr (5, [.int (nI 0), .int (nI 0), .int (nI 0), .ref a_drawn, .int (nI 0), .ref a_state, .ref a_sizes, .ref a_ranking, .ref a_times, .ref a_prefer, .ref a_direct, .ref a_strength, .ref a_locked, .ref a_leads, .ref a_far, .int (nI 0), .null]))))
  generalize va_up P21 q (some (.inr (5, [.int (nI 0), .int (nI 0), .int (nI 0), .ref a_drawn, .int (nI 0), .ref a_state, .ref a_sizes, .ref a_ranking, .ref a_times, .ref a_prefer, .ref a_direct, .ref a_strength, .ref a_locked, .ref a_leads, .ref a_far, .int (nI 0), .null]))) = P22 at hq22 hf22 ⊢
  have ek22 : ex_k q P21 P22 := ex_k.put hq22 hf22
  refine bj_aload_n d_Mo_init_92 rfl rfl ?_
  refine bj_bipush (v := (nI 8)) d_Mo_init_93 (by decide) ?_
  refine bj_newa (a0 := (8, .inl (fun _ => 0))) d_Mo_init_95 0 rfl wz_52 (fun cA => arrV_zero cA 8) rfl (by decide) (by decide) (by decide) (by decide) (fun a_list ha_list => ?_)
  have hna_list : a_list ≠ q := fun e => by rw [e, hq22] at ha_list; cases ha_list
  have hq23 : (va_up P22 a_list (some (.inl (c 0, 8, .inl (fun _ => 0))))) q = some (.inr (5, [.int (nI 0), .int (nI 0), .int (nI 0), .ref a_drawn, .int (nI 0), .ref a_state, .ref a_sizes, .ref a_ranking, .ref a_times, .ref a_prefer, .ref a_direct, .ref a_strength, .ref a_locked, .ref a_leads, .ref a_far, .int (nI 0), .null])) := (va_up_ne _ _ (Ne.symm hna_list)).trans hq22
  have haa_list : (va_up P22 a_list (some (.inl (c 0, 8, .inl (fun _ => 0))))) a_list = some (.inl (c 0, 8, .inl (fun _ => 0))) := va_up_self _ _ _
  have ek23 : ex_k q P22 (va_up P22 a_list (some (.inl (c 0, 8, .inl (fun _ => 0))))) := ex_k.new ha_list (fun x hx => va_up_ne _ _ hx)
  show bj_S _ _ _ _ _ _ _ _ _ _ [.ref a_list, .ref q] (va_up P22 a_list (some (.inl (c 0, 8, .inl (fun _ => 0)))))
  generalize va_up P22 a_list (some (.inl (c 0, 8, .inl (fun _ => 0)))) = P23 at hq23 haa_list ek23 ⊢
  refine bj_putF d_Mo_init_97 in_Mo ok_Mo nm_Mo rfl (by decide : 16 < 17) wf_Mo_44 rfl rfl rfl rfl rfl rfl rfl (Nat.le_of_ble_eq_true rfl) hq23 ?_
  have hq24 : (va_up P23 q (some (.inr (5, [.int (nI 0), .int (nI 0), .int (nI 0), .ref a_drawn, .int (nI 0), .ref a_state, .ref a_sizes, .ref a_ranking, .ref a_times, .ref a_prefer, .ref a_direct, .ref a_strength, .ref a_locked, .ref a_leads, .ref a_far, .int (nI 0), .ref a_list])))) q = some (.inr (5, [.int (nI 0), .int (nI 0), .int (nI 0), .ref a_drawn, .int (nI 0), .ref a_state, .ref a_sizes, .ref a_ranking, .ref a_times, .ref a_prefer, .ref a_direct, .ref a_strength, .ref a_locked, .ref a_leads, .ref a_far, .int (nI 0), .ref a_list])) := va_up_self _ _ _
  have hf24 : ∀ x, x ≠ q → (va_up P23 q (some (.inr (5, [.int (nI 0), .int (nI 0), .int (nI 0), .ref a_drawn, .int (nI 0), .ref a_state, .ref a_sizes, .ref a_ranking, .ref a_times, .ref a_prefer, .ref a_direct, .ref a_strength, .ref a_locked, .ref a_leads, .ref a_far, .int (nI 0), .ref a_list])))) x = P23 x := fun x hx => va_up_ne _ _ hx
  show bj_S _ _ _ _ _ _ _ _ _ _ [] (va_up P23 q (some (.inr (5, [.int (nI 0), .int (nI 0), .int (nI 0), .ref a_drawn, .int (nI 0), .ref a_state, .ref a_sizes, .ref a_ranking, .ref a_times, .ref a_prefer, .ref a_direct, .ref a_strength, .ref a_locked, .ref a_leads, .ref a_far, .int (nI 0), .ref a_list]))))
  generalize va_up P23 q (some (.inr (5, [.int (nI 0), .int (nI 0), .int (nI 0), .ref a_drawn, .int (nI 0), .ref a_state, .ref a_sizes, .ref a_ranking, .ref a_times, .ref a_prefer, .ref a_direct, .ref a_strength, .ref a_locked, .ref a_leads, .ref a_far, .int (nI 0), .ref a_list]))) = P24 at hq24 hf24 ⊢
  have ek24 : ex_k q P23 P24 := ex_k.put hq24 hf24
  have hJ : ∀ v : Int32, v = nI (nc xn) → bj_S (bw_G l D c) Y_Mo_init 1 (12, 512, 0, 0) (fun k => k) (q_iMo c M q (nc xn)) 12 512 117 [some (.ref q), some (.int xn), none] [.int v, .ref q] P24 := by
    intro v hv
    subst hv
    refine bj_putF d_Mo_init_117 in_Mo ok_Mo nm_Mo rfl (by decide : 0 < 17) wf_Mo_47 rfl rfl rfl rfl rfl rfl rfl (Nat.le_of_ble_eq_true rfl) hq24 ?_
    have hq25 : (va_up P24 q (some (.inr (5, [.int (nI (nc xn)), .int (nI 0), .int (nI 0), .ref a_drawn, .int (nI 0), .ref a_state, .ref a_sizes, .ref a_ranking, .ref a_times, .ref a_prefer, .ref a_direct, .ref a_strength, .ref a_locked, .ref a_leads, .ref a_far, .int (nI 0), .ref a_list])))) q = some (.inr (5, [.int (nI (nc xn)), .int (nI 0), .int (nI 0), .ref a_drawn, .int (nI 0), .ref a_state, .ref a_sizes, .ref a_ranking, .ref a_times, .ref a_prefer, .ref a_direct, .ref a_strength, .ref a_locked, .ref a_leads, .ref a_far, .int (nI 0), .ref a_list])) := va_up_self _ _ _
    have hf25 : ∀ x, x ≠ q → (va_up P24 q (some (.inr (5, [.int (nI (nc xn)), .int (nI 0), .int (nI 0), .ref a_drawn, .int (nI 0), .ref a_state, .ref a_sizes, .ref a_ranking, .ref a_times, .ref a_prefer, .ref a_direct, .ref a_strength, .ref a_locked, .ref a_leads, .ref a_far, .int (nI 0), .ref a_list])))) x = P24 x := fun x hx => va_up_ne _ _ hx
    show bj_S _ _ _ _ _ _ _ _ _ _ [] (va_up P24 q (some (.inr (5, [.int (nI (nc xn)), .int (nI 0), .int (nI 0), .ref a_drawn, .int (nI 0), .ref a_state, .ref a_sizes, .ref a_ranking, .ref a_times, .ref a_prefer, .ref a_direct, .ref a_strength, .ref a_locked, .ref a_leads, .ref a_far, .int (nI 0), .ref a_list]))))
    generalize va_up P24 q (some (.inr (5, [.int (nI (nc xn)), .int (nI 0), .int (nI 0), .ref a_drawn, .int (nI 0), .ref a_state, .ref a_sizes, .ref a_ranking, .ref a_times, .ref a_prefer, .ref a_direct, .ref a_strength, .ref a_locked, .ref a_leads, .ref a_far, .int (nI 0), .ref a_list]))) = P25 at hq25 hf25 ⊢
    have ek25 : ex_k q P24 P25 := ex_k.put hq25 hf25
    have E25 : ex_k q P25 P25 := ex_k.rf
    have E24 : ex_k q P24 P25 := ek25.tr E25
    have E23 : ex_k q P23 P25 := ek24.tr E24
    have E22 : ex_k q P22 P25 := ek23.tr E23
    have E21 : ex_k q P21 P25 := ek22.tr E22
    have E20 : ex_k q P20 P25 := ek21.tr E21
    have E19 : ex_k q P19 P25 := ek20.tr E20
    have E18 : ex_k q P18 P25 := ek19.tr E19
    have E17 : ex_k q P17 P25 := ek18.tr E18
    have E16 : ex_k q P16 P25 := ek17.tr E17
    have E15 : ex_k q P15 P25 := ek16.tr E16
    have E14 : ex_k q P14 P25 := ek15.tr E15
    have E13 : ex_k q P13 P25 := ek14.tr E14
    have E12 : ex_k q P12 P25 := ek13.tr E13
    have E11 : ex_k q P11 P25 := ek12.tr E12
    have E10 : ex_k q P10 P25 := ek11.tr E11
    have E9 : ex_k q P9 P25 := ek10.tr E10
    have E8 : ex_k q P8 P25 := ek9.tr E9
    have E7 : ex_k q P7 P25 := ek8.tr E8
    have E6 : ex_k q P6 P25 := ek7.tr E7
    have E5 : ex_k q P5 P25 := ek6.tr E6
    have E4 : ex_k q P4 P25 := ek5.tr E5
    have E3 : ex_k q P3 P25 := ek4.tr E4
    have E2 : ex_k q P2 P25 := ek3.tr E3
    have E1 : ex_k q P1 P25 := ek2.tr E2
    have E0 : ex_k q M P25 := ek1.tr E1
    have F0 : ex_k q M M := ex_k.rf
    have F1 : ex_k q M P1 := F0.tr ek1
    have F2 : ex_k q M P2 := F1.tr ek2
    have F3 : ex_k q M P3 := F2.tr ek3
    have F4 : ex_k q M P4 := F3.tr ek4
    have F5 : ex_k q M P5 := F4.tr ek5
    have F6 : ex_k q M P6 := F5.tr ek6
    have F7 : ex_k q M P7 := F6.tr ek7
    have F8 : ex_k q M P8 := F7.tr ek8
    have F9 : ex_k q M P9 := F8.tr ek9
    have F10 : ex_k q M P10 := F9.tr ek10
    have F11 : ex_k q M P11 := F10.tr ek11
    have F12 : ex_k q M P12 := F11.tr ek12
    have F13 : ex_k q M P13 := F12.tr ek13
    have F14 : ex_k q M P14 := F13.tr ek14
    have F15 : ex_k q M P15 := F14.tr ek15
    have F16 : ex_k q M P16 := F15.tr ek16
    have F17 : ex_k q M P17 := F16.tr ek17
    have F18 : ex_k q M P18 := F17.tr ek18
    have F19 : ex_k q M P19 := F18.tr ek19
    have F20 : ex_k q M P20 := F19.tr ek20
    have F21 : ex_k q M P21 := F20.tr ek21
    have F22 : ex_k q M P22 := F21.tr ek22
    have F23 : ex_k q M P23 := F22.tr ek23
    have F24 : ex_k q M P24 := F23.tr ek24
    have F25 : ex_k q M P25 := F24.tr ek25
    have ba_drawn : P25 a_drawn = some (.inl (c 0, 8, .inl (fun _ => 0))) := (E1.2 a_drawn (bj_ne haa_drawn) hna_drawn).trans haa_drawn
    have na_drawn : M a_drawn = none := F0.old ha_drawn
    have ba_state : P25 a_state = some (.inl (c 0, 12, .inl (fun _ => 0))) := (E3.2 a_state (bj_ne haa_state) hna_state).trans haa_state
    have na_state : M a_state = none := F2.old ha_state
    have ba_sizes : P25 a_sizes = some (.inl (c 0, 12, .inl (fun _ => 0))) := (E5.2 a_sizes (bj_ne haa_sizes) hna_sizes).trans haa_sizes
    have na_sizes : M a_sizes = none := F4.old ha_sizes
    have ba_ranking : P25 a_ranking = some (.inl (c 0, 72, .inl (fun _ => 0))) := (E7.2 a_ranking (bj_ne haa_ranking) hna_ranking).trans haa_ranking
    have na_ranking : M a_ranking = none := F6.old ha_ranking
    have ba_times : P25 a_times = some (.inl (c 0, 72, .inl (fun _ => 0))) := (E9.2 a_times (bj_ne haa_times) hna_times).trans haa_times
    have na_times : M a_times = none := F8.old ha_times
    have ba_prefer : P25 a_prefer = some (.inl (c 0, 64, .inl (fun _ => 0))) := (E11.2 a_prefer (bj_ne haa_prefer) hna_prefer).trans haa_prefer
    have na_prefer : M a_prefer = none := F10.old ha_prefer
    have ba_direct : P25 a_direct = some (.inl (c 0, 64, .inl (fun _ => 0))) := (E13.2 a_direct (bj_ne haa_direct) hna_direct).trans haa_direct
    have na_direct : M a_direct = none := F12.old ha_direct
    have ba_strength : P25 a_strength = some (.inl (c 0, 64, .inl (fun _ => 0))) := (E15.2 a_strength (bj_ne haa_strength) hna_strength).trans haa_strength
    have na_strength : M a_strength = none := F14.old ha_strength
    have ba_locked : P25 a_locked = some (.inl (c 1, 64, .inl (fun _ => 0))) := (E17.2 a_locked (bj_ne haa_locked) hna_locked).trans haa_locked
    have na_locked : M a_locked = none := F16.old ha_locked
    have ba_leads : P25 a_leads = some (.inl (c 1, 64, .inl (fun _ => 0))) := (E19.2 a_leads (bj_ne haa_leads) hna_leads).trans haa_leads
    have na_leads : M a_leads = none := F18.old ha_leads
    have ba_far : P25 a_far = some (.inl (c 0, 8, .inl (fun _ => 0))) := (E21.2 a_far (bj_ne haa_far) hna_far).trans haa_far
    have na_far : M a_far = none := F20.old ha_far
    have ba_list : P25 a_list = some (.inl (c 0, 8, .inl (fun _ => 0))) := (E23.2 a_list (bj_ne haa_list) hna_list).trans haa_list
    have na_list : M a_list = none := F22.old ha_list
    have nu0 : nu (ad_l 80 [q, a_drawn, a_state, a_sizes, a_ranking, a_times, a_prefer, a_direct, a_strength, a_locked, a_leads, a_far, a_list]) (fun k => k = 80) M := nu.st 80 (bj_ne h0)
    have nu1 := nu.one (nu0.to (fun _ h => h) (fun _ h => h)) 81 ha_drawn (bj_ne haa_drawn) ek1.1
    have nu2 := nu.one (nu1.to (fun _ h => h) ek2.1) 82 ha_state (bj_ne haa_state) ek3.1
    have nu3 := nu.one (nu2.to (fun _ h => h) ek4.1) 83 ha_sizes (bj_ne haa_sizes) ek5.1
    have nu4 := nu.one (nu3.to (fun _ h => h) ek6.1) 84 ha_ranking (bj_ne haa_ranking) ek7.1
    have nu5 := nu.one (nu4.to (fun _ h => h) ek8.1) 85 ha_times (bj_ne haa_times) ek9.1
    have nu6 := nu.one (nu5.to (fun _ h => h) ek10.1) 86 ha_prefer (bj_ne haa_prefer) ek11.1
    have nu7 := nu.one (nu6.to (fun _ h => h) ek12.1) 87 ha_direct (bj_ne haa_direct) ek13.1
    have nu8 := nu.one (nu7.to (fun _ h => h) ek14.1) 88 ha_strength (bj_ne haa_strength) ek15.1
    have nu9 := nu.one (nu8.to (fun _ h => h) ek16.1) 89 ha_locked (bj_ne haa_locked) ek17.1
    have nu10 := nu.one (nu9.to (fun _ h => h) ek18.1) 90 ha_leads (bj_ne haa_leads) ek19.1
    have nu11 := nu.one (nu10.to (fun _ h => h) ek20.1) 91 ha_far (bj_ne haa_far) ek21.1
    have nu12 := nu.one (nu11.to (fun _ h => h) ek22.1) 92 ha_list (bj_ne haa_list) ek23.1
    have nuE : nu (ad_l 80 [q, a_drawn, a_state, a_sizes, a_ranking, a_times, a_prefer, a_direct, a_strength, a_locked, a_leads, a_far, a_list]) (fun k => mo_D k = true) P25 := nu12.to (fun x hx => by have h := of_decide_eq_true hx; show ((((((((((((x = 80 ∨ x = 81) ∨ x = 82) ∨ x = 83) ∨ x = 84) ∨ x = 85) ∨ x = 86) ∨ x = 87) ∨ x = 88) ∨ x = 89) ∨ x = 90) ∨ x = 91) ∨ x = 92); omega) E23.1
    have hloop : ∀ (w : Nat) (P : bj_M) (g : Nat → Int32), w ≤ 8 → P a_drawn = some (.inl (c 0, 8, .inl g)) → (∀ i, i < 8 → g i = if i < w then nI i else 0) → (∀ x, x ≠ a_drawn → P x = P25 x) → bj_S (bw_G l D c) Y_Mo_init 1 (12, 512, 0, 0) (fun k => k) (q_iMo c M q (nc xn)) 12 512 122 [some (.ref q), some (.int xn), some (.int (nI w))] [] P := by
      intro w P g
      induction hd : 8 + 1 - w using Nat.strongRecOn generalizing w P g with
      | ind d ih =>
        intro hw hP hg hR
        have hPq : P q = some (.inr (5, [.int (nI (nc xn)), .int (nI 0), .int (nI 0), .ref a_drawn, .int (nI 0), .ref a_state, .ref a_sizes, .ref a_ranking, .ref a_times, .ref a_prefer, .ref a_direct, .ref a_strength, .ref a_locked, .ref a_leads, .ref a_far, .int (nI 0), .ref a_list])) := (hR q (Ne.symm hna_drawn)).trans hq25
        refine bj_iload_n d_Mo_init_122 rfl rfl ?_
        refine bj_bipush (v := (nI 8)) d_Mo_init_123 (by decide) ?_
        refine bj_icmp_geN (tgt := 141) d_Mo_init_125 (by decide) (by omega) (by omega) (fun h125 => ?_) (fun h125 => ?_)
        · have hw8 : w = 8 := by omega
          subst hw8
          have kq : ∀ x, P25 x ≠ none → P x ≠ none := fun x hx => by
            by_cases e : x = a_drawn
            · rw [e]; exact bj_ne hP
            · rw [hR x e]; exact hx
          have ra_state : P a_state = some (.inl (c 0, 12, .inl (fun _ => 0))) := (hR a_state (fun e => absurd (nuE.2 82 81 rfl rfl e) (by decide))).trans ba_state
          have ra_sizes : P a_sizes = some (.inl (c 0, 12, .inl (fun _ => 0))) := (hR a_sizes (fun e => absurd (nuE.2 83 81 rfl rfl e) (by decide))).trans ba_sizes
          have ra_ranking : P a_ranking = some (.inl (c 0, 72, .inl (fun _ => 0))) := (hR a_ranking (fun e => absurd (nuE.2 84 81 rfl rfl e) (by decide))).trans ba_ranking
          have ra_times : P a_times = some (.inl (c 0, 72, .inl (fun _ => 0))) := (hR a_times (fun e => absurd (nuE.2 85 81 rfl rfl e) (by decide))).trans ba_times
          have ra_prefer : P a_prefer = some (.inl (c 0, 64, .inl (fun _ => 0))) := (hR a_prefer (fun e => absurd (nuE.2 86 81 rfl rfl e) (by decide))).trans ba_prefer
          have ra_direct : P a_direct = some (.inl (c 0, 64, .inl (fun _ => 0))) := (hR a_direct (fun e => absurd (nuE.2 87 81 rfl rfl e) (by decide))).trans ba_direct
          have ra_strength : P a_strength = some (.inl (c 0, 64, .inl (fun _ => 0))) := (hR a_strength (fun e => absurd (nuE.2 88 81 rfl rfl e) (by decide))).trans ba_strength
          have ra_locked : P a_locked = some (.inl (c 1, 64, .inl (fun _ => 0))) := (hR a_locked (fun e => absurd (nuE.2 89 81 rfl rfl e) (by decide))).trans ba_locked
          have ra_leads : P a_leads = some (.inl (c 1, 64, .inl (fun _ => 0))) := (hR a_leads (fun e => absurd (nuE.2 90 81 rfl rfl e) (by decide))).trans ba_leads
          have ra_far : P a_far = some (.inl (c 0, 8, .inl (fun _ => 0))) := (hR a_far (fun e => absurd (nuE.2 91 81 rfl rfl e) (by decide))).trans ba_far
          have ra_list : P a_list = some (.inl (c 0, 8, .inl (fun _ => 0))) := (hR a_list (fun e => absurd (nuE.2 92 81 rfl rfl e) (by decide))).trans ba_list
          have hall : mo_all c (ad_l 80 [q, a_drawn, a_state, a_sizes, a_ranking, a_times, a_prefer, a_direct, a_strength, a_locked, a_leads, a_far, a_list]) (pic mo_D (ad_l 80 [q, a_drawn, a_state, a_sizes, a_ranking, a_times, a_prefer, a_direct, a_strength, a_locked, a_leads, a_far, a_list]) P) (nc xn) (nI 0) false 0 (fun i => i) (fun _ => 0) (fun _ => 0) (fun _ _ => 0) (fun _ _ => 0) := ⟨⟨nI 0, (pic_at rfl).trans hPq, ⟨_, (pic_at rfl).trans hP, fun i hi => (hg i hi).trans (if_pos hi)⟩, ⟨_, (pic_at rfl).trans ra_state, fun _ _ => rfl⟩, ⟨_, (pic_at rfl).trans ra_sizes, fun _ _ => rfl⟩, ⟨_, (pic_at rfl).trans ra_ranking, fun _ _ => rfl⟩, ⟨_, (pic_at rfl).trans ra_times, fun _ _ => rfl⟩⟩, ⟨_, _, _, _, _, _, _, ⟨_, (pic_at rfl).trans ra_prefer, fun _ _ => rfl⟩, ⟨_, (pic_at rfl).trans ra_direct, fun _ _ => rfl⟩, ⟨_, (pic_at rfl).trans ra_strength, fun _ _ => rfl⟩, ⟨_, (pic_at rfl).trans ra_locked, fun _ _ => rfl⟩, ⟨_, (pic_at rfl).trans ra_leads, fun _ _ => rfl⟩, ⟨_, (pic_at rfl).trans ra_far, fun _ _ => rfl⟩, ⟨_, (pic_at rfl).trans ra_list, fun _ _ => rfl⟩⟩⟩
          have hfr : ∀ k, 80 < k → k < 93 → M ((ad_l 80 [q, a_drawn, a_state, a_sizes, a_ranking, a_times, a_prefer, a_direct, a_strength, a_locked, a_leads, a_far, a_list]) k) = none := by
            intro k k1 k2
            have hk : k = 81 ∨ k = 82 ∨ k = 83 ∨ k = 84 ∨ k = 85 ∨ k = 86 ∨ k = 87 ∨ k = 88 ∨ k = 89 ∨ k = 90 ∨ k = 91 ∨ k = 92 := by omega
            rcases hk with rfl | rfl | rfl | rfl | rfl | rfl | rfl | rfl | rfl | rfl | rfl | rfl
            · exact na_drawn
            · exact na_state
            · exact na_sizes
            · exact na_ranking
            · exact na_times
            · exact na_prefer
            · exact na_direct
            · exact na_strength
            · exact na_locked
            · exact na_leads
            · exact na_far
            · exact na_list
          have hex : ex_k q M P := ⟨fun x hx => kq x (F25.1 x hx), fun x hx hxq => (hR x (fun e => hx (by rw [e]; exact na_drawn))).trans (F25.2 x hx hxq)⟩
          exact bj_vret d_Mo_init_141 rfl (by decide) (by decide) ⟨rfl, (ad_l 80 [q, a_drawn, a_state, a_sizes, a_ranking, a_times, a_prefer, a_direct, a_strength, a_locked, a_leads, a_far, a_list]), rfl, nuE.to (fun _ h => h) kq, hfr, hall, hex⟩
        · refine bj_aload_n d_Mo_init_128 rfl rfl ?_
          refine bj_get d_Mo_init_129 in_Mo rfl (by decide : 3 < 17) wf_Mo_7 rfl hPq rfl ?_
          refine bj_iload_n d_Mo_init_132 rfl rfl ?_
          refine bj_iload_n d_Mo_init_133 rfl rfl ?_
          refine bv_iast d_Mo_init_134 0 rfl ⟨_, hP, fun _ _ => rfl⟩ (by omega) (by omega) (fun N1 hN1 hO1 => ?_)
          obtain ⟨g1, h91, h92⟩ := hN1
          refine bj_iinc (v := (nI (w + 1))) (L' := [some (.ref q), some (.int xn), some (.int (nI (w + 1)))]) d_Mo_init_135 rfl (bj_inc1 _) (by decide) rfl ?_
          refine bj_goto (tgt := 122) d_Mo_init_138 (by decide) ?_
          exact ih (8 + 1 - (w + 1)) (by omega) (w + 1) N1 _ rfl (by omega) h91 (fun i hi => (h92 i hi).trans (dr_up hg i hi)) (fun x hx => (hO1 x hx).trans (hR x hx))
    refine bj_iconst (v := nI 0) d_Mo_init_120 (by decide) ?_
    refine bj_istore_n (L' := [some (.ref q), some (.int xn), some (.int (nI 0))]) d_Mo_init_121 rfl (by decide) rfl ?_
    exact hloop 0 _ _ (by decide) ba_drawn (fun i _ => (if_neg (Nat.not_lt_zero i)).symm) (fun _ _ => rfl)
  refine bj_aload_n d_Mo_init_100 rfl rfl ?_
  refine bj_iload_n d_Mo_init_101 rfl rfl ?_
  refine bj_iconst (v := (nI 1)) d_Mo_init_102 (by decide) ?_
  refine bj_icmp_lt (tgt := 112) d_Mo_init_103 (by decide) (fun h103 => ?_) (fun h103 => ?_)
  · skip
    refine bj_iconst (v := (nI 5)) d_Mo_init_112 (by decide) ?_
    refine bj_goto (tgt := 117) d_Mo_init_113 (by decide) ?_
    exact hJ _ (by first | rw [nc_lo h103] | rw [nc_hi h109])
  · skip
    refine bj_iload_n d_Mo_init_106 rfl rfl ?_
    refine bj_bipush (v := (nI 8)) d_Mo_init_107 (by decide) ?_
    refine bj_icmp_le (tgt := 116) d_Mo_init_109 (by decide) (fun h109 => ?_) (fun h109 => ?_)
    · refine bj_iload_n d_Mo_init_116 rfl rfl ?_
      exact hJ _ (nc_in h103 h109).1
    · 
      refine bj_iconst (v := (nI 5)) d_Mo_init_112 (by decide) ?_
      refine bj_goto (tgt := 117) d_Mo_init_113 (by decide) ?_
      exact hJ _ (by first | rw [nc_lo h103] | rw [nc_hi h109])
end I5
