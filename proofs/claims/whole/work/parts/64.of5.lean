/-! BeatPathOffice: the public methods that ask (walks by gen/m_of5.py) -/
section O5

theorem nar_bt {b : Bool} : narrow .boolean (.int (bt_n b)) = .int (bt_n b) := by cases b <;> rfl
def Rw (n : Nat) (An : Option Value → Prop) : Nat → Option Value → Prop := fun k v => k = n ∧ (if n = 0 then An v else v = none)
theorem Rw_0 {n : Nat} {An : Option Value → Prop} {v : Option Value} (h : n = 0) (hv : An v) : Rw n An 0 v := ⟨h.symm, by rw [if_pos h]; exact hv⟩
theorem Rw_n {n k : Nat} {An : Option Value → Prop} (h : n = k) (hk : k ≠ 0) : Rw n An k none := ⟨h.symm, by rw [if_neg (by omega)]⟩
def wayA (p : Nat → Nat → Nat) (N : Nat) (x y : Int32) (v : Option Value) : Prop := ∃ a b, a < N ∧ b < N ∧ x = nI a ∧ y = nI b ∧ ((mg_F (drn p) N a b = 0 ∧ v = some (.int (nI 0))) ∨ (mg_F (drn p) N a b ≠ 0 ∧ ∃ S, mn_ds (stp p (mg_F (drn p) N a b)) N b N S ∧ S a < N ∧ v = some (.int (wy_w (wy_nx (stp p (mg_F (drn p) N a b)) N S) (S a) 1 a (nI (a + 1))))))
def cutb (p : Nat → Nat → Nat) (N a b : Nat) : Int32 := bmo ((nI 1) <<< ((nI a) &&& 31)) (fun i => decide (mg_F (drn p) N a b < mg_F (drn p) N a i)) N
def prv (P : Nat → Nat → Int32) (N a b : Nat) (s w x : Int32) : Prop := 0 ≤ s ∧ (s = 0 → w = 0) ∧ (¬ s = 0 → wy P N a b s w) ∧ bt x a = true ∧ bt x b = false ∧ hd_all P N x s
def prvA (P : Nat → Nat → Int32) (N : Nat) (x y s w z : Int32) (v : Option Value) : Prop := ∃ a b, a < N ∧ b < N ∧ x = nI a ∧ y = nI b ∧ ∃ r : Bool, v = some (.int (bt_n r)) ∧ (r = true ↔ prv P N a b s w z)
theorem prvA_t {P : Nat → Nat → Int32} {N a b : Nat} {s w z : Int32} (ha : a < N) (hb : b < N) (h : prv P N a b s w z) : prvA P N (nI a) (nI b) s w z (some (.int (nI 1))) := ⟨a, b, ha, hb, rfl, rfl, true, rfl, ⟨fun _ => h, fun _ => rfl⟩⟩
theorem prvA_f {P : Nat → Nat → Int32} {N a b : Nat} {s w z : Int32} (ha : a < N) (hb : b < N) (h : ¬ prv P N a b s w z) : prvA P N (nI a) (nI b) s w z (some (.int (nI 0))) := ⟨a, b, ha, hb, rfl, rfl, false, rfl, ⟨fun e => (by cases e), fun e => absurd e h⟩⟩
/-- one that may not be there -/
def Rf (n : Nat) (o : Option Nat) : Nat → Option Value → Prop := fun k v => match o with
  | none => k = n ∧ v = none
  | some c => k = 0 ∧ v = some (.int (nI c))
theorem Rf_0 {n : Nat} {o : Option Nat} (h : oI o ≠ -1) : Rf n o 0 (some (.int (oI o))) := by
  cases o with
  | none => exact absurd rfl h
  | some c => exact ⟨rfl, rfl⟩
theorem Rf_n {n N : Nat} {q : Nat → Bool} (hN : N ≤ 2 ^ 31) (h : oI (ft q N) = -1) : Rf n (ft q N) n none := by
  rw [(ft_m1 hN).mp h]
  exact ⟨rfl, rfl⟩
def topR (n : Nat) (P : Nat → Nat → Int32) (N : Nat) (x : Int32) : Nat → Option Value → Prop := fun k v => ∃ c0, c0 < N ∧ (∀ a, a < N → mn_cnt (mt_of (nbt P) N c0) N ≤ mn_cnt (mt_of (nbt P) N a) N) ∧ Rf n (ft (mem_q (bm (mt_of (nbt P) N c0) N) x) 8) k v
def ordR (n : Nat) (p : Nat → Nat → Nat) (N : Nat) (dw : Nat → Nat) (x : Int32) : Nat → Option Value → Prop := fun k v => (ic N x = false ∧ k = n ∧ v = none) ∨ ∃ lk a, a < N ∧ x = nI a ∧ ord_is p N dw lk ∧ k = 0 ∧ v = some (.int (nI (ln_at lk dw N a)))
theorem ord_0 {n N : Nat} {p : Nat → Nat → Nat} {dw : Nat → Nat} {x : Int32} {v : Option Value} {z : Int32} (h : (ic N x = false ∧ v = some (.int (-1))) ∨ ∃ lk a, a < N ∧ x = nI a ∧ ord_is p N dw lk ∧ ln_at lk dw N a < N ∧ v = some (.int (nI (ln_at lk dw N a)))) (hv : v = some (.int z)) (hz : z ≠ -1) : ordR n p N dw x 0 (some (.int z)) := by
  rcases h with ⟨-, h2⟩ | ⟨lk, a, h1, h2, h3, -, h4⟩
  · rw [hv] at h2
    cases h2
    exact absurd rfl hz
  · rw [hv] at h4
    exact Or.inr ⟨lk, a, h1, h2, h3, rfl, h4⟩
theorem ord_n {n N : Nat} {p : Nat → Nat → Nat} {dw : Nat → Nat} {x : Int32} {v : Option Value} {z : Int32} (hN : N ≤ 8) (h : (ic N x = false ∧ v = some (.int (-1))) ∨ ∃ lk a, a < N ∧ x = nI a ∧ ord_is p N dw lk ∧ ln_at lk dw N a < N ∧ v = some (.int (nI (ln_at lk dw N a)))) (hv : v = some (.int z)) (hz : z = -1) : ordR n p N dw x n none := by
  rcases h with ⟨h1, -⟩ | ⟨lk, a, -, -, -, h3, h4⟩
  · exact Or.inl ⟨h1, rfl, rfl⟩
  · exfalso
    rw [hv, hz] at h4
    have h5 := (oI_m1 (o := some (ln_at lk dw N a)) (fun c e => by cases e; omega)).mp (Value.int.inj (Option.some.inj h4)).symm
    cases h5
theorem ord_int {N : Nat} {p : Nat → Nat → Nat} {dw : Nat → Nat} {x : Int32} {v : Option Value} (h : (ic N x = false ∧ v = some (.int (-1))) ∨ ∃ lk a, a < N ∧ x = nI a ∧ ord_is p N dw lk ∧ ln_at lk dw N a < N ∧ v = some (.int (nI (ln_at lk dw N a)))) : ∃ z, v = some (.int z) := by
  rcases h with ⟨-, h2⟩ | ⟨lk, a, -, -, -, -, h4⟩
  · exact ⟨_, h2⟩
  · exact ⟨_, h4⟩
def lockA (p : Nat → Nat → Nat) (N : Nat) (dw : Nat → Nat) (x y : Int32) (v : Option Value) : Prop := ∃ a b lk, a < N ∧ b < N ∧ x = nI a ∧ y = nI b ∧ ord_is p N dw lk ∧ v = some (.int (bt_n (lk a b)))
theorem of_all.lks {c : Nat → ClassId} {ad : Nat → Nat} {M M' : bj_M} {N op : Nat} {se : Bool} {dw sg sz : Nat → Nat} {rk : Nat → Nat → Int32} {tm : Nat → Nat → Nat} {lo co U V : Nat → Int32} {pn : Nat} (h : of_all c ad M N op se dw sg sz rk tm) (h1 : lo_ok c ad M' 70 N lo co U V pn) (hf : lo_fr 70 M M') : of_st c ad M N op se dw sg sz rk tm M' := ⟨h.in (fun q hq => hf q (by omega)) (h.2.2.locks h.1.2.1 h1 hf), fun q hq => hf q (by omega)⟩
theorem of_all.stp {c : Nat → ClassId} {ad : Nat → Nat} {M M' : bj_M} {N op : Nat} {se : Bool} {dw sg sz : Nat → Nat} {rk : Nat → Nat → Int32} {tm : Nat → Nat → Nat} {g : Nat → Int32} (h : of_all c ad M N op se dw sg sz rk tm) (h1 : bv_I (c 0) M' 69 N g) (hf : ∀ q, q ≠ 69 → M' q = M q) : of_st c ad M N op se dw sg sz rk tm M' := by
  have hN := h.1.2.1
  refine ⟨h.in (fun q hq => hf q (by omega)) ?_, fun q hq => hf q (by omega)⟩
  obtain ⟨⟨vs, P, h0⟩, ⟨f, h2⟩, -, lo, co, U, V, pn, h4⟩ := h.2.2
  exact ⟨⟨vs, P, h0.in (fun q q1 q2 => hf q (by omega))⟩, ⟨f, h2.in (fun q q1 q2 => hf q (by omega))⟩, ⟨g, h1⟩, lo, co, U, V, pn, h4.in (fun q q1 q2 => hf q (by omega))⟩
theorem of_st.tr {c : Nat → ClassId} {ad : Nat → Nat} {M M' M'' : bj_M} {N op : Nat} {se : Bool} {dw sg sz : Nat → Nat} {rk : Nat → Nat → Int32} {tm : Nat → Nat → Nat} (h : of_st c ad M N op se dw sg sz rk tm M') (h' : of_st c ad M' N op se dw sg sz rk tm M'') : of_st c ad M N op se dw sg sz rk tm M'' := ⟨h'.1, h.2.tr h'.2⟩
variable (l : Launch) (D : va_G) (c : Nat → ClassId) (ad : Nat → Nat) (M : bj_M)
set_option maxRecDepth 100000 in
set_option maxHeartbeats 4000000 in
/-- cut -/
theorem t_Of_cut (htr : l.stackTraces = false) {N op : Nat} {se : Bool} {dw sg sz : Nat → Nat} {rk : Nat → Nat → Int32} {tm : Nat → Nat → Nat} (hA : of_all c ad M N op se dw sg sz rk tm) {x1 x2 : Int32} : bj_T (bw_G l D c) Y_Of_cut 8 (0, 0, 1, 6) ad (q_pub [xA] (Rv (prC N x1 x2) (at2 (cutb (psum sg sz rk tm 12) N) x1 x2)) (of_st c ad M N op se dw sg sz rk tm) (of_st c ad M N op se dw sg sz rk tm)) [.ref (ad 0), .int x1, .int x2] M := by
  show bj_S _ _ _ _ _ _ 0 0 0 [some (.ref (ad 0)), some (.int x1), some (.int x2)] [] M
  obtain ⟨⟨hN1, hN, hop, ⟨ps, hpm⟩, hbt, hun⟩, ⟨hO, hd, hB, hb, hC⟩, hsc⟩ := id hA
  have hP : ∀ a b, a < N → b < N → (fun a b => nI (psum sg sz rk tm 12 a b)) a b = nI (psum sg sz rk tm 12 a b) := fun _ _ _ _ => rfl
  have hp : ∀ a b, a < N → b < N → psum sg sz rk tm 12 a b < 2 ^ 31 := fun a b _ _ => hA.pl 12 a b
  obtain ⟨f0, hA0⟩ := hsc.2.1
  refine bj_aload_n d_Of_cut_0 rfl rfl ?_
  refine bj_iload_n d_Of_cut_1 rfl rfl ?_
  refine bj_iload_n d_Of_cut_2 rfl rfl ?_
  refine bj_cv sv_Of_138 d_Of_cut_3 (t_Of_needPair l D c ad M htr hO hN) rfl rfl (by decide) (by decide) (by decide) (Nat.le_of_ble_eq_true rfl) rfl hO rfl rfl (fun v1 N1 hq1 => ?_) (fun v1 N1 hq1 => ?_)
  rotate_left
  · obtain ⟨rfl, rfl, h1⟩ := hq1
    exact bj_out (fun x hx => nomatch hx) (by decide) (by decide) ⟨1, by decide, rfl, Rv_n (prC_f h1) (by decide), ⟨hA, of_fr.rf⟩⟩
  obtain ⟨rfl, rfl, h1⟩ := hq1
  show bj_S (bw_G l D c) Y_Of_cut 8 (0, 0, 1, 6) ad (q_pub [xA] (Rv (prC N x1 x2) (at2 (cutb (psum sg sz rk tm 12) N) x1 x2)) (of_st c ad M N op se dw sg sz rk tm) (of_st c ad M N op se dw sg sz rk tm)) 0 0 6 [some (.ref (ad 0)), some (.int x1), some (.int x2)] [] M
  obtain ⟨a, ha, rfl⟩ := ic_t (by omega) h1.1
  obtain ⟨b, hb9, rfl⟩ := ic_t (by omega) h1.2.1
  have hz := prC_t h1
  have hab : a ≠ b := fun q => h1.2.2 (by rw [q])
  refine bj_aload_n d_Of_cut_6 rfl rfl ?_
  refine bj_get d_Of_cut_7 in_Of rfl (by decide : 7 < 9) wf_Of_46 rfl hO rfl ?_
  refine bj_aload_n d_Of_cut_10 rfl rfl ?_
  refine bj_get d_Of_cut_11 in_Of rfl (by decide : 5 < 9) wf_Of_36 rfl hO rfl ?_
  refine bj_cvR sv_Of_145 d_Of_cut_14 (t_Pa_weigh l D c ad M hA0 hN hC hP hp (by omega)) rfl rfl (by decide) (by decide) (by decide) (Nat.le_of_ble_eq_true rfl) rfl hA0.1 rfl rfl (fun v2 N2 hq2 => ?_)
  obtain ⟨rfl, hA2, hf2⟩ := hq2
  show bj_S (bw_G l D c) Y_Of_cut 8 (0, 0, 1, 6) ad (q_pub [xA] (Rv (prC N (nI a) (nI b)) (at2 (cutb (psum sg sz rk tm 12) N) (nI a) (nI b))) (of_st c ad M N op se dw sg sz rk tm) (of_st c ad M N op se dw sg sz rk tm)) 0 0 17 [some (.ref (ad 0)), some (.int (nI a)), some (.int (nI b))] [] N2
  have hO2 := (hf2 0 (by omega)).trans hO
  have hst := hA.ps hA2 hf2
  have hC2 := hst.1.2.1.2.2.2.2
  refine bj_aload_n d_Of_cut_17 rfl rfl ?_
  refine bj_get d_Of_cut_18 in_Of rfl (by decide : 7 < 9) wf_Of_46 rfl hO2 rfl ?_
  refine bj_iload_n d_Of_cut_21 rfl rfl ?_
  refine bj_aload_n d_Of_cut_22 rfl rfl ?_
  refine bj_get d_Of_cut_23 in_Of rfl (by decide : 7 < 9) wf_Of_46 rfl hO2 rfl ?_
  refine bj_getN d_Of_cut_26 in_Pa rfl (by decide : 1 < 3) wf_Of_149 rfl hA2.1 rfl ?_
  refine bj_iload_n d_Of_cut_29 rfl rfl ?_
  refine bv_aald d_Of_cut_30 4 rfl rfl hA2.2.1 (by omega) (by omega) ?_
  refine bj_iload_n d_Of_cut_31 rfl rfl ?_
  refine bv_iald d_Of_cut_32 0 rfl (hA2.2.2.1 a ha) (by omega) (by omega) rfl ?_
  refine bj_cvF sv_Of_156 d_Of_cut_33 (t_Pa_reachedAbove l D c ad N2 hA2 hN ha (hA2.2.2.2 a b ha hb9)) rfl rfl (by decide) (by decide) (by decide) (Nat.le_of_ble_eq_true rfl) rfl hA2.1 rfl rfl ?_
  exact bj_iret d_Of_cut_36 rfl rfl (Nat.le_refl _) (Nat.le_refl _) ⟨Rv_at hz (by omega) (by omega) rfl, hst⟩
set_option maxRecDepth 100000 in
set_option maxHeartbeats 4000000 in
/-- way -/
theorem t_Of_way (htr : l.stackTraces = false) {N op : Nat} {se : Bool} {dw sg sz : Nat → Nat} {rk : Nat → Nat → Int32} {tm : Nat → Nat → Nat} (hA : of_all c ad M N op se dw sg sz rk tm) {x1 x2 : Int32} : bj_T (bw_G l D c) Y_Of_way 8 (0, 0, 1, 6) ad (q_pub [xA] (Rw (prC N x1 x2) (wayA (psum sg sz rk tm 12) N x1 x2)) (of_st c ad M N op se dw sg sz rk tm) (of_st c ad M N op se dw sg sz rk tm)) [.ref (ad 0), .int x1, .int x2] M := by
  show bj_S _ _ _ _ _ _ 0 0 0 [some (.ref (ad 0)), some (.int x1), some (.int x2)] [] M
  obtain ⟨⟨hN1, hN, hop, ⟨ps, hpm⟩, hbt, hun⟩, ⟨hO, hd, hB, hb, hC⟩, hsc⟩ := id hA
  have hP : ∀ a b, a < N → b < N → (fun a b => nI (psum sg sz rk tm 12 a b)) a b = nI (psum sg sz rk tm 12 a b) := fun _ _ _ _ => rfl
  have hp : ∀ a b, a < N → b < N → psum sg sz rk tm 12 a b < 2 ^ 31 := fun a b _ _ => hA.pl 12 a b
  obtain ⟨f0, hA0⟩ := hsc.2.1
  refine bj_aload_n d_Of_way_0 rfl rfl ?_
  refine bj_iload_n d_Of_way_1 rfl rfl ?_
  refine bj_iload_n d_Of_way_2 rfl rfl ?_
  refine bj_cv sv_Of_138 d_Of_way_3 (t_Of_needPair l D c ad M htr hO hN) rfl rfl (by decide) (by decide) (by decide) (Nat.le_of_ble_eq_true rfl) rfl hO rfl rfl (fun v1 N1 hq1 => ?_) (fun v1 N1 hq1 => ?_)
  rotate_left
  · obtain ⟨rfl, rfl, h1⟩ := hq1
    exact bj_out (fun x hx => nomatch hx) (by decide) (by decide) ⟨1, by decide, rfl, Rw_n (prC_f h1) (by decide), ⟨hA, of_fr.rf⟩⟩
  obtain ⟨rfl, rfl, h1⟩ := hq1
  show bj_S (bw_G l D c) Y_Of_way 8 (0, 0, 1, 6) ad (q_pub [xA] (Rw (prC N x1 x2) (wayA (psum sg sz rk tm 12) N x1 x2)) (of_st c ad M N op se dw sg sz rk tm) (of_st c ad M N op se dw sg sz rk tm)) 0 0 6 [some (.ref (ad 0)), some (.int x1), some (.int x2)] [] M
  obtain ⟨a, ha, rfl⟩ := ic_t (by omega) h1.1
  obtain ⟨b, hb9, rfl⟩ := ic_t (by omega) h1.2.1
  have hz := prC_t h1
  have hab : a ≠ b := fun q => h1.2.2 (by rw [q])
  refine bj_aload_n d_Of_way_6 rfl rfl ?_
  refine bj_get d_Of_way_7 in_Of rfl (by decide : 7 < 9) wf_Of_46 rfl hO rfl ?_
  refine bj_aload_n d_Of_way_10 rfl rfl ?_
  refine bj_get d_Of_way_11 in_Of rfl (by decide : 5 < 9) wf_Of_36 rfl hO rfl ?_
  refine bj_cvR sv_Of_145 d_Of_way_14 (t_Pa_weigh l D c ad M hA0 hN hC hP hp (by omega)) rfl rfl (by decide) (by decide) (by decide) (Nat.le_of_ble_eq_true rfl) rfl hA0.1 rfl rfl (fun v2 N2 hq2 => ?_)
  obtain ⟨rfl, hA2, hf2⟩ := hq2
  show bj_S (bw_G l D c) Y_Of_way 8 (0, 0, 1, 6) ad (q_pub [xA] (Rw (prC N (nI a) (nI b)) (wayA (psum sg sz rk tm 12) N (nI a) (nI b))) (of_st c ad M N op se dw sg sz rk tm) (of_st c ad M N op se dw sg sz rk tm)) 0 0 17 [some (.ref (ad 0)), some (.int (nI a)), some (.int (nI b))] [] N2
  have hO2 := (hf2 0 (by omega)).trans hO
  have hst := hA.ps hA2 hf2
  have hC2 := hst.1.2.1.2.2.2.2
  refine bj_aload_n d_Of_way_17 rfl rfl ?_
  refine bj_get d_Of_way_18 in_Of rfl (by decide : 7 < 9) wf_Of_46 rfl hO2 rfl ?_
  refine bj_aload_n d_Of_way_21 rfl rfl ?_
  refine bj_get d_Of_way_22 in_Of rfl (by decide : 5 < 9) wf_Of_36 rfl hO2 rfl ?_
  refine bj_iload_n d_Of_way_25 rfl rfl ?_
  refine bj_iload_n d_Of_way_26 rfl rfl ?_
  obtain ⟨g0, hg0⟩ := hst.1.2.2.2.2.1
  refine bj_cvR sv_Of_152 d_Of_way_27 (t_Pa_strongestWay l D c ad N2 hA2 hN hC2 hP hp hg0 ha hb9 (by omega)) rfl rfl (by decide) (by decide) (by decide) (Nat.le_of_ble_eq_true rfl) rfl hA2.1 rfl rfl (fun v3 N3 hq3 => ?_)
  obtain ⟨hE, hs9, hw⟩ := hq3
  have hiv : ∃ z, v3 = some (.int z) := by
    rcases hw with ⟨-, e⟩ | ⟨-, S, -, -, e⟩
    · exact ⟨_, e⟩
    · exact ⟨_, e⟩
  obtain ⟨z, rfl⟩ := hiv
  show bj_S (bw_G l D c) Y_Of_way 8 (0, 0, 1, 6) ad (q_pub [xA] (Rw (prC N (nI a) (nI b)) (wayA (psum sg sz rk tm 12) N (nI a) (nI b))) (of_st c ad M N op se dw sg sz rk tm) (of_st c ad M N op se dw sg sz rk tm)) 0 0 30 [some (.ref (ad 0)), some (.int (nI a)), some (.int (nI b))] [.int z] N3
  obtain ⟨g9, hS9⟩ := hs9
  exact bj_iret d_Of_way_30 rfl rfl (Nat.le_refl _) (Nat.le_refl _) ⟨Rw_0 hz ⟨a, b, ha, hb9, rfl, rfl, hw⟩, hst.tr (hst.1.stp hS9 hE)⟩
set_option maxRecDepth 100000 in
set_option maxHeartbeats 4000000 in
/-- proves -/
theorem t_Of_proves (htr : l.stackTraces = false) {N op : Nat} {se : Bool} {dw sg sz : Nat → Nat} {rk : Nat → Nat → Int32} {tm : Nat → Nat → Nat} (hA : of_all c ad M N op se dw sg sz rk tm) {x1 x2 x3 x4 x5 : Int32} : bj_T (bw_G l D c) Y_Of_proves 8 (0, 0, 1, 6) ad (q_pub [xA] (Rw (prC N x1 x2) (prvA (fun a b => nI (psum sg sz rk tm 12 a b)) N x1 x2 x3 x4 x5)) (of_st c ad M N op se dw sg sz rk tm) (of_st c ad M N op se dw sg sz rk tm)) [.ref (ad 0), .int x1, .int x2, .int x3, .int x4, .int x5] M := by
  show bj_S _ _ _ _ _ _ 0 0 0 [some (.ref (ad 0)), some (.int x1), some (.int x2), some (.int x3), some (.int x4), some (.int x5), none] [] M
  obtain ⟨⟨hN1, hN, hop, ⟨ps, hpm⟩, hbt, hun⟩, ⟨hO, hd, hB, hb, hC⟩, hsc⟩ := id hA
  have hP : ∀ a b, a < N → b < N → (fun a b => nI (psum sg sz rk tm 12 a b)) a b = nI (psum sg sz rk tm 12 a b) := fun _ _ _ _ => rfl
  have hp : ∀ a b, a < N → b < N → psum sg sz rk tm 12 a b < 2 ^ 31 := fun a b _ _ => hA.pl 12 a b
  refine bj_aload_n d_Of_proves_0 rfl rfl ?_
  refine bj_iload_n d_Of_proves_1 rfl rfl ?_
  refine bj_iload_n d_Of_proves_2 rfl rfl ?_
  refine bj_cv sv_Of_138 d_Of_proves_3 (t_Of_needPair l D c ad M htr hO hN) rfl rfl (by decide) (by decide) (by decide) (Nat.le_of_ble_eq_true rfl) rfl hO rfl rfl (fun v1 N1 hq1 => ?_) (fun v1 N1 hq1 => ?_)
  rotate_left
  · obtain ⟨rfl, rfl, h1⟩ := hq1
    exact bj_out (fun x hx => nomatch hx) (by decide) (by decide) ⟨1, by decide, rfl, Rw_n (prC_f h1) (by decide), ⟨hA, of_fr.rf⟩⟩
  obtain ⟨rfl, rfl, h1⟩ := hq1
  show bj_S (bw_G l D c) Y_Of_proves 8 (0, 0, 1, 6) ad (q_pub [xA] (Rw (prC N x1 x2) (prvA (fun a b => nI (psum sg sz rk tm 12 a b)) N x1 x2 x3 x4 x5)) (of_st c ad M N op se dw sg sz rk tm) (of_st c ad M N op se dw sg sz rk tm)) 0 0 6 [some (.ref (ad 0)), some (.int x1), some (.int x2), some (.int x3), some (.int x4), some (.int x5), none] [] M
  obtain ⟨a, ha, rfl⟩ := ic_t (by omega) h1.1
  obtain ⟨b, hb9, rfl⟩ := ic_t (by omega) h1.2.1
  have hz := prC_t h1
  have hab : a ≠ b := fun q => h1.2.2 (by rw [q])
  refine bj_iload_n d_Of_proves_6 rfl rfl ?_
  refine bj_if_ge (tgt := 12) d_Of_proves_7 (by decide) (fun h7 => ?_) (fun h7 => ?_)
  · refine bj_iload_n d_Of_proves_12 rfl rfl ?_
    refine bj_if_ne (tgt := 29) d_Of_proves_13 (by decide) (fun h13 => ?_) (fun h13 => ?_)
    · refine bj_aload_n d_Of_proves_29 rfl rfl ?_
      refine bj_get d_Of_proves_30 in_Of rfl (by decide : 5 < 9) wf_Of_36 rfl hO rfl ?_
      refine bj_iload_n d_Of_proves_33 rfl rfl ?_
      refine bj_iload_n d_Of_proves_34 rfl rfl ?_
      refine bj_iload_n d_Of_proves_35 rfl rfl ?_
      refine bj_iload d_Of_proves_36 rfl ?_
      refine bj_cvR sv_Of_159 d_Of_proves_38 (t_Co_isWay l D c ad M hC hN ha hb9) rfl rfl (by decide) (by decide) (by decide) (Nat.le_of_ble_eq_true rfl) rfl hC.1 rfl rfl (fun v2 N2 hq2 => ?_)
      obtain ⟨r8, rfl, hr8, hM8⟩ := hq2
      show bj_S (bw_G l D c) Y_Of_proves 8 (0, 0, 1, 6) ad (q_pub [xA] (Rw (prC N (nI a) (nI b)) (prvA (fun a b => nI (psum sg sz rk tm 12 a b)) N (nI a) (nI b) x3 x4 x5)) (of_st c ad M N op se dw sg sz rk tm) (of_st c ad M N op se dw sg sz rk tm)) 0 0 41 [some (.ref (ad 0)), some (.int (nI a)), some (.int (nI b)), some (.int x3), some (.int x4), some (.int x5), none] [.int (bt_n r8)] N2
      rw [hM8]
      refine bj_istore (L' := [some (.ref (ad 0)), some (.int (nI a)), some (.int (nI b)), some (.int x3), some (.int x4), some (.int x5), some (.int (bt_n r8))]) d_Of_proves_41 (by decide) rfl ?_
      refine bj_iload d_Of_proves_43 rfl ?_
      refine bj_if_eq (tgt := 83) d_Of_proves_45 (by decide) (fun h45 => ?_) (fun h45 => ?_)
      · refine bj_iconst (v := (nI 0)) d_Of_proves_83 (by decide) ?_
        exact bj_iret d_Of_proves_84 rfl rfl (Nat.le_refl _) (Nat.le_refl _) ⟨Rw_0 hz (prvA_f ha hb9 (fun q => by obtain ⟨q1, q2, q3, q4, q5, q6⟩ := q; first | exact h7 q1 | exact h18 (q2 h13) | (have q7 := hr8.mpr (q3 h13); rw [q7] at h45; exact absurd h45 (by decide)) | (rw [q4] at h54; exact absurd h54 (by decide)) | (rw [q5] at h63; exact h63 rfl) | (have q7 := hr9.mpr q6; rw [q7] at h76; exact absurd h76 (by decide)))), ⟨hA, of_fr.rf⟩⟩
      refine bj_iload d_Of_proves_48 rfl ?_
      refine bj_iload_n d_Of_proves_50 rfl rfl ?_
      refine bj_csF ss_Of_163 d_Of_proves_51 (t_Of_has l D c ad M (by omega)) rfl rfl (by decide) (by decide) (by decide) (Nat.le_of_ble_eq_true rfl) rfl ?_
      refine bj_if_eq (tgt := 83) d_Of_proves_54 (by decide) (fun h54 => ?_) (fun h54 => ?_)
      · refine bj_iconst (v := (nI 0)) d_Of_proves_83 (by decide) ?_
        exact bj_iret d_Of_proves_84 rfl rfl (Nat.le_refl _) (Nat.le_refl _) ⟨Rw_0 hz (prvA_f ha hb9 (fun q => by obtain ⟨q1, q2, q3, q4, q5, q6⟩ := q; first | exact h7 q1 | exact h18 (q2 h13) | (have q7 := hr8.mpr (q3 h13); rw [q7] at h45; exact absurd h45 (by decide)) | (rw [q4] at h54; exact absurd h54 (by decide)) | (rw [q5] at h63; exact h63 rfl) | (have q7 := hr9.mpr q6; rw [q7] at h76; exact absurd h76 (by decide)))), ⟨hA, of_fr.rf⟩⟩
      · refine bj_iload d_Of_proves_57 rfl ?_
        refine bj_iload_n d_Of_proves_59 rfl rfl ?_
        refine bj_csF ss_Of_163 d_Of_proves_60 (t_Of_has l D c ad M (by omega)) rfl rfl (by decide) (by decide) (by decide) (Nat.le_of_ble_eq_true rfl) rfl ?_
        refine bj_if_ne (tgt := 83) d_Of_proves_63 (by decide) (fun h63 => ?_) (fun h63 => ?_)
        · refine bj_iconst (v := (nI 0)) d_Of_proves_83 (by decide) ?_
          exact bj_iret d_Of_proves_84 rfl rfl (Nat.le_refl _) (Nat.le_refl _) ⟨Rw_0 hz (prvA_f ha hb9 (fun q => by obtain ⟨q1, q2, q3, q4, q5, q6⟩ := q; first | exact h7 q1 | exact h18 (q2 h13) | (have q7 := hr8.mpr (q3 h13); rw [q7] at h45; exact absurd h45 (by decide)) | (rw [q4] at h54; exact absurd h54 (by decide)) | (rw [q5] at h63; exact h63 rfl) | (have q7 := hr9.mpr q6; rw [q7] at h76; exact absurd h76 (by decide)))), ⟨hA, of_fr.rf⟩⟩
        · refine bj_aload_n d_Of_proves_66 rfl rfl ?_
          refine bj_get d_Of_proves_67 in_Of rfl (by decide : 5 < 9) wf_Of_36 rfl hO rfl ?_
          refine bj_iload d_Of_proves_70 rfl ?_
          refine bj_iload_n d_Of_proves_72 rfl rfl ?_
          refine bj_cvR sv_Of_167 d_Of_proves_73 (t_Co_isHeldIn l D c ad M hC hN) rfl rfl (by decide) (by decide) (by decide) (Nat.le_of_ble_eq_true rfl) rfl hC.1 rfl rfl (fun v3 N3 hq3 => ?_)
          obtain ⟨r9, rfl, hr9, hM9⟩ := hq3
          show bj_S (bw_G l D c) Y_Of_proves 8 (0, 0, 1, 6) ad (q_pub [xA] (Rw (prC N (nI a) (nI b)) (prvA (fun a b => nI (psum sg sz rk tm 12 a b)) N (nI a) (nI b) x3 x4 x5)) (of_st c ad M N op se dw sg sz rk tm) (of_st c ad M N op se dw sg sz rk tm)) 0 0 76 [some (.ref (ad 0)), some (.int (nI a)), some (.int (nI b)), some (.int x3), some (.int x4), some (.int x5), some (.int (bt_n r8))] [.int (bt_n r9)] N3
          rw [hM9]
          refine bj_if_eq (tgt := 83) d_Of_proves_76 (by decide) (fun h76 => ?_) (fun h76 => ?_)
          · refine bj_iconst (v := (nI 0)) d_Of_proves_83 (by decide) ?_
            exact bj_iret d_Of_proves_84 rfl rfl (Nat.le_refl _) (Nat.le_refl _) ⟨Rw_0 hz (prvA_f ha hb9 (fun q => by obtain ⟨q1, q2, q3, q4, q5, q6⟩ := q; first | exact h7 q1 | exact h18 (q2 h13) | (have q7 := hr8.mpr (q3 h13); rw [q7] at h45; exact absurd h45 (by decide)) | (rw [q4] at h54; exact absurd h54 (by decide)) | (rw [q5] at h63; exact h63 rfl) | (have q7 := hr9.mpr q6; rw [q7] at h76; exact absurd h76 (by decide)))), ⟨hA, of_fr.rf⟩⟩
          · refine bj_iconst (v := (nI 1)) d_Of_proves_79 (by decide) ?_
            refine bj_goto (tgt := 84) d_Of_proves_80 (by decide) ?_
            exact bj_iret d_Of_proves_84 rfl rfl (Nat.le_refl _) (Nat.le_refl _) ⟨Rw_0 hz (prvA_t ha hb9 ⟨h7, fun q => absurd q h13, fun _ => hr8.mp (bt_nn h45), bt_nn h54, bt_n0.mp h63, hr9.mp (bt_nn h76)⟩), ⟨hA, of_fr.rf⟩⟩
    · refine bj_iload d_Of_proves_16 rfl ?_
      refine bj_if_ne (tgt := 25) d_Of_proves_18 (by decide) (fun h18 => ?_) (fun h18 => ?_)
      · refine bj_iconst (v := (nI 0)) d_Of_proves_25 (by decide) ?_
        refine bj_goto (tgt := 41) d_Of_proves_26 (by decide) ?_
        refine bj_istore (L' := [some (.ref (ad 0)), some (.int (nI a)), some (.int (nI b)), some (.int x3), some (.int x4), some (.int x5), some (.int (nI 0))]) d_Of_proves_41 (by decide) rfl ?_
        refine bj_iload d_Of_proves_43 rfl ?_
        refine bj_if_eqN (tgt := 83) d_Of_proves_45 (by decide) (by decide) (fun h45 => ?_) (fun h45 => absurd rfl h45)
        refine bj_iconst (v := (nI 0)) d_Of_proves_83 (by decide) ?_
        exact bj_iret d_Of_proves_84 rfl rfl (Nat.le_refl _) (Nat.le_refl _) ⟨Rw_0 hz (prvA_f ha hb9 (fun q => by obtain ⟨q1, q2, q3, q4, q5, q6⟩ := q; first | exact h7 q1 | exact h18 (q2 h13) | (have q7 := hr8.mpr (q3 h13); rw [q7] at h45; exact absurd h45 (by decide)) | (rw [q4] at h54; exact absurd h54 (by decide)) | (rw [q5] at h63; exact h63 rfl) | (have q7 := hr9.mpr q6; rw [q7] at h76; exact absurd h76 (by decide)))), ⟨hA, of_fr.rf⟩⟩
      · refine bj_iconst (v := (nI 1)) d_Of_proves_21 (by decide) ?_
        refine bj_goto (tgt := 41) d_Of_proves_22 (by decide) ?_
        refine bj_istore (L' := [some (.ref (ad 0)), some (.int (nI a)), some (.int (nI b)), some (.int x3), some (.int x4), some (.int x5), some (.int (nI 1))]) d_Of_proves_41 (by decide) rfl ?_
        refine bj_iload d_Of_proves_43 rfl ?_
        refine bj_if_eqN (tgt := 83) d_Of_proves_45 (by decide) (by decide) (fun h45 => absurd h45 (by decide)) (fun h45 => ?_)
        refine bj_iload d_Of_proves_48 rfl ?_
        refine bj_iload_n d_Of_proves_50 rfl rfl ?_
        refine bj_csF ss_Of_163 d_Of_proves_51 (t_Of_has l D c ad M (by omega)) rfl rfl (by decide) (by decide) (by decide) (Nat.le_of_ble_eq_true rfl) rfl ?_
        refine bj_if_eq (tgt := 83) d_Of_proves_54 (by decide) (fun h54 => ?_) (fun h54 => ?_)
        · refine bj_iconst (v := (nI 0)) d_Of_proves_83 (by decide) ?_
          exact bj_iret d_Of_proves_84 rfl rfl (Nat.le_refl _) (Nat.le_refl _) ⟨Rw_0 hz (prvA_f ha hb9 (fun q => by obtain ⟨q1, q2, q3, q4, q5, q6⟩ := q; first | exact h7 q1 | exact h18 (q2 h13) | (have q7 := hr8.mpr (q3 h13); rw [q7] at h45; exact absurd h45 (by decide)) | (rw [q4] at h54; exact absurd h54 (by decide)) | (rw [q5] at h63; exact h63 rfl) | (have q7 := hr9.mpr q6; rw [q7] at h76; exact absurd h76 (by decide)))), ⟨hA, of_fr.rf⟩⟩
        · refine bj_iload d_Of_proves_57 rfl ?_
          refine bj_iload_n d_Of_proves_59 rfl rfl ?_
          refine bj_csF ss_Of_163 d_Of_proves_60 (t_Of_has l D c ad M (by omega)) rfl rfl (by decide) (by decide) (by decide) (Nat.le_of_ble_eq_true rfl) rfl ?_
          refine bj_if_ne (tgt := 83) d_Of_proves_63 (by decide) (fun h63 => ?_) (fun h63 => ?_)
          · refine bj_iconst (v := (nI 0)) d_Of_proves_83 (by decide) ?_
            exact bj_iret d_Of_proves_84 rfl rfl (Nat.le_refl _) (Nat.le_refl _) ⟨Rw_0 hz (prvA_f ha hb9 (fun q => by obtain ⟨q1, q2, q3, q4, q5, q6⟩ := q; first | exact h7 q1 | exact h18 (q2 h13) | (have q7 := hr8.mpr (q3 h13); rw [q7] at h45; exact absurd h45 (by decide)) | (rw [q4] at h54; exact absurd h54 (by decide)) | (rw [q5] at h63; exact h63 rfl) | (have q7 := hr9.mpr q6; rw [q7] at h76; exact absurd h76 (by decide)))), ⟨hA, of_fr.rf⟩⟩
          · refine bj_aload_n d_Of_proves_66 rfl rfl ?_
            refine bj_get d_Of_proves_67 in_Of rfl (by decide : 5 < 9) wf_Of_36 rfl hO rfl ?_
            refine bj_iload d_Of_proves_70 rfl ?_
            refine bj_iload_n d_Of_proves_72 rfl rfl ?_
            refine bj_cvR sv_Of_167 d_Of_proves_73 (t_Co_isHeldIn l D c ad M hC hN) rfl rfl (by decide) (by decide) (by decide) (Nat.le_of_ble_eq_true rfl) rfl hC.1 rfl rfl (fun v2 N2 hq2 => ?_)
            obtain ⟨r9, rfl, hr9, hM9⟩ := hq2
            show bj_S (bw_G l D c) Y_Of_proves 8 (0, 0, 1, 6) ad (q_pub [xA] (Rw (prC N (nI a) (nI b)) (prvA (fun a b => nI (psum sg sz rk tm 12 a b)) N (nI a) (nI b) x3 x4 x5)) (of_st c ad M N op se dw sg sz rk tm) (of_st c ad M N op se dw sg sz rk tm)) 0 0 76 [some (.ref (ad 0)), some (.int (nI a)), some (.int (nI b)), some (.int x3), some (.int x4), some (.int x5), some (.int (nI 1))] [.int (bt_n r9)] N2
            rw [hM9]
            refine bj_if_eq (tgt := 83) d_Of_proves_76 (by decide) (fun h76 => ?_) (fun h76 => ?_)
            · refine bj_iconst (v := (nI 0)) d_Of_proves_83 (by decide) ?_
              exact bj_iret d_Of_proves_84 rfl rfl (Nat.le_refl _) (Nat.le_refl _) ⟨Rw_0 hz (prvA_f ha hb9 (fun q => by obtain ⟨q1, q2, q3, q4, q5, q6⟩ := q; first | exact h7 q1 | exact h18 (q2 h13) | (have q7 := hr8.mpr (q3 h13); rw [q7] at h45; exact absurd h45 (by decide)) | (rw [q4] at h54; exact absurd h54 (by decide)) | (rw [q5] at h63; exact h63 rfl) | (have q7 := hr9.mpr q6; rw [q7] at h76; exact absurd h76 (by decide)))), ⟨hA, of_fr.rf⟩⟩
            · refine bj_iconst (v := (nI 1)) d_Of_proves_79 (by decide) ?_
              refine bj_goto (tgt := 84) d_Of_proves_80 (by decide) ?_
              exact bj_iret d_Of_proves_84 rfl rfl (Nat.le_refl _) (Nat.le_refl _) ⟨Rw_0 hz (prvA_t ha hb9 ⟨h7, fun _ => h18, fun q => absurd h13 q, bt_nn h54, bt_n0.mp h63, hr9.mp (bt_nn h76)⟩), ⟨hA, of_fr.rf⟩⟩
  · refine bj_iconst (v := (nI 0)) d_Of_proves_10 (by decide) ?_
    exact bj_iret d_Of_proves_11 rfl rfl (Nat.le_refl _) (Nat.le_refl _) ⟨Rw_0 hz (prvA_f ha hb9 (fun q => by obtain ⟨q1, q2, q3, q4, q5, q6⟩ := q; first | exact h7 q1 | exact h18 (q2 h13) | (have q7 := hr8.mpr (q3 h13); rw [q7] at h45; exact absurd h45 (by decide)) | (rw [q4] at h54; exact absurd h54 (by decide)) | (rw [q5] at h63; exact h63 rfl) | (have q7 := hr9.mpr q6; rw [q7] at h76; exact absurd h76 (by decide)))), ⟨hA, of_fr.rf⟩⟩
set_option maxRecDepth 100000 in
set_option maxHeartbeats 4000000 in
/-- winner -/
theorem t_Of_winner (htr : l.stackTraces = false) {N op : Nat} {se : Bool} {dw sg sz : Nat → Nat} {rk : Nat → Nat → Int32} {tm : Nat → Nat → Nat} (hA : of_all c ad M N op se dw sg sz rk tm) {x1 : Int32} : bj_T (bw_G l D c) Y_Of_winner 8 (0, 0, 1, 6) ad (q_pub [xI] (Rf 1 (ft (mem_q (winb (psum sg sz rk tm 12) N) x1) 8)) (of_st c ad M N op se dw sg sz rk tm) (of_st c ad M N op se dw sg sz rk tm)) [.ref (ad 0), .int x1] M := by
  show bj_S _ _ _ _ _ _ 0 0 0 [some (.ref (ad 0)), some (.int x1)] [] M
  obtain ⟨⟨hN1, hN, hop, ⟨ps, hpm⟩, hbt, hun⟩, ⟨hO, hd, hB, hb, hC⟩, hsc⟩ := id hA
  have hP : ∀ a b, a < N → b < N → (fun a b => nI (psum sg sz rk tm 12 a b)) a b = nI (psum sg sz rk tm 12 a b) := fun _ _ _ _ => rfl
  have hp : ∀ a b, a < N → b < N → psum sg sz rk tm 12 a b < 2 ^ 31 := fun a b _ _ => hA.pl 12 a b
  obtain ⟨f0, hA0⟩ := hsc.2.1
  refine bj_aload_n d_Of_winner_0 rfl rfl ?_
  refine bj_aload_n d_Of_winner_1 rfl rfl ?_
  refine bj_get d_Of_winner_2 in_Of rfl (by decide : 5 < 9) wf_Of_36 rfl hO rfl ?_
  refine bj_cvR sv_Of_170 d_Of_winner_5 (t_Of_winnerSet l D c ad M hO hN hC hP hp (by omega) hA0) rfl rfl (by decide) (by decide) (by decide) (Nat.le_of_ble_eq_true rfl) rfl hO rfl rfl (fun v1 N1 hq1 => ?_)
  obtain ⟨rfl, hA1, hf1⟩ := hq1
  show bj_S (bw_G l D c) Y_Of_winner 8 (0, 0, 1, 6) ad (q_pub [xI] (Rf 1 (ft (mem_q (winb (psum sg sz rk tm 12) N) x1) 8)) (of_st c ad M N op se dw sg sz rk tm) (of_st c ad M N op se dw sg sz rk tm)) 0 0 8 [some (.ref (ad 0)), some (.int x1)] [.int (winb (psum sg sz rk tm 12) N)] N1
  have hst := hA.ps hA1 hf1
  refine bj_iload_n d_Of_winner_8 rfl rfl ?_
  refine bj_csF ss_Of_174 d_Of_winner_9 (t_Of_member l D c ad N1) rfl rfl (by decide) (by decide) (by decide) (Nat.le_of_ble_eq_true rfl) rfl ?_
  refine bj_cs ss_Of_177 d_Of_winner_12 (t_Of_needFound l D c ad N1 htr) rfl rfl (by decide) (by decide) (by decide) (Nat.le_of_ble_eq_true rfl) rfl (fun v2 N2 hq2 => ?_) (fun v2 N2 hq2 => ?_)
  rotate_left
  · obtain ⟨rfl, rfl, hfd⟩ := hq2
    exact bj_out (fun x hx => nomatch hx) (by decide) (by decide) ⟨1, by decide, rfl, Rf_n (by decide) hfd, hst⟩
  obtain ⟨rfl, rfl, hfd⟩ := hq2
  show bj_S (bw_G l D c) Y_Of_winner 8 (0, 0, 1, 6) ad (q_pub [xI] (Rf 1 (ft (mem_q (winb (psum sg sz rk tm 12) N) x1) 8)) (of_st c ad M N op se dw sg sz rk tm) (of_st c ad M N op se dw sg sz rk tm)) 0 0 15 [some (.ref (ad 0)), some (.int x1)] [.int (oI (ft (mem_q (winb (psum sg sz rk tm 12) N) x1) 8))] N1
  exact bj_iret d_Of_winner_15 rfl rfl (Nat.le_refl _) (Nat.le_refl _) ⟨Rf_0 hfd, hst⟩
set_option maxRecDepth 100000 in
set_option maxHeartbeats 4000000 in
/-- top -/
theorem t_Of_top (htr : l.stackTraces = false) {N op : Nat} {se : Bool} {dw sg sz : Nat → Nat} {rk : Nat → Nat → Int32} {tm : Nat → Nat → Nat} (hA : of_all c ad M N op se dw sg sz rk tm) {x1 : Int32} : bj_T (bw_G l D c) Y_Of_top 8 (0, 0, 1, 6) ad (q_pub [xI] (topR 1 (fun a b => nI (psum sg sz rk tm 12 a b)) N x1) (of_st c ad M N op se dw sg sz rk tm) (of_st c ad M N op se dw sg sz rk tm)) [.ref (ad 0), .int x1] M := by
  show bj_S _ _ _ _ _ _ 0 0 0 [some (.ref (ad 0)), some (.int x1)] [] M
  obtain ⟨⟨hN1, hN, hop, ⟨ps, hpm⟩, hbt, hun⟩, ⟨hO, hd, hB, hb, hC⟩, hsc⟩ := id hA
  have hP : ∀ a b, a < N → b < N → (fun a b => nI (psum sg sz rk tm 12 a b)) a b = nI (psum sg sz rk tm 12 a b) := fun _ _ _ _ => rfl
  have hp : ∀ a b, a < N → b < N → psum sg sz rk tm 12 a b < 2 ^ 31 := fun a b _ _ => hA.pl 12 a b
  refine bj_aload_n d_Of_top_0 rfl rfl ?_
  refine bj_get d_Of_top_1 in_Of rfl (by decide : 5 < 9) wf_Of_36 rfl hO rfl ?_
  refine bj_cvR sv_Of_191 d_Of_top_4 (t_Co_topSet l D c ad M hC hN hN1) rfl rfl (by decide) (by decide) (by decide) (Nat.le_of_ble_eq_true rfl) rfl hC.1 rfl rfl (fun v1 N1 hq1 => ?_)
  obtain ⟨c0, hc0, rfl, hmin, hM9⟩ := hq1
  show bj_S (bw_G l D c) Y_Of_top 8 (0, 0, 1, 6) ad (q_pub [xI] (topR 1 (fun a b => nI (psum sg sz rk tm 12 a b)) N x1) (of_st c ad M N op se dw sg sz rk tm) (of_st c ad M N op se dw sg sz rk tm)) 0 0 7 [some (.ref (ad 0)), some (.int x1)] [.int (bm (mt_of (nbt (fun a b => nI (psum sg sz rk tm 12 a b))) N c0) N)] N1
  rw [hM9]
  refine bj_iload_n d_Of_top_7 rfl rfl ?_
  refine bj_csF ss_Of_174 d_Of_top_8 (t_Of_member l D c ad M) rfl rfl (by decide) (by decide) (by decide) (Nat.le_of_ble_eq_true rfl) rfl ?_
  refine bj_cs ss_Of_177 d_Of_top_11 (t_Of_needFound l D c ad M htr) rfl rfl (by decide) (by decide) (by decide) (Nat.le_of_ble_eq_true rfl) rfl (fun v2 N2 hq2 => ?_) (fun v2 N2 hq2 => ?_)
  rotate_left
  · obtain ⟨rfl, rfl, hfd⟩ := hq2
    exact bj_out (fun x hx => nomatch hx) (by decide) (by decide) ⟨1, by decide, rfl, ⟨c0, hc0, hmin, Rf_n (by decide) hfd⟩, ⟨hA, of_fr.rf⟩⟩
  obtain ⟨rfl, rfl, hfd⟩ := hq2
  show bj_S (bw_G l D c) Y_Of_top 8 (0, 0, 1, 6) ad (q_pub [xI] (topR 1 (fun a b => nI (psum sg sz rk tm 12 a b)) N x1) (of_st c ad M N op se dw sg sz rk tm) (of_st c ad M N op se dw sg sz rk tm)) 0 0 14 [some (.ref (ad 0)), some (.int x1)] [.int (oI (ft (mem_q (bm (mt_of (nbt (fun a b => nI (psum sg sz rk tm 12 a b))) N c0) N) x1) 8))] M
  exact bj_iret d_Of_top_14 rfl rfl (Nat.le_refl _) (Nat.le_refl _) ⟨⟨c0, hc0, hmin, Rf_0 hfd⟩, ⟨hA, of_fr.rf⟩⟩
set_option maxRecDepth 100000 in
set_option maxHeartbeats 4000000 in
/-- order -/
theorem t_Of_order (htr : l.stackTraces = false) {N op : Nat} {se : Bool} {dw sg sz : Nat → Nat} {rk : Nat → Nat → Int32} {tm : Nat → Nat → Nat} (hA : of_all c ad M N op se dw sg sz rk tm) {x1 : Int32} : bj_T (bw_G l D c) Y_Of_order 8 (0, 0, 1, 6) ad (q_pub [xI] (ordR 1 (psum sg sz rk tm 12) N dw x1) (of_st c ad M N op se dw sg sz rk tm) (of_st c ad M N op se dw sg sz rk tm)) [.ref (ad 0), .int x1] M := by
  show bj_S _ _ _ _ _ _ 0 0 0 [some (.ref (ad 0)), some (.int x1)] [] M
  obtain ⟨⟨hN1, hN, hop, ⟨ps, hpm⟩, hbt, hun⟩, ⟨hO, hd, hB, hb, hC⟩, hsc⟩ := id hA
  have hP : ∀ a b, a < N → b < N → (fun a b => nI (psum sg sz rk tm 12 a b)) a b = nI (psum sg sz rk tm 12 a b) := fun _ _ _ _ => rfl
  have hp : ∀ a b, a < N → b < N → psum sg sz rk tm 12 a b < 2 ^ 31 := fun a b _ _ => hA.pl 12 a b
  obtain ⟨lo0, co0, U0, V0, pn0, hL0⟩ := hsc.2.2.2
  refine bj_aload_n d_Of_order_0 rfl rfl ?_
  refine bj_aload_n d_Of_order_1 rfl rfl ?_
  refine bj_get d_Of_order_2 in_Of rfl (by decide : 5 < 9) wf_Of_36 rfl hO rfl ?_
  refine bj_iload_n d_Of_order_5 rfl rfl ?_
  refine bj_cvR sv_Of_187 d_Of_order_6 (t_Of_inOrder l D c ad M hO hN hC hP hp (by omega) hd hpm hL0) rfl rfl (by decide) (by decide) (by decide) (Nat.le_of_ble_eq_true rfl) rfl hO rfl rfl (fun v1 N1 hq1 => ?_)
  obtain ⟨hor, ⟨lo1, co1, U1, V1, pn1, hL1⟩, hfl⟩ := hq1
  obtain ⟨z, hvz⟩ := ord_int hor
  have hst := hA.lks hL1 hfl
  have hvz2 := hvz
  subst hvz2
  show bj_S (bw_G l D c) Y_Of_order 8 (0, 0, 1, 6) ad (q_pub [xI] (ordR 1 (psum sg sz rk tm 12) N dw x1) (of_st c ad M N op se dw sg sz rk tm) (of_st c ad M N op se dw sg sz rk tm)) 0 0 9 [some (.ref (ad 0)), some (.int x1)] [.int z] N1
  refine bj_cs ss_Of_177 d_Of_order_9 (t_Of_needFound l D c ad N1 htr) rfl rfl (by decide) (by decide) (by decide) (Nat.le_of_ble_eq_true rfl) rfl (fun v2 N2 hq2 => ?_) (fun v2 N2 hq2 => ?_)
  rotate_left
  · obtain ⟨rfl, rfl, hfd⟩ := hq2
    exact bj_out (fun x hx => nomatch hx) (by decide) (by decide) ⟨1, by decide, rfl, ord_n hN hor rfl hfd, hst⟩
  obtain ⟨rfl, rfl, hfd⟩ := hq2
  show bj_S (bw_G l D c) Y_Of_order 8 (0, 0, 1, 6) ad (q_pub [xI] (ordR 1 (psum sg sz rk tm 12) N dw x1) (of_st c ad M N op se dw sg sz rk tm) (of_st c ad M N op se dw sg sz rk tm)) 0 0 12 [some (.ref (ad 0)), some (.int x1)] [.int z] N1
  exact bj_iret d_Of_order_12 rfl rfl (Nat.le_refl _) (Nat.le_refl _) ⟨ord_0 hor rfl hfd, hst⟩
set_option maxRecDepth 100000 in
set_option maxHeartbeats 4000000 in
/-- locked -/
theorem t_Of_locked (htr : l.stackTraces = false) {N op : Nat} {se : Bool} {dw sg sz : Nat → Nat} {rk : Nat → Nat → Int32} {tm : Nat → Nat → Nat} (hA : of_all c ad M N op se dw sg sz rk tm) {x1 x2 : Int32} : bj_T (bw_G l D c) Y_Of_locked 8 (0, 0, 1, 6) ad (q_pub [xA] (Rw (prC N x1 x2) (lockA (psum sg sz rk tm 12) N dw x1 x2)) (of_st c ad M N op se dw sg sz rk tm) (of_st c ad M N op se dw sg sz rk tm)) [.ref (ad 0), .int x1, .int x2] M := by
  show bj_S _ _ _ _ _ _ 0 0 0 [some (.ref (ad 0)), some (.int x1), some (.int x2)] [] M
  obtain ⟨⟨hN1, hN, hop, ⟨ps, hpm⟩, hbt, hun⟩, ⟨hO, hd, hB, hb, hC⟩, hsc⟩ := id hA
  have hP : ∀ a b, a < N → b < N → (fun a b => nI (psum sg sz rk tm 12 a b)) a b = nI (psum sg sz rk tm 12 a b) := fun _ _ _ _ => rfl
  have hp : ∀ a b, a < N → b < N → psum sg sz rk tm 12 a b < 2 ^ 31 := fun a b _ _ => hA.pl 12 a b
  obtain ⟨lo0, co0, U0, V0, pn0, hL0⟩ := hsc.2.2.2
  refine bj_aload_n d_Of_locked_0 rfl rfl ?_
  refine bj_iload_n d_Of_locked_1 rfl rfl ?_
  refine bj_iload_n d_Of_locked_2 rfl rfl ?_
  refine bj_cv sv_Of_138 d_Of_locked_3 (t_Of_needPair l D c ad M htr hO hN) rfl rfl (by decide) (by decide) (by decide) (Nat.le_of_ble_eq_true rfl) rfl hO rfl rfl (fun v1 N1 hq1 => ?_) (fun v1 N1 hq1 => ?_)
  rotate_left
  · obtain ⟨rfl, rfl, h1⟩ := hq1
    exact bj_out (fun x hx => nomatch hx) (by decide) (by decide) ⟨1, by decide, rfl, Rw_n (prC_f h1) (by decide), ⟨hA, of_fr.rf⟩⟩
  obtain ⟨rfl, rfl, h1⟩ := hq1
  show bj_S (bw_G l D c) Y_Of_locked 8 (0, 0, 1, 6) ad (q_pub [xA] (Rw (prC N x1 x2) (lockA (psum sg sz rk tm 12) N dw x1 x2)) (of_st c ad M N op se dw sg sz rk tm) (of_st c ad M N op se dw sg sz rk tm)) 0 0 6 [some (.ref (ad 0)), some (.int x1), some (.int x2)] [] M
  obtain ⟨a, ha, rfl⟩ := ic_t (by omega) h1.1
  obtain ⟨b, hb9, rfl⟩ := ic_t (by omega) h1.2.1
  have hz := prC_t h1
  have hab : a ≠ b := fun q => h1.2.2 (by rw [q])
  refine bj_aload_n d_Of_locked_6 rfl rfl ?_
  refine bj_get d_Of_locked_7 in_Of rfl (by decide : 8 < 9) wf_Of_53 rfl hO rfl ?_
  refine bj_aload_n d_Of_locked_10 rfl rfl ?_
  refine bj_get d_Of_locked_11 in_Of rfl (by decide : 5 < 9) wf_Of_36 rfl hO rfl ?_
  refine bj_aload_n d_Of_locked_14 rfl rfl ?_
  refine bj_get d_Of_locked_15 in_Of rfl (by decide : 1 < 9) wf_Of_13 rfl hO rfl ?_
  refine bj_cvR sv_Of_180 d_Of_locked_18 (t_Lo_lockPairs l D c ad M hL0 hN hC hP hp hd hpm (by omega) (by omega)) rfl rfl (by decide) (by decide) (by decide) (Nat.le_of_ble_eq_true rfl) rfl hL0.1 rfl rfl (fun v2 N2 hq2 => ?_)
  obtain ⟨rfl, ⟨lo1, co1, U1, V1, e, pn1, hpn1, hs1, hL1, hK1⟩, hfl⟩ := hq2
  show bj_S (bw_G l D c) Y_Of_locked 8 (0, 0, 1, 6) ad (q_pub [xA] (Rw (prC N (nI a) (nI b)) (lockA (psum sg sz rk tm 12) N dw (nI a) (nI b))) (of_st c ad M N op se dw sg sz rk tm) (of_st c ad M N op se dw sg sz rk tm)) 0 0 21 [some (.ref (ad 0)), some (.int (nI a)), some (.int (nI b))] [] N2
  have hst := hA.lks hL1 hfl
  have hO2 := hst.1.2.1.1
  refine bj_aload_n d_Of_locked_21 rfl rfl ?_
  refine bj_get d_Of_locked_22 in_Of rfl (by decide : 8 < 9) wf_Of_53 rfl hO2 rfl ?_
  refine bj_getN d_Of_locked_25 in_Lo rfl (by decide : 1 < 6) wf_Of_184 rfl hL1.1 rfl ?_
  refine bj_iload_n d_Of_locked_28 rfl rfl ?_
  refine bv_iald d_Of_locked_29 0 rfl hL1.2.1 (by omega) (by omega) rfl ?_
  refine bj_iload_n d_Of_locked_30 rfl rfl ?_
  refine bj_csF ss_Of_163 d_Of_locked_31 (t_Of_has l D c ad N2 (by omega)) rfl rfl (by decide) (by decide) (by decide) (Nat.le_of_ble_eq_true rfl) rfl ?_
  exact bj_iret d_Of_locked_34 rfl nar_bt (Nat.le_refl _) (Nat.le_refl _) ⟨Rw_0 hz ⟨a, b, so_lk e pn1, ha, hb9, rfl, rfl, ⟨ps, e, pn1, hpm, hs1, rfl⟩, by rw [hK1 b hb9 a (by omega)]⟩, hst⟩
set_option maxRecDepth 100000 in
set_option maxHeartbeats 4000000 in
/-- seal -/
theorem t_Of_seal (htr : l.stackTraces = false) {N op : Nat} {se : Bool} {dw sg sz : Nat → Nat} {rk : Nat → Nat → Int32} {tm : Nat → Nat → Nat} (hA : of_all c ad M N op se dw sg sz rk tm)  : bj_T (bw_G l D c) Y_Of_seal 8 (0, 0, 1, 6) ad (q_pub [] (Rv 0 (bt_n (!se))) (of_st c ad M N op (true) dw sg sz rk tm) (of_st c ad M N op se dw sg sz rk tm)) [.ref (ad 0)] M := by
  show bj_S _ _ _ _ _ _ 0 0 0 [some (.ref (ad 0)), none] [] M
  obtain ⟨⟨hN1, hN, hop, ⟨ps, hpm⟩, hbt, hun⟩, ⟨hO, hd, hB, hb, hC⟩, hsc⟩ := id hA
  have hP : ∀ a b, a < N → b < N → (fun a b => nI (psum sg sz rk tm 12 a b)) a b = nI (psum sg sz rk tm 12 a b) := fun _ _ _ _ => rfl
  have hp : ∀ a b, a < N → b < N → psum sg sz rk tm 12 a b < 2 ^ 31 := fun a b _ _ => hA.pl 12 a b
  refine bj_aload_n d_Of_seal_0 rfl rfl ?_
  refine bj_get d_Of_seal_1 in_Of rfl (by decide : 4 < 9) wf_Of_27 rfl hO rfl ?_
  refine bj_if_ne (tgt := 11) d_Of_seal_4 (by decide) (fun h4 => ?_) (fun h4 => ?_)
  · refine bj_iconst (v := (nI 0)) d_Of_seal_11 (by decide) ?_
    refine bj_istore_n (L' := [some (.ref (ad 0)), some (.int (nI 0))]) d_Of_seal_12 rfl (by decide) rfl ?_
    refine bj_aload_n d_Of_seal_13 rfl rfl ?_
    refine bj_iconst (v := (nI 1)) d_Of_seal_14 (by decide) ?_
    refine bj_put d_Of_seal_15 in_Of ok_Of nm_Of rfl (by decide : 4 < 9) wf_Of_27 rfl rfl rfl rfl rfl (Nat.le_of_ble_eq_true rfl) hO ?_
    have hnew : of_all c ad (va_up M 0 (some (.inr (4, of_F ad N op true)))) N op true dw sg sz rk tm := hA.head (Nat.le_refl _) hop (va_up_self _ _ _) (fun q hq => va_up_ne _ _ hq)
    have hf : of_fr M (va_up M 0 (some (.inr (4, of_F ad N op true)))) := fun q hq => va_up_ne _ _ (by omega)
    show bj_S _ _ _ _ _ _ 0 0 _ _ [] (va_up M 0 (some (.inr (4, of_F ad N op true))))
    generalize va_up M 0 (some (.inr (4, of_F ad N op true))) = M7 at hnew hf ⊢
    refine bj_iload_n d_Of_seal_18 rfl rfl ?_
    exact bj_iret d_Of_seal_19 rfl rfl (Nat.le_refl _) (Nat.le_refl _) ⟨⟨rfl, by rw [bt_nn h4]; rfl⟩, hnew, hf⟩
  · refine bj_iconst (v := (nI 1)) d_Of_seal_7 (by decide) ?_
    refine bj_goto (tgt := 12) d_Of_seal_8 (by decide) ?_
    refine bj_istore_n (L' := [some (.ref (ad 0)), some (.int (nI 1))]) d_Of_seal_12 rfl (by decide) rfl ?_
    refine bj_aload_n d_Of_seal_13 rfl rfl ?_
    refine bj_iconst (v := (nI 1)) d_Of_seal_14 (by decide) ?_
    refine bj_put d_Of_seal_15 in_Of ok_Of nm_Of rfl (by decide : 4 < 9) wf_Of_27 rfl rfl rfl rfl rfl (Nat.le_of_ble_eq_true rfl) hO ?_
    have hnew : of_all c ad (va_up M 0 (some (.inr (4, of_F ad N op true)))) N op true dw sg sz rk tm := hA.head (Nat.le_refl _) hop (va_up_self _ _ _) (fun q hq => va_up_ne _ _ hq)
    have hf : of_fr M (va_up M 0 (some (.inr (4, of_F ad N op true)))) := fun q hq => va_up_ne _ _ (by omega)
    show bj_S _ _ _ _ _ _ 0 0 _ _ [] (va_up M 0 (some (.inr (4, of_F ad N op true))))
    generalize va_up M 0 (some (.inr (4, of_F ad N op true))) = M7 at hnew hf ⊢
    refine bj_iload_n d_Of_seal_18 rfl rfl ?_
    exact bj_iret d_Of_seal_19 rfl rfl (Nat.le_refl _) (Nat.le_refl _) ⟨⟨rfl, by rw [bt_n0.mp h4]; rfl⟩, hnew, hf⟩
end O5
