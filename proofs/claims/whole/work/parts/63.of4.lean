/-! BeatPathOffice: the public methods, first (walks by gen/m_of4.py) -/
section O4

def tieC (N op : Nat) (se : Bool) (x y : Int32) : Nat := if ic N x = true ∧ ic N y = true then (if se = true ∨ 0 < op then 2 else 0) else 1
/-- the drawn order after tie -/
def tieD (N : Nat) (dw : Nat → Nat) (x y : Int32) : Nat → Nat := tdw dw (plc dw N x.toNatClampNeg) y.toNatClampNeg
theorem tieD_n {N a b : Nat} {dw : Nat → Nat} (ha : a < 2 ^ 31) (hb : b < 2 ^ 31) : tieD N dw (nI a) (nI b) = tdw dw (plc dw N a) b := by
  unfold tieD
  rw [nI_clamp ha, nI_clamp hb]
theorem bt_nnot {b : Bool} (h : b ≠ true) : b = false := by cases b <;> simp_all
/-- a code where the first thing fails -/
def icC (b : Bool) : Nat := if b = true then 0 else 1
theorem icC_t {b : Bool} (h : b = true) : icC b = 0 := if_pos h
theorem icC_f {b : Bool} (h : ¬ b = true) : icC b = 1 := if_neg h
theorem clp {a : Nat} (f : Nat → Int32) (h : a < 2 ^ 31) : f (nI a).toNatClampNeg = f a := by rw [nI_clamp h]
/-- two different candidates -/
def prC (N : Nat) (x y : Int32) : Nat := if ic N x = true ∧ ic N y = true ∧ x ≠ y then 0 else 1
theorem prC_t {N : Nat} {x y : Int32} (h : ic N x = true ∧ ic N y = true ∧ x ≠ y) : prC N x y = 0 := if_pos h
theorem prC_f {N : Nat} {x y : Int32} (h : ¬ (ic N x = true ∧ ic N y = true ∧ x ≠ y)) : prC N x y = 1 := if_neg h
/-- a value of two candidates -/
def at2 (f : Nat → Nat → Int32) (x y : Int32) : Int32 := f x.toNatClampNeg y.toNatClampNeg
theorem at2_n {f : Nat → Nat → Int32} {a b : Nat} (ha : a < 2 ^ 31) (hb : b < 2 ^ 31) : at2 f (nI a) (nI b) = f a b := by
  unfold at2
  rw [nI_clamp ha, nI_clamp hb]
theorem Rv_at {n : Nat} {f : Nat → Nat → Int32} {a b : Nat} {v : Int32} (h : n = 0) (ha : a < 2 ^ 31) (hb : b < 2 ^ 31) (e : f a b = v) : Rv n (at2 f (nI a) (nI b)) 0 (some (.int v)) := by
  subst e
  rw [at2_n ha hb]
  exact Rv_0 h
def at1 (f : Nat → Int32) (x : Int32) : Int32 := f x.toNatClampNeg
theorem at1_n {f : Nat → Int32} {a : Nat} (ha : a < 2 ^ 31) : at1 f (nI a) = f a := by
  unfold at1
  rw [nI_clamp ha]
theorem Rv_at1 {n : Nat} {f : Nat → Int32} {a : Nat} {v : Int32} (h : n = 0) (ha : a < 2 ^ 31) (e : f a = v) : Rv n (at1 f (nI a)) 0 (some (.int v)) := by
  subst e
  rw [at1_n ha]
  exact Rv_0 h
theorem of_all.ps {c : Nat → ClassId} {ad : Nat → Nat} {M M' : bj_M} {N op : Nat} {se : Bool} {dw sg sz : Nat → Nat} {rk : Nat → Nat → Int32} {tm : Nat → Nat → Nat} {f : Nat → Nat → Nat} (h : of_all c ad M N op se dw sg sz rk tm) (h1 : pa_ok c ad M' 59 N f) (hf : pa_fr 59 N M M') : of_st c ad M N op se dw sg sz rk tm M' := ⟨h.in (fun q hq => hf q (by have := h.1.2.1; omega)) (h.2.2.paths h.1.2.1 h1 hf), fun q hq => hf q (by have := h.1.2.1; omega)⟩
variable (l : Launch) (D : va_G) (c : Nat → ClassId) (ad : Nat → Nat) (M : bj_M)
set_option maxRecDepth 100000 in
set_option maxHeartbeats 4000000 in
/-- tie -/
theorem t_Of_tie (htr : l.stackTraces = false) {N op : Nat} {se : Bool} {dw sg sz : Nat → Nat} {rk : Nat → Nat → Int32} {tm : Nat → Nat → Nat} (hA : of_all c ad M N op se dw sg sz rk tm) {x1 x2 : Int32} : bj_T (bw_G l D c) Y_Of_tie 8 (0, 0, 1, 6) ad (q_pub [xA, xS] (Ru (tieC N op se x1 x2)) (of_st c ad M N op se (tieD N dw x1 x2) sg sz rk tm) (of_st c ad M N op se dw sg sz rk tm)) [.ref (ad 0), .int x1, .int x2] M := by
  show bj_S _ _ _ _ _ _ 0 0 0 [some (.ref (ad 0)), some (.int x1), some (.int x2)] [] M
  obtain ⟨⟨hN1, hN, hop, ⟨ps, hpm⟩, hbt, hun⟩, ⟨hO, hd, hB, hb, hC⟩, hsc⟩ := id hA
  have hP : ∀ a b, a < N → b < N → (fun a b => nI (psum sg sz rk tm 12 a b)) a b = nI (psum sg sz rk tm 12 a b) := fun _ _ _ _ => rfl
  have hp : ∀ a b, a < N → b < N → psum sg sz rk tm 12 a b < 2 ^ 31 := fun a b _ _ => hA.pl 12 a b
  refine bj_aload_n d_Of_tie_0 rfl rfl ?_
  refine bj_iload_n d_Of_tie_1 rfl rfl ?_
  refine bj_cv sv_Of_57 d_Of_tie_2 (t_Of_needCandidate l D c ad M htr hO hN) rfl rfl (by decide) (by decide) (by decide) (Nat.le_of_ble_eq_true rfl) rfl hO rfl rfl (fun v1 N1 hq1 => ?_) (fun v1 N1 hq1 => ?_)
  rotate_left
  · obtain ⟨rfl, rfl, h1⟩ := hq1
    exact bj_out (fun x hx => nomatch hx) (by decide) (by decide) ⟨1, by decide, rfl, ⟨(if_neg (fun q => h1 q.1)).symm, rfl⟩, ⟨hA, of_fr.rf⟩⟩
  obtain ⟨rfl, rfl, h1⟩ := hq1
  show bj_S (bw_G l D c) Y_Of_tie 8 (0, 0, 1, 6) ad (q_pub [xA, xS] (Ru (tieC N op se x1 x2)) (of_st c ad M N op se (tieD N dw x1 x2) sg sz rk tm) (of_st c ad M N op se dw sg sz rk tm)) 0 0 5 [some (.ref (ad 0)), some (.int x1), some (.int x2)] [] M
  refine bj_aload_n d_Of_tie_5 rfl rfl ?_
  refine bj_iload_n d_Of_tie_6 rfl rfl ?_
  refine bj_cvF sv_Of_60 d_Of_tie_7 (t_Of_isCandidate l D c ad M hO hN) rfl rfl (by decide) (by decide) (by decide) (Nat.le_of_ble_eq_true rfl) rfl hO rfl rfl ?_
  refine bj_if_ne (tgt := 23) d_Of_tie_10 (by decide) (fun h10 => ?_) (fun h10 => ?_)
  · have h2 := bt_nn h10
    refine bj_aload_n d_Of_tie_23 rfl rfl ?_
    refine bj_cv sv_Of_71 d_Of_tie_24 (t_Of_needUnsealed l D c ad M htr hO hN) rfl rfl (by decide) (by decide) (by decide) (Nat.le_of_ble_eq_true rfl) rfl hO rfl rfl (fun v2 N2 hq2 => ?_) (fun v2 N2 hq2 => ?_)
    rotate_left
    · obtain ⟨rfl, rfl, h3⟩ := hq2
      exact bj_out (fun x hx => nomatch hx) (by decide) (by decide) ⟨2, by decide, rfl, ⟨((if_pos ⟨h1, h2⟩).trans (if_pos (Or.inl (by cases se with
        | true => rfl
        | false => exact absurd rfl h3)))).symm, rfl⟩, ⟨hA, of_fr.rf⟩⟩
    obtain ⟨rfl, rfl, h3⟩ := hq2
    show bj_S (bw_G l D c) Y_Of_tie 8 (0, 0, 1, 6) ad (q_pub [xA, xS] (Ru (tieC N op se x1 x2)) (of_st c ad M N op se (tieD N dw x1 x2) sg sz rk tm) (of_st c ad M N op se dw sg sz rk tm)) 0 0 27 [some (.ref (ad 0)), some (.int x1), some (.int x2)] [] M
    refine bj_aload_n d_Of_tie_27 rfl rfl ?_
    refine bj_get d_Of_tie_28 in_Of rfl (by decide : 3 < 9) wf_Of_24 rfl hO rfl ?_
    refine bj_if_leN (tgt := 44) d_Of_tie_31 (by decide) (by omega) (fun h31 => ?_) (fun h31 => ?_)
    · refine bj_aload_n d_Of_tie_44 rfl rfl ?_
      refine bj_iload_n d_Of_tie_45 rfl rfl ?_
      refine bj_iload_n d_Of_tie_46 rfl rfl ?_
      obtain ⟨a, ha, rfl⟩ := ic_t (by omega) h1
      obtain ⟨b, hb9, rfl⟩ := ic_t (by omega) h2
      have hz : tieC N op se (nI a) (nI b) = 0 := by unfold tieC; rw [if_pos ⟨h1, h2⟩, if_neg (by rw [h3]; simp; omega)]
      refine bj_cvR sv_Of_79 d_Of_tie_47 (t_Of_moveInDrawnOrder l D c ad M hO hN hd hpm ha hb9) rfl rfl (by decide) (by decide) (by decide) (Nat.le_of_ble_eq_true rfl) rfl hO rfl rfl (fun v3 N3 hq3 => ?_)
      obtain ⟨rfl, hD2, hE2⟩ := hq3
      show bj_S (bw_G l D c) Y_Of_tie 8 (0, 0, 1, 6) ad (q_pub [xA, xS] (Ru (tieC N op se (nI a) (nI b))) (of_st c ad M N op se (tieD N dw (nI a) (nI b)) sg sz rk tm) (of_st c ad M N op se dw sg sz rk tm)) 0 0 50 [some (.ref (ad 0)), some (.int (nI a)), some (.int (nI b))] [] N3
      have hnew : of_all c ad N3 N op se (tieD N dw (nI a) (nI b)) sg sz rk tm := by
        rw [tieD_n (by omega) (by omega), plc_eq hpm ha]
        exact hA.draw (hpm.2 a ha).1 hb9 hD2 hE2
      exact bj_vret d_Of_tie_50 rfl (Nat.le_refl _) (Nat.le_refl _) ⟨⟨hz.symm, rfl⟩, hnew, fun q hq => hE2 q (by omega)⟩
    · exact bj_throw (names := xN) d_Of_tie_34 d_Of_tie_37 d_Of_tie_38 d_Of_tie_40 d_Of_tie_43 htr (by decide) (by decide) (by decide) (by decide) wc_Of_74 wi_IllegalStateException wt_Of_76 wo_Of_78 (fun x hx => nomatch hx) (by decide) (by decide) (Nat.le_of_ble_eq_true rfl) ⟨2, by decide, rfl, ⟨((if_pos ⟨h1, h2⟩).trans (if_pos (Or.inr h31))).symm, rfl⟩, ⟨hA, of_fr.rf⟩⟩
  · exact bj_throw (names := xN) d_Of_tie_13 d_Of_tie_16 d_Of_tie_17 d_Of_tie_19 d_Of_tie_22 htr (by decide) (by decide) (by decide) (by decide) wc_Of_64 wi_IllegalArgumentException wt_Of_66 wo_Of_68 (fun x hx => nomatch hx) (by decide) (by decide) (Nat.le_of_ble_eq_true rfl) ⟨1, by decide, rfl, ⟨(if_neg (fun q => by rw [bt_n0.mp h10] at q; cases q.2)).symm, rfl⟩, ⟨hA, of_fr.rf⟩⟩
set_option maxRecDepth 100000 in
set_option maxHeartbeats 4000000 in
/-- drawn -/
theorem t_Of_drawn (htr : l.stackTraces = false) {N op : Nat} {se : Bool} {dw sg sz : Nat → Nat} {rk : Nat → Nat → Int32} {tm : Nat → Nat → Nat} (hA : of_all c ad M N op se dw sg sz rk tm) {x1 : Int32} : bj_T (bw_G l D c) Y_Of_drawn 8 (0, 0, 1, 6) ad (q_pub [xI] (Rv (icC (ic N x1)) (at1 (fun i => nI (dw i)) x1)) (of_st c ad M N op se dw sg sz rk tm) (of_st c ad M N op se dw sg sz rk tm)) [.ref (ad 0), .int x1] M := by
  show bj_S _ _ _ _ _ _ 0 0 0 [some (.ref (ad 0)), some (.int x1)] [] M
  obtain ⟨⟨hN1, hN, hop, ⟨ps, hpm⟩, hbt, hun⟩, ⟨hO, hd, hB, hb, hC⟩, hsc⟩ := id hA
  have hP : ∀ a b, a < N → b < N → (fun a b => nI (psum sg sz rk tm 12 a b)) a b = nI (psum sg sz rk tm 12 a b) := fun _ _ _ _ => rfl
  have hp : ∀ a b, a < N → b < N → psum sg sz rk tm 12 a b < 2 ^ 31 := fun a b _ _ => hA.pl 12 a b
  refine bj_aload_n d_Of_drawn_0 rfl rfl ?_
  refine bj_iload_n d_Of_drawn_1 rfl rfl ?_
  refine bj_cvF sv_Of_60 d_Of_drawn_2 (t_Of_isCandidate l D c ad M hO hN) rfl rfl (by decide) (by decide) (by decide) (Nat.le_of_ble_eq_true rfl) rfl hO rfl rfl ?_
  refine bj_if_ne (tgt := 18) d_Of_drawn_5 (by decide) (fun h5 => ?_) (fun h5 => ?_)
  · have h1 := bt_nn h5
    obtain ⟨a, ha, rfl⟩ := ic_t (by omega) h1
    refine bj_aload_n d_Of_drawn_18 rfl rfl ?_
    refine bj_get d_Of_drawn_19 in_Of rfl (by decide : 1 < 9) wf_Of_13 rfl hO rfl ?_
    refine bj_iload_n d_Of_drawn_22 rfl rfl ?_
    refine bv_iald d_Of_drawn_23 0 rfl hd (by omega) (by omega) rfl ?_
    exact bj_iret d_Of_drawn_24 rfl rfl (Nat.le_refl _) (Nat.le_refl _) ⟨Rv_at1 (icC_t h1) (by omega) rfl, ⟨hA, of_fr.rf⟩⟩
  · exact bj_throw (names := xN) d_Of_drawn_8 d_Of_drawn_11 d_Of_drawn_12 d_Of_drawn_14 d_Of_drawn_17 htr (by decide) (by decide) (by decide) (by decide) wc_Of_83 wi_IndexOutOfBoundsException wt_Of_66 wo_Of_85 (fun x hx => nomatch hx) (by decide) (by decide) (Nat.le_of_ble_eq_true rfl) ⟨1, by decide, rfl, Rv_n (icC_f (fun q => by rw [bt_n0.mp h5] at q; cases q)) (by decide), ⟨hA, of_fr.rf⟩⟩
set_option maxRecDepth 100000 in
set_option maxHeartbeats 4000000 in
/-- open -/
theorem t_Of_open (htr : l.stackTraces = false) {N op : Nat} {se : Bool} {dw sg sz : Nat → Nat} {rk : Nat → Nat → Int32} {tm : Nat → Nat → Nat} (hA : of_all c ad M N op se dw sg sz rk tm)  : bj_T (bw_G l D c) Y_Of_open 8 (0, 0, 1, 6) ad (q_pub [xS] (Rv (if se = true ∨ op = 12 then 1 else 0) (nI op)) (of_st c ad M N (op + 1) se dw sg sz rk tm) (of_st c ad M N op se dw sg sz rk tm)) [.ref (ad 0)] M := by
  show bj_S _ _ _ _ _ _ 0 0 0 [some (.ref (ad 0))] [] M
  obtain ⟨⟨hN1, hN, hop, ⟨ps, hpm⟩, hbt, hun⟩, ⟨hO, hd, hB, hb, hC⟩, hsc⟩ := id hA
  have hP : ∀ a b, a < N → b < N → (fun a b => nI (psum sg sz rk tm 12 a b)) a b = nI (psum sg sz rk tm 12 a b) := fun _ _ _ _ => rfl
  have hp : ∀ a b, a < N → b < N → psum sg sz rk tm 12 a b < 2 ^ 31 := fun a b _ _ => hA.pl 12 a b
  refine bj_aload_n d_Of_open_0 rfl rfl ?_
  refine bj_cv sv_Of_71 d_Of_open_1 (t_Of_needUnsealed l D c ad M htr hO hN) rfl rfl (by decide) (by decide) (by decide) (Nat.le_of_ble_eq_true rfl) rfl hO rfl rfl (fun v1 N1 hq1 => ?_) (fun v1 N1 hq1 => ?_)
  rotate_left
  · obtain ⟨rfl, rfl, h3⟩ := hq1
    exact bj_out (fun x hx => nomatch hx) (by decide) (by decide) ⟨1, by decide, rfl, Rv_n (if_pos (Or.inl (by cases se with
      | true => rfl
      | false => exact absurd rfl h3))) (by decide), ⟨hA, of_fr.rf⟩⟩
  obtain ⟨rfl, rfl, h3⟩ := hq1
  show bj_S (bw_G l D c) Y_Of_open 8 (0, 0, 1, 6) ad (q_pub [xS] (Rv (if se = true ∨ op = 12 then 1 else 0) (nI op)) (of_st c ad M N (op + 1) se dw sg sz rk tm) (of_st c ad M N op se dw sg sz rk tm)) 0 0 4 [some (.ref (ad 0))] [] M
  refine bj_aload_n d_Of_open_4 rfl rfl ?_
  refine bj_get d_Of_open_5 in_Of rfl (by decide : 3 < 9) wf_Of_24 rfl hO rfl ?_
  refine bj_bipush (v := (nI 12)) d_Of_open_8 (by decide) ?_
  refine bj_icmp_ltN (tgt := 23) d_Of_open_10 (by decide) (by omega) (by omega) (fun h10 => ?_) (fun h10 => ?_)
  · refine bj_aload_n d_Of_open_23 rfl rfl ?_
    refine bj_dup d_Of_open_24 rfl ?_
    refine bj_get d_Of_open_25 in_Of rfl (by decide : 3 < 9) wf_Of_24 rfl hO rfl ?_
    refine bj_iconst (v := (nI 1)) d_Of_open_28 (by decide) ?_
    refine bj_iadd (v := (nI (op + 1))) d_Of_open_29 (nI_add _ _) ?_
    refine bj_put d_Of_open_30 in_Of ok_Of nm_Of rfl (by decide : 3 < 9) wf_Of_24 rfl rfl rfl rfl rfl (Nat.le_of_ble_eq_true rfl) hO ?_
    have hnew : of_all c ad (va_up M 0 (some (.inr (4, of_F ad N (op + 1) se)))) N (op + 1) se dw sg sz rk tm := hA.head (by omega) (by omega) (va_up_self _ _ _) (fun q hq => va_up_ne _ _ hq)
    have hf : of_fr M (va_up M 0 (some (.inr (4, of_F ad N (op + 1) se)))) := fun q hq => va_up_ne _ _ (by omega)
    show bj_S _ _ _ _ _ _ 0 0 _ _ [] (va_up M 0 (some (.inr (4, of_F ad N (op + 1) se))))
    generalize va_up M 0 (some (.inr (4, of_F ad N (op + 1) se))) = M7 at hnew hf ⊢
    have hO7 := hnew.2.1.1
    refine bj_aload_n d_Of_open_33 rfl rfl ?_
    refine bj_get d_Of_open_34 in_Of rfl (by decide : 3 < 9) wf_Of_24 rfl hO7 rfl ?_
    refine bj_iconst (v := (nI 1)) d_Of_open_37 (by decide) ?_
    refine bj_isub (v := (nI op)) d_Of_open_38 (pk_sub (by omega)) ?_
    exact bj_iret d_Of_open_39 rfl rfl (Nat.le_refl _) (Nat.le_refl _) ⟨Rv_0 (if_neg (by rw [h3]; simp; omega)), hnew, hf⟩
  · exact bj_throw (names := xN) d_Of_open_13 d_Of_open_16 d_Of_open_17 d_Of_open_19 d_Of_open_22 htr (by decide) (by decide) (by decide) (by decide) wc_Of_74 wi_IllegalStateException wt_Of_86 wo_Of_78 (fun x hx => nomatch hx) (by decide) (by decide) (Nat.le_of_ble_eq_true rfl) ⟨1, by decide, rfl, Rv_n (if_pos (Or.inr (by omega))) (by decide), ⟨hA, of_fr.rf⟩⟩
set_option maxRecDepth 100000 in
set_option maxHeartbeats 4000000 in
/-- state -/
theorem t_Of_state (htr : l.stackTraces = false) {N op : Nat} {se : Bool} {dw sg sz : Nat → Nat} {rk : Nat → Nat → Int32} {tm : Nat → Nat → Nat} (hA : of_all c ad M N op se dw sg sz rk tm) {x1 : Int32} : bj_T (bw_G l D c) Y_Of_state 8 (0, 0, 1, 6) ad (q_pub [xA] (Rv (icC (ic op x1)) (at1 (fun i => nI (sg i)) x1)) (of_st c ad M N op se dw sg sz rk tm) (of_st c ad M N op se dw sg sz rk tm)) [.ref (ad 0), .int x1] M := by
  show bj_S _ _ _ _ _ _ 0 0 0 [some (.ref (ad 0)), some (.int x1)] [] M
  obtain ⟨⟨hN1, hN, hop, ⟨ps, hpm⟩, hbt, hun⟩, ⟨hO, hd, hB, hb, hC⟩, hsc⟩ := id hA
  have hP : ∀ a b, a < N → b < N → (fun a b => nI (psum sg sz rk tm 12 a b)) a b = nI (psum sg sz rk tm 12 a b) := fun _ _ _ _ => rfl
  have hp : ∀ a b, a < N → b < N → psum sg sz rk tm 12 a b < 2 ^ 31 := fun a b _ _ => hA.pl 12 a b
  refine bj_aload_n d_Of_state_0 rfl rfl ?_
  refine bj_iload_n d_Of_state_1 rfl rfl ?_
  refine bj_cv sv_Of_88 d_Of_state_2 (t_Of_needBatch l D c ad M htr hO hN) rfl rfl (by decide) (by decide) (by decide) (Nat.le_of_ble_eq_true rfl) rfl hO rfl rfl (fun v1 N1 hq1 => ?_) (fun v1 N1 hq1 => ?_)
  rotate_left
  · obtain ⟨rfl, rfl, h1⟩ := hq1
    exact bj_out (fun x hx => nomatch hx) (by decide) (by decide) ⟨1, by decide, rfl, Rv_n (icC_f h1) (by decide), ⟨hA, of_fr.rf⟩⟩
  obtain ⟨rfl, rfl, h1⟩ := hq1
  show bj_S (bw_G l D c) Y_Of_state 8 (0, 0, 1, 6) ad (q_pub [xA] (Rv (icC (ic op x1)) (at1 (fun i => nI (sg i)) x1)) (of_st c ad M N op se dw sg sz rk tm) (of_st c ad M N op se dw sg sz rk tm)) 0 0 5 [some (.ref (ad 0)), some (.int x1)] [] M
  obtain ⟨a, ha, rfl⟩ := ic_t (by omega) h1
  refine bj_aload_n d_Of_state_5 rfl rfl ?_
  refine bj_get d_Of_state_6 in_Of rfl (by decide : 2 < 9) wf_Of_19 rfl hO rfl ?_
  refine bj_iload_n d_Of_state_9 rfl rfl ?_
  refine bv_aald d_Of_state_10 3 rfl rfl hB (by omega) (by omega) ?_
  refine bj_getN d_Of_state_11 in_Ba rfl (by decide : 0 < 4) wf_Of_96 rfl (hb a (by omega)).1 rfl ?_
  exact bj_iret d_Of_state_14 rfl rfl (Nat.le_refl _) (Nat.le_refl _) ⟨Rv_at1 (icC_t h1) (by omega) rfl, ⟨hA, of_fr.rf⟩⟩
set_option maxRecDepth 100000 in
set_option maxHeartbeats 4000000 in
/-- voters -/
theorem t_Of_voters (htr : l.stackTraces = false) {N op : Nat} {se : Bool} {dw sg sz : Nat → Nat} {rk : Nat → Nat → Int32} {tm : Nat → Nat → Nat} (hA : of_all c ad M N op se dw sg sz rk tm)  : bj_T (bw_G l D c) Y_Of_voters 8 (0, 0, 1, 6) ad (q_pub [] (Rv 0 (nI (vsum sg sz tm))) (of_st c ad M N op se dw sg sz rk tm) (of_st c ad M N op se dw sg sz rk tm)) [.ref (ad 0)] M := by
  show bj_S _ _ _ _ _ _ 0 0 0 [some (.ref (ad 0))] [] M
  obtain ⟨⟨hN1, hN, hop, ⟨ps, hpm⟩, hbt, hun⟩, ⟨hO, hd, hB, hb, hC⟩, hsc⟩ := id hA
  have hP : ∀ a b, a < N → b < N → (fun a b => nI (psum sg sz rk tm 12 a b)) a b = nI (psum sg sz rk tm 12 a b) := fun _ _ _ _ => rfl
  have hp : ∀ a b, a < N → b < N → psum sg sz rk tm 12 a b < 2 ^ 31 := fun a b _ _ => hA.pl 12 a b
  refine bj_aload_n d_Of_voters_0 rfl rfl ?_
  refine bj_get d_Of_voters_1 in_Of rfl (by decide : 5 < 9) wf_Of_36 rfl hO rfl ?_
  refine bj_getN d_Of_voters_4 in_Co rfl (by decide : 1 < 3) wf_Of_135 rfl hC.1 rfl ?_
  exact bj_iret d_Of_voters_7 rfl rfl (Nat.le_refl _) (Nat.le_refl _) ⟨Rv_0 rfl, ⟨hA, of_fr.rf⟩⟩
set_option maxRecDepth 100000 in
set_option maxHeartbeats 4000000 in
/-- prefer -/
theorem t_Of_prefer (htr : l.stackTraces = false) {N op : Nat} {se : Bool} {dw sg sz : Nat → Nat} {rk : Nat → Nat → Int32} {tm : Nat → Nat → Nat} (hA : of_all c ad M N op se dw sg sz rk tm) {x1 x2 : Int32} : bj_T (bw_G l D c) Y_Of_prefer 8 (0, 0, 1, 6) ad (q_pub [xA] (Rv (prC N x1 x2) (at2 (fun a b => nI (psum sg sz rk tm 12 a b)) x1 x2)) (of_st c ad M N op se dw sg sz rk tm) (of_st c ad M N op se dw sg sz rk tm)) [.ref (ad 0), .int x1, .int x2] M := by
  show bj_S _ _ _ _ _ _ 0 0 0 [some (.ref (ad 0)), some (.int x1), some (.int x2)] [] M
  obtain ⟨⟨hN1, hN, hop, ⟨ps, hpm⟩, hbt, hun⟩, ⟨hO, hd, hB, hb, hC⟩, hsc⟩ := id hA
  have hP : ∀ a b, a < N → b < N → (fun a b => nI (psum sg sz rk tm 12 a b)) a b = nI (psum sg sz rk tm 12 a b) := fun _ _ _ _ => rfl
  have hp : ∀ a b, a < N → b < N → psum sg sz rk tm 12 a b < 2 ^ 31 := fun a b _ _ => hA.pl 12 a b
  refine bj_aload_n d_Of_prefer_0 rfl rfl ?_
  refine bj_iload_n d_Of_prefer_1 rfl rfl ?_
  refine bj_iload_n d_Of_prefer_2 rfl rfl ?_
  refine bj_cv sv_Of_138 d_Of_prefer_3 (t_Of_needPair l D c ad M htr hO hN) rfl rfl (by decide) (by decide) (by decide) (Nat.le_of_ble_eq_true rfl) rfl hO rfl rfl (fun v1 N1 hq1 => ?_) (fun v1 N1 hq1 => ?_)
  rotate_left
  · obtain ⟨rfl, rfl, h1⟩ := hq1
    exact bj_out (fun x hx => nomatch hx) (by decide) (by decide) ⟨1, by decide, rfl, Rv_n (prC_f h1) (by decide), ⟨hA, of_fr.rf⟩⟩
  obtain ⟨rfl, rfl, h1⟩ := hq1
  show bj_S (bw_G l D c) Y_Of_prefer 8 (0, 0, 1, 6) ad (q_pub [xA] (Rv (prC N x1 x2) (at2 (fun a b => nI (psum sg sz rk tm 12 a b)) x1 x2)) (of_st c ad M N op se dw sg sz rk tm) (of_st c ad M N op se dw sg sz rk tm)) 0 0 6 [some (.ref (ad 0)), some (.int x1), some (.int x2)] [] M
  obtain ⟨a, ha, rfl⟩ := ic_t (by omega) h1.1
  obtain ⟨b, hb9, rfl⟩ := ic_t (by omega) h1.2.1
  have hz := prC_t h1
  have hab : a ≠ b := fun q => h1.2.2 (by rw [q])
  refine bj_aload_n d_Of_prefer_6 rfl rfl ?_
  refine bj_get d_Of_prefer_7 in_Of rfl (by decide : 5 < 9) wf_Of_36 rfl hO rfl ?_
  refine bj_getN d_Of_prefer_10 in_Co rfl (by decide : 2 < 3) wf_Of_141 rfl hC.1 rfl ?_
  refine bj_iload_n d_Of_prefer_13 rfl rfl ?_
  refine bv_aald d_Of_prefer_14 4 rfl rfl hC.2.1 (by omega) (by omega) ?_
  refine bj_iload_n d_Of_prefer_15 rfl rfl ?_
  refine bv_iald d_Of_prefer_16 0 rfl (hC.2.2 a ha) (by omega) (by omega) rfl ?_
  exact bj_iret d_Of_prefer_17 rfl rfl (Nat.le_refl _) (Nat.le_refl _) ⟨Rv_at hz (by omega) (by omega) rfl, ⟨hA, of_fr.rf⟩⟩
set_option maxRecDepth 100000 in
set_option maxHeartbeats 4000000 in
/-- strength -/
theorem t_Of_strength (htr : l.stackTraces = false) {N op : Nat} {se : Bool} {dw sg sz : Nat → Nat} {rk : Nat → Nat → Int32} {tm : Nat → Nat → Nat} (hA : of_all c ad M N op se dw sg sz rk tm) {x1 x2 : Int32} : bj_T (bw_G l D c) Y_Of_strength 8 (0, 0, 1, 6) ad (q_pub [xA] (Rv (prC N x1 x2) (at2 (fun a b => nI (mg_F (drn (psum sg sz rk tm 12)) N a b)) x1 x2)) (of_st c ad M N op se dw sg sz rk tm) (of_st c ad M N op se dw sg sz rk tm)) [.ref (ad 0), .int x1, .int x2] M := by
  show bj_S _ _ _ _ _ _ 0 0 0 [some (.ref (ad 0)), some (.int x1), some (.int x2)] [] M
  obtain ⟨⟨hN1, hN, hop, ⟨ps, hpm⟩, hbt, hun⟩, ⟨hO, hd, hB, hb, hC⟩, hsc⟩ := id hA
  have hP : ∀ a b, a < N → b < N → (fun a b => nI (psum sg sz rk tm 12 a b)) a b = nI (psum sg sz rk tm 12 a b) := fun _ _ _ _ => rfl
  have hp : ∀ a b, a < N → b < N → psum sg sz rk tm 12 a b < 2 ^ 31 := fun a b _ _ => hA.pl 12 a b
  obtain ⟨f0, hA0⟩ := hsc.2.1
  refine bj_aload_n d_Of_strength_0 rfl rfl ?_
  refine bj_iload_n d_Of_strength_1 rfl rfl ?_
  refine bj_iload_n d_Of_strength_2 rfl rfl ?_
  refine bj_cv sv_Of_138 d_Of_strength_3 (t_Of_needPair l D c ad M htr hO hN) rfl rfl (by decide) (by decide) (by decide) (Nat.le_of_ble_eq_true rfl) rfl hO rfl rfl (fun v1 N1 hq1 => ?_) (fun v1 N1 hq1 => ?_)
  rotate_left
  · obtain ⟨rfl, rfl, h1⟩ := hq1
    exact bj_out (fun x hx => nomatch hx) (by decide) (by decide) ⟨1, by decide, rfl, Rv_n (prC_f h1) (by decide), ⟨hA, of_fr.rf⟩⟩
  obtain ⟨rfl, rfl, h1⟩ := hq1
  show bj_S (bw_G l D c) Y_Of_strength 8 (0, 0, 1, 6) ad (q_pub [xA] (Rv (prC N x1 x2) (at2 (fun a b => nI (mg_F (drn (psum sg sz rk tm 12)) N a b)) x1 x2)) (of_st c ad M N op se dw sg sz rk tm) (of_st c ad M N op se dw sg sz rk tm)) 0 0 6 [some (.ref (ad 0)), some (.int x1), some (.int x2)] [] M
  obtain ⟨a, ha, rfl⟩ := ic_t (by omega) h1.1
  obtain ⟨b, hb9, rfl⟩ := ic_t (by omega) h1.2.1
  have hz := prC_t h1
  have hab : a ≠ b := fun q => h1.2.2 (by rw [q])
  refine bj_aload_n d_Of_strength_6 rfl rfl ?_
  refine bj_get d_Of_strength_7 in_Of rfl (by decide : 7 < 9) wf_Of_46 rfl hO rfl ?_
  refine bj_aload_n d_Of_strength_10 rfl rfl ?_
  refine bj_get d_Of_strength_11 in_Of rfl (by decide : 5 < 9) wf_Of_36 rfl hO rfl ?_
  refine bj_cvR sv_Of_145 d_Of_strength_14 (t_Pa_weigh l D c ad M hA0 hN hC hP hp (by omega)) rfl rfl (by decide) (by decide) (by decide) (Nat.le_of_ble_eq_true rfl) rfl hA0.1 rfl rfl (fun v2 N2 hq2 => ?_)
  obtain ⟨rfl, hA2, hf2⟩ := hq2
  show bj_S (bw_G l D c) Y_Of_strength 8 (0, 0, 1, 6) ad (q_pub [xA] (Rv (prC N (nI a) (nI b)) (at2 (fun a b => nI (mg_F (drn (psum sg sz rk tm 12)) N a b)) (nI a) (nI b))) (of_st c ad M N op se dw sg sz rk tm) (of_st c ad M N op se dw sg sz rk tm)) 0 0 17 [some (.ref (ad 0)), some (.int (nI a)), some (.int (nI b))] [] N2
  have hO2 := (hf2 0 (by omega)).trans hO
  have hst := hA.ps hA2 hf2
  have hC2 := hst.1.2.1.2.2.2.2
  refine bj_aload_n d_Of_strength_17 rfl rfl ?_
  refine bj_get d_Of_strength_18 in_Of rfl (by decide : 7 < 9) wf_Of_46 rfl hO2 rfl ?_
  refine bj_getN d_Of_strength_21 in_Pa rfl (by decide : 1 < 3) wf_Of_149 rfl hA2.1 rfl ?_
  refine bj_iload_n d_Of_strength_24 rfl rfl ?_
  refine bv_aald d_Of_strength_25 4 rfl rfl hA2.2.1 (by omega) (by omega) ?_
  refine bj_iload_n d_Of_strength_26 rfl rfl ?_
  refine bv_iald d_Of_strength_27 0 rfl (hA2.2.2.1 a ha) (by omega) (by omega) rfl ?_
  exact bj_iret d_Of_strength_28 rfl rfl (Nat.le_refl _) (Nat.le_refl _) ⟨Rv_at hz (by omega) (by omega) rfl, hst⟩
end O4
