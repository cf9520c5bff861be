/-! BeatPathOffice: ballot, turn, correct, without (walks by gen/m_of6.py) -/
section O6

/-- what must hold, one after the other; the code of the first that doesn't -/
def Rc (a : Option Value) : List Prop → Nat → Nat → Option Value → Prop
  | [], _, k, v => k = 0 ∧ v = a
  | φ :: L, i, k, v => (¬ φ ∧ k = i ∧ v = none) ∨ (φ ∧ Rc a L (i + 1) k v)
theorem tm_n {x : Int32} (h1 : ¬ x < nI 1) (h2 : x ≤ nI 10000) : ∃ t, t ≤ 10000 ∧ x = nI t := by
  obtain ⟨j, hj, rfl⟩ := nI_of (x := x) (fun h0 => h1 (Int32.lt_trans h0 (by decide)))
  exact ⟨j, (nI_leI hj (by decide)).mp h2, rfl⟩
def balG (c : Nat → ClassId) (ad : Nat → Nat) (M : bj_M) (N op : Nat) (se : Bool) (dw sg sz : Nat → Nat) (rk : Nat → Nat → Int32) (tm : Nat → Nat → Nat) (b : Nat) (w : Int32) (t : Nat) : bj_M → Prop := of_st c ad M N op se dw sg (va_up sz b (sz b + 1)) (va_up rk b (va_up (rk b) (sz b) w)) (va_up tm b (va_up (tm b) (sz b) t))
def corG (c : Nat → ClassId) (ad : Nat → Nat) (M : bj_M) (N op : Nat) (se : Bool) (dw sg sz : Nat → Nat) (rk : Nat → Nat → Int32) (tm : Nat → Nat → Nat) (b i : Nat) (w : Int32) : bj_M → Prop := of_st c ad M N op se dw sg sz (va_up rk b (va_up (rk b) i w)) tm
def turG (c : Nat → ClassId) (ad : Nat → Nat) (M : bj_M) (N op : Nat) (se : Bool) (dw sg sz : Nat → Nat) (rk : Nat → Nat → Int32) (tm : Nat → Nat → Nat) (b : Nat) (x : Int32) : bj_M → Prop := of_st c ad M N op se dw (va_up sg b (if x = nI 1 then 2 else 1)) sz rk tm
def balF (N op : Nat) (se : Bool) (sg sz : Nat → Nat) (b : Nat) (x w t : Int32) : List Prop := [ic op x = true ∧ rkg N w ∧ ¬ t < nI 1 ∧ t ≤ nI 10000, se = false ∧ sg b = 0 ∧ sz b < 6]
def turF (op : Nat) (se : Bool) (sg : Nat → Nat) (b : Nat) (x y : Int32) : List Prop := [ic op x = true ∧ (y = 0 ∨ y = nI 1 ∨ y = nI 2), se = false ∧ nI (sg b) = y]
def corF (N op : Nat) (se : Bool) (sg sz : Nat → Nat) (b : Nat) (x y w : Int32) : List Prop := [ic op x = true ∧ rkg N w, ic (sz b) y = true, se = false ∧ sg b ≠ 0]
def witR (p : Nat → Nat → Nat) (N : Nat) (dw : Nat → Nat) (what x : Int32) : Nat → Option Value → Prop := fun k v => (what = 0 → Rf 2 (ft (mem_q (winb p N) x) 8) k v) ∧ (what = nI 1 → ordR 2 p N dw x k v) ∧ (what = nI 2 → topR 2 (fun a b => nI (p a b)) N x k v)
def withR (op : Nat) (sg sz : Nat → Nat) (rk : Nat → Nat → Int32) (tm : Nat → Nat → Nat) (N : Nat) (dw : Nat → Nat) (b what x : Int32) : Nat → Option Value → Prop := fun k v => (¬ (ic op b = true ∧ (what = 0 ∨ what = nI 1 ∨ what = nI 2)) ∧ k = 1 ∧ v = none) ∨ ((ic op b = true ∧ (what = 0 ∨ what = nI 1 ∨ what = nI 2)) ∧ witR (psum sg sz rk tm b.toNatClampNeg) N dw what x k v)
theorem se_t {se : Bool} (h : ¬ se = false) : se = true := by cases se <;> simp_all
theorem nI_12 : nI 1 ≠ (0 : Int32) ∧ nI 2 ≠ (0 : Int32) ∧ nI 2 ≠ nI 1 := by decide
variable (l : Launch) (D : va_G) (c : Nat → ClassId) (ad : Nat → Nat) (M : bj_M)
theorem nz {x : Nat} (h : x = 0) : x = 0 := h
set_option maxRecDepth 100000 in
set_option maxHeartbeats 4000000 in
/-- ballot -/
theorem t_Of_ballot (htr : l.stackTraces = false) {N op : Nat} {se : Bool} {dw sg sz : Nat → Nat} {rk : Nat → Nat → Int32} {tm : Nat → Nat → Nat} (hA : of_all c ad M N op se dw sg sz rk tm) {x1 x2 x3 : Int32} : bj_T (bw_G l D c) Y_Of_ballot 8 (0, 0, 1, 6) ad (q_pub [xA, xS] (Rc (some (.int (nI (sz ((x1 : Int32).toNatClampNeg))))) (balF N op se sg sz ((x1 : Int32).toNatClampNeg) x1 x2 x3) 1) (balG c ad M N op se dw sg sz rk tm ((x1 : Int32).toNatClampNeg) x2 ((x3 : Int32).toNatClampNeg)) (of_st c ad M N op se dw sg sz rk tm)) [.ref (ad 0), .int x1, .int x2, .int x3] M := by
  show bj_S _ _ _ _ _ _ 0 0 0 [some (.ref (ad 0)), some (.int x1), some (.int x2), some (.int x3), none] [] M
  obtain ⟨⟨hN1, hN, hop, ⟨ps, hpm⟩, hbt, hun⟩, ⟨hO, hd, hB, hb, hC⟩, hsc⟩ := id hA
  have hP : ∀ a b, a < N → b < N → (fun a b => nI (psum sg sz rk tm 12 a b)) a b = nI (psum sg sz rk tm 12 a b) := fun _ _ _ _ => rfl
  have hp : ∀ a b, a < N → b < N → psum sg sz rk tm 12 a b < 2 ^ 31 := fun a b _ _ => hA.pl 12 a b
  refine bj_aload_n d_Of_ballot_0 rfl rfl ?_
  refine bj_iload_n d_Of_ballot_1 rfl rfl ?_
  refine bj_cv sv_Of_88 d_Of_ballot_2 (t_Of_needBatch l D c ad M htr hO hN) rfl rfl (by decide) (by decide) (by decide) (Nat.le_of_ble_eq_true rfl) rfl hO rfl rfl (fun v1 N1 hq1 => ?_) (fun v1 N1 hq1 => ?_)
  rotate_left
  · obtain ⟨rfl, rfl, h1⟩ := hq1
    exact bj_out (fun x hx => nomatch hx) (by decide) (by decide) ⟨1, by decide, rfl, Or.inl ⟨fun q => h1 q.1, rfl, rfl⟩, ⟨hA, of_fr.rf⟩⟩
  obtain ⟨rfl, rfl, h1⟩ := hq1
  show bj_S (bw_G l D c) Y_Of_ballot 8 (0, 0, 1, 6) ad (q_pub [xA, xS] (Rc (some (.int (nI (sz ((x1 : Int32).toNatClampNeg))))) (balF N op se sg sz ((x1 : Int32).toNatClampNeg) x1 x2 x3) 1) (balG c ad M N op se dw sg sz rk tm ((x1 : Int32).toNatClampNeg) x2 ((x3 : Int32).toNatClampNeg)) (of_st c ad M N op se dw sg sz rk tm)) 0 0 5 [some (.ref (ad 0)), some (.int x1), some (.int x2), some (.int x3), none] [] M
  obtain ⟨a, ha, rfl⟩ := ic_t (by omega) h1
  have hcl : (nI a).toNatClampNeg = a := nI_clamp (by omega)
  have hBa := hb a (by omega)
  have hba := hbt a (by omega)
  refine bj_aload_n d_Of_ballot_5 rfl rfl ?_
  refine bj_iload_n d_Of_ballot_6 rfl rfl ?_
  refine bj_cv sv_Of_91 d_Of_ballot_7 (t_Of_needRanking l D c ad M htr hO hN) rfl rfl (by decide) (by decide) (by decide) (Nat.le_of_ble_eq_true rfl) rfl hO rfl rfl (fun v2 N2 hq2 => ?_) (fun v2 N2 hq2 => ?_)
  rotate_left
  · obtain ⟨rfl, rfl, h2⟩ := hq2
    exact bj_out (fun x hx => nomatch hx) (by decide) (by decide) ⟨1, by decide, rfl, Or.inl ⟨fun q => h2 q.2.1, rfl, rfl⟩, ⟨hA, of_fr.rf⟩⟩
  obtain ⟨rfl, rfl, h2⟩ := hq2
  show bj_S (bw_G l D c) Y_Of_ballot 8 (0, 0, 1, 6) ad (q_pub [xA, xS] (Rc (some (.int (nI (sz (((nI a) : Int32).toNatClampNeg))))) (balF N op se sg sz (((nI a) : Int32).toNatClampNeg) (nI a) x2 x3) 1) (balG c ad M N op se dw sg sz rk tm (((nI a) : Int32).toNatClampNeg) x2 ((x3 : Int32).toNatClampNeg)) (of_st c ad M N op se dw sg sz rk tm)) 0 0 10 [some (.ref (ad 0)), some (.int (nI a)), some (.int x2), some (.int x3), none] [] M
  refine bj_iload_n d_Of_ballot_10 rfl rfl ?_
  refine bj_iconst (v := (nI 1)) d_Of_ballot_11 (by decide) ?_
  refine bj_icmp_lt (tgt := 22) d_Of_ballot_12 (by decide) (fun h12 => ?_) (fun h12 => ?_)
  · exact bj_throw (names := xN) d_Of_ballot_22 d_Of_ballot_25 d_Of_ballot_26 d_Of_ballot_28 d_Of_ballot_31 htr (by decide) (by decide) (by decide) (by decide) wc_Of_64 wi_IllegalArgumentException wt_Of_94 wo_Of_68 (fun x hx => nomatch hx) (by decide) (by decide) (Nat.le_of_ble_eq_true rfl) ⟨1, by decide, rfl, Or.inl ⟨fun q => by first | exact q.2.2.1 h12 | exact h19 q.2.2.2, rfl, rfl⟩, ⟨hA, of_fr.rf⟩⟩
  · refine bj_iload_n d_Of_ballot_15 rfl rfl ?_
    refine bj_sipush (v := (nI 10000)) d_Of_ballot_16 (by decide) ?_
    refine bj_icmp_le (tgt := 32) d_Of_ballot_19 (by decide) (fun h19 => ?_) (fun h19 => ?_)
    · refine bj_aload_n d_Of_ballot_32 rfl rfl ?_
      refine bj_cv sv_Of_71 d_Of_ballot_33 (t_Of_needUnsealed l D c ad M htr hO hN) rfl rfl (by decide) (by decide) (by decide) (Nat.le_of_ble_eq_true rfl) rfl hO rfl rfl (fun v3 N3 hq3 => ?_) (fun v3 N3 hq3 => ?_)
      rotate_left
      · obtain ⟨rfl, rfl, h3⟩ := hq3
        exact bj_out (fun x hx => nomatch hx) (by decide) (by decide) ⟨2, by decide, rfl, Or.inr ⟨⟨h1, h2, h12, h19⟩, Or.inl ⟨fun q => h3 q.1, rfl, rfl⟩⟩, ⟨hA, of_fr.rf⟩⟩
      obtain ⟨rfl, rfl, h3⟩ := hq3
      show bj_S (bw_G l D c) Y_Of_ballot 8 (0, 0, 1, 6) ad (q_pub [xA, xS] (Rc (some (.int (nI (sz (((nI a) : Int32).toNatClampNeg))))) (balF N op se sg sz (((nI a) : Int32).toNatClampNeg) (nI a) x2 x3) 1) (balG c ad M N op se dw sg sz rk tm (((nI a) : Int32).toNatClampNeg) x2 ((x3 : Int32).toNatClampNeg)) (of_st c ad M N op se dw sg sz rk tm)) 0 0 36 [some (.ref (ad 0)), some (.int (nI a)), some (.int x2), some (.int x3), none] [] M
      refine bj_aload_n d_Of_ballot_36 rfl rfl ?_
      refine bj_get d_Of_ballot_37 in_Of rfl (by decide : 2 < 9) wf_Of_19 rfl hO rfl ?_
      refine bj_iload_n d_Of_ballot_40 rfl rfl ?_
      refine bv_aald d_Of_ballot_41 3 rfl rfl hB (by omega) (by omega) ?_
      refine bj_astore (L' := [some (.ref (ad 0)), some (.int (nI a)), some (.int x2), some (.int x3), some (.ref (ad (3 + a)))]) d_Of_ballot_42 (by decide) rfl ?_
      refine bj_aload d_Of_ballot_44 rfl ?_
      refine bj_getN d_Of_ballot_46 in_Ba rfl (by decide : 0 < 4) wf_Of_96 rfl hBa.1 rfl ?_
      refine bj_if_neN (tgt := 62) d_Of_ballot_49 (by decide) (by omega) (fun h49 => ?_) (fun h49 => ?_)
      · exact bj_throw (names := xN) d_Of_ballot_62 d_Of_ballot_65 d_Of_ballot_66 d_Of_ballot_68 d_Of_ballot_71 htr (by decide) (by decide) (by decide) (by decide) wc_Of_74 wi_IllegalStateException wt_Of_102 wo_Of_78 (fun x hx => nomatch hx) (by decide) (by decide) (Nat.le_of_ble_eq_true rfl) ⟨2, by decide, rfl, Or.inr ⟨⟨h1, h2, h12, h19⟩, Or.inl ⟨fun q => by rw [hcl] at q; first | exact h49 q.2.1 | (have := q.2.2; omega), rfl, rfl⟩⟩, ⟨hA, of_fr.rf⟩⟩
      · refine bj_aload d_Of_ballot_52 rfl ?_
        refine bj_getN d_Of_ballot_54 in_Ba rfl (by decide : 1 < 4) wf_Of_99 rfl hBa.1 rfl ?_
        refine bj_bipush (v := (nI 6)) d_Of_ballot_57 (by decide) ?_
        refine bj_icmp_ltN (tgt := 72) d_Of_ballot_59 (by decide) (by omega) (by omega) (fun h59 => ?_) (fun h59 => ?_)
        · refine bj_aload d_Of_ballot_72 rfl ?_
          refine bj_iload_n d_Of_ballot_74 rfl rfl ?_
          refine bj_iload_n d_Of_ballot_75 rfl rfl ?_
          have h3s : x3 = x3 := rfl
          obtain ⟨t, ht, hx3⟩ := tm_n h12 h19
          subst hx3
          refine bj_cvR sv_Of_104 d_Of_ballot_76 (t_Ba_put l D c ad M hBa (by omega) (by omega) (by omega) (by omega)) rfl rfl (by decide) (by decide) (by decide) (Nat.le_of_ble_eq_true rfl) rfl hBa.1 rfl rfl (fun v4 N4 hq4 => ?_)
          obtain ⟨rfl, hn, hE⟩ := hq4
          show bj_S (bw_G l D c) Y_Of_ballot 8 (0, 0, 1, 6) ad (q_pub [xA, xS] (Rc (some (.int (nI (sz (((nI a) : Int32).toNatClampNeg))))) (balF N op se sg sz (((nI a) : Int32).toNatClampNeg) (nI a) x2 (nI t)) 1) (balG c ad M N op se dw sg sz rk tm (((nI a) : Int32).toNatClampNeg) x2 (((nI t) : Int32).toNatClampNeg)) (of_st c ad M N op se dw sg sz rk tm)) 0 0 79 [some (.ref (ad 0)), some (.int (nI a)), some (.int x2), some (.int (nI t)), some (.ref (ad (3 + a)))] [.int (nI (sz a))] N4
          have hnew := hA.ballot ha (nz h49) h59 ht hn hE
          have hfr : of_fr M N4 := fun q hq => hE q (by omega) (by omega) (by omega)
          have hct : (nI t).toNatClampNeg = t := nI_clamp (by omega)
          exact bj_iret d_Of_ballot_79 rfl rfl (Nat.le_refl _) (Nat.le_refl _) ⟨Or.inr ⟨⟨h1, h2, h12, h19⟩, Or.inr ⟨⟨h3, by rw [hcl]; exact h49, by rw [hcl]; exact h59⟩, rfl, by rw [hcl]⟩⟩, by unfold balG; rw [hcl, hct]; exact ⟨hnew, hfr⟩⟩
        · exact bj_throw (names := xN) d_Of_ballot_62 d_Of_ballot_65 d_Of_ballot_66 d_Of_ballot_68 d_Of_ballot_71 htr (by decide) (by decide) (by decide) (by decide) wc_Of_74 wi_IllegalStateException wt_Of_102 wo_Of_78 (fun x hx => nomatch hx) (by decide) (by decide) (Nat.le_of_ble_eq_true rfl) ⟨2, by decide, rfl, Or.inr ⟨⟨h1, h2, h12, h19⟩, Or.inl ⟨fun q => by rw [hcl] at q; first | exact h49 q.2.1 | (have := q.2.2; omega), rfl, rfl⟩⟩, ⟨hA, of_fr.rf⟩⟩
    · exact bj_throw (names := xN) d_Of_ballot_22 d_Of_ballot_25 d_Of_ballot_26 d_Of_ballot_28 d_Of_ballot_31 htr (by decide) (by decide) (by decide) (by decide) wc_Of_64 wi_IllegalArgumentException wt_Of_94 wo_Of_68 (fun x hx => nomatch hx) (by decide) (by decide) (Nat.le_of_ble_eq_true rfl) ⟨1, by decide, rfl, Or.inl ⟨fun q => by first | exact q.2.2.1 h12 | exact h19 q.2.2.2, rfl, rfl⟩, ⟨hA, of_fr.rf⟩⟩
theorem sgb {x : Int32} (h : x = 0 ∨ x = nI 1 ∨ x = nI 2) : (if x = 0 then nI 0 else if x = nI 1 then nI 1 else nI 2) = x := by
  rcases h with rfl | rfl | rfl <;> decide
set_option maxRecDepth 100000 in
set_option maxHeartbeats 4000000 in
/-- turn -/
theorem t_Of_turn (htr : l.stackTraces = false) {N op : Nat} {se : Bool} {dw sg sz : Nat → Nat} {rk : Nat → Nat → Int32} {tm : Nat → Nat → Nat} (hA : of_all c ad M N op se dw sg sz rk tm) {x1 x2 : Int32} : bj_T (bw_G l D c) Y_Of_turn 8 (0, 0, 1, 6) ad (q_pub [xA, xS] (Rc none (turF op se sg ((x1 : Int32).toNatClampNeg) x1 x2) 1) (turG c ad M N op se dw sg sz rk tm ((x1 : Int32).toNatClampNeg) x2) (of_st c ad M N op se dw sg sz rk tm)) [.ref (ad 0), .int x1, .int x2] M := by
  show bj_S _ _ _ _ _ _ 0 0 0 [some (.ref (ad 0)), some (.int x1), some (.int x2), none] [] M
  obtain ⟨⟨hN1, hN, hop, ⟨ps, hpm⟩, hbt, hun⟩, ⟨hO, hd, hB, hb, hC⟩, hsc⟩ := id hA
  have hP : ∀ a b, a < N → b < N → (fun a b => nI (psum sg sz rk tm 12 a b)) a b = nI (psum sg sz rk tm 12 a b) := fun _ _ _ _ => rfl
  have hp : ∀ a b, a < N → b < N → psum sg sz rk tm 12 a b < 2 ^ 31 := fun a b _ _ => hA.pl 12 a b
  refine bj_aload_n d_Of_turn_0 rfl rfl ?_
  refine bj_iload_n d_Of_turn_1 rfl rfl ?_
  refine bj_cv sv_Of_88 d_Of_turn_2 (t_Of_needBatch l D c ad M htr hO hN) rfl rfl (by decide) (by decide) (by decide) (Nat.le_of_ble_eq_true rfl) rfl hO rfl rfl (fun v1 N1 hq1 => ?_) (fun v1 N1 hq1 => ?_)
  rotate_left
  · obtain ⟨rfl, rfl, h1⟩ := hq1
    exact bj_out (fun x hx => nomatch hx) (by decide) (by decide) ⟨1, by decide, rfl, Or.inl ⟨fun q => h1 q.1, rfl, rfl⟩, ⟨hA, of_fr.rf⟩⟩
  obtain ⟨rfl, rfl, h1⟩ := hq1
  show bj_S (bw_G l D c) Y_Of_turn 8 (0, 0, 1, 6) ad (q_pub [xA, xS] (Rc none (turF op se sg ((x1 : Int32).toNatClampNeg) x1 x2) 1) (turG c ad M N op se dw sg sz rk tm ((x1 : Int32).toNatClampNeg) x2) (of_st c ad M N op se dw sg sz rk tm)) 0 0 5 [some (.ref (ad 0)), some (.int x1), some (.int x2), none] [] M
  obtain ⟨a, ha, rfl⟩ := ic_t (by omega) h1
  have hcl : (nI a).toNatClampNeg = a := nI_clamp (by omega)
  have hBa := hb a (by omega)
  have hba := hbt a (by omega)
  refine bj_iload_n d_Of_turn_5 rfl rfl ?_
  refine bj_if_eq (tgt := 29) d_Of_turn_6 (by decide) (fun h6 => ?_) (fun h6 => ?_)
  · have k29 : (x2 = 0 ∨ x2 = nI 1 ∨ x2 = nI 2) → bj_S (bw_G l D c) Y_Of_turn 8 (0, 0, 1, 6) ad (q_pub [xA, xS] (Rc none (turF op se sg (((nI a) : Int32).toNatClampNeg) (nI a) x2) 1) (turG c ad M N op se dw sg sz rk tm (((nI a) : Int32).toNatClampNeg) x2) (of_st c ad M N op se dw sg sz rk tm)) 0 0 29 [some (.ref (ad 0)), some (.int (nI a)), some (.int x2), none] [] M := by
      intro hto
      refine bj_aload_n d_Of_turn_29 rfl rfl ?_
      refine bj_cv sv_Of_71 d_Of_turn_30 (t_Of_needUnsealed l D c ad M htr hO hN) rfl rfl (by decide) (by decide) (by decide) (Nat.le_of_ble_eq_true rfl) rfl hO rfl rfl (fun v1 N1 hq1 => ?_) (fun v1 N1 hq1 => ?_)
      rotate_left
      · obtain ⟨rfl, rfl, h3⟩ := hq1
        exact bj_out (fun x hx => nomatch hx) (by decide) (by decide) ⟨2, by decide, rfl, Or.inr ⟨⟨h1, hto⟩, Or.inl ⟨fun q => h3 q.1, rfl, rfl⟩⟩, ⟨hA, of_fr.rf⟩⟩
      obtain ⟨rfl, rfl, h3⟩ := hq1
      show bj_S (bw_G l D c) Y_Of_turn 8 (0, 0, 1, 6) ad (q_pub [xA, xS] (Rc none (turF op se sg (((nI a) : Int32).toNatClampNeg) (nI a) x2) 1) (turG c ad M N op se dw sg sz rk tm (((nI a) : Int32).toNatClampNeg) x2) (of_st c ad M N op se dw sg sz rk tm)) 0 0 33 [some (.ref (ad 0)), some (.int (nI a)), some (.int x2), none] [] M
      refine bj_aload_n d_Of_turn_33 rfl rfl ?_
      refine bj_get d_Of_turn_34 in_Of rfl (by decide : 2 < 9) wf_Of_19 rfl hO rfl ?_
      refine bj_iload_n d_Of_turn_37 rfl rfl ?_
      refine bv_aald d_Of_turn_38 3 rfl rfl hB (by omega) (by omega) ?_
      refine bj_astore_n (L' := [some (.ref (ad 0)), some (.int (nI a)), some (.int x2), some (.ref (ad (3 + a)))]) d_Of_turn_39 rfl (by decide) rfl ?_
      refine bj_aload_n d_Of_turn_40 rfl rfl ?_
      refine bj_getN d_Of_turn_41 in_Ba rfl (by decide : 0 < 4) wf_Of_96 rfl hBa.1 rfl ?_
      refine bj_iload_n d_Of_turn_44 rfl rfl ?_
      refine bj_csF ss_Of_110 d_Of_turn_45 (t_Of_stageBefore l D c ad M) rfl rfl (by decide) (by decide) (by decide) (Nat.le_of_ble_eq_true rfl) rfl ?_
      refine bj_icmp_eq (tgt := 61) d_Of_turn_48 (by decide) (fun h48 => ?_) (fun h48 => ?_)
      · rw [sgb hto] at h48
        have hsx := h48
        refine bj_iload_n d_Of_turn_61 rfl rfl ?_
        refine bj_iconst (v := (nI 1)) d_Of_turn_62 (by decide) ?_
        refine bj_icmp_ne (tgt := 82) d_Of_turn_63 (by decide) (fun h63 => ?_) (fun h63 => ?_)
        · have hs9 : sg a ≠ 1 := fun q => h63 (by rw [← hsx, q])
          refine bj_aload_n d_Of_turn_82 rfl rfl ?_
          refine bj_iconst (v := (nI 1)) d_Of_turn_83 (by decide) ?_
          refine bj_putN d_Of_turn_84 in_Ba ok_Ba nm_Ba rfl (by decide : 0 < 4) wf_Of_96 rfl rfl rfl rfl rfl (Nat.le_of_ble_eq_true rfl) hBa.1 ?_
          have hB7 : ba_ok c ad (va_up M (3 + a) (some (.inr (0, [.int (nI 1), .int (nI (sz a)), .ref (ad (15 + a)), .ref (ad (27 + a))])))) (3 + a) (15 + a) (27 + a) (nI 1) (sz a) (rk a) (fun i => nI (tm a i)) := ⟨va_up_self _ _ _, hBa.2.1.in (va_up_ne _ _ (by omega)), hBa.2.2.in (va_up_ne _ _ (by omega))⟩
          have hE7 : ∀ q, q ≠ 3 + a → (va_up M (3 + a) (some (.inr (0, [.int (nI 1), .int (nI (sz a)), .ref (ad (15 + a)), .ref (ad (27 + a))])))) q = M q := fun q hq => va_up_ne _ _ hq
          show bj_S _ _ _ _ _ _ 0 0 _ _ [] (va_up M (3 + a) (some (.inr (0, [.int (nI 1), .int (nI (sz a)), .ref (ad (15 + a)), .ref (ad (27 + a))]))))
          generalize va_up M (3 + a) (some (.inr (0, [.int (nI 1), .int (nI (sz a)), .ref (ad (15 + a)), .ref (ad (27 + a))]))) = M7 at hB7 hE7 ⊢
          have hC7 : co_ok c ad M7 39 N (nI (vsum sg sz tm)) (fun a b => nI (psum sg sz rk tm 12 a b)) := hC.in (fun q q1 q2 => hE7 q (by omega))
          have hO7 := (hE7 0 (by omega)).trans hO
          refine bj_aload_n d_Of_turn_87 rfl rfl ?_
          refine bj_get d_Of_turn_88 in_Of rfl (by decide : 5 < 9) wf_Of_36 rfl hO7 rfl ?_
          refine bj_aload_n d_Of_turn_91 rfl rfl ?_
          refine bj_cvR sv_Of_120 d_Of_turn_92 (t_Co_putIn l D c ad M7 hC7 hN hB7 hba.2.1 (by omega) (by omega) (by omega)) rfl rfl (by decide) (by decide) (by decide) (Nat.le_of_ble_eq_true rfl) rfl hC7.1 rfl rfl (fun v2 N2 hq2 => ?_)
          obtain ⟨rfl, hC8, hf8⟩ := hq2
          show bj_S (bw_G l D c) Y_Of_turn 8 (0, 0, 1, 6) ad (q_pub [xA, xS] (Rc none (turF op se sg (((nI a) : Int32).toNatClampNeg) (nI a) x2) 1) (turG c ad M N op se dw sg sz rk tm (((nI a) : Int32).toNatClampNeg) x2) (of_st c ad M N op se dw sg sz rk tm)) 0 0 95 [some (.ref (ad 0)), some (.int (nI a)), some (.int x2), some (.ref (ad (3 + a)))] [] N2
          have hnew : of_all c ad N2 N op se dw (va_up sg a 1) sz rk tm := hA.turn ha (by omega) (hB7.in (hf8 _ (by omega)) (hf8 _ (by omega)) (hf8 _ (by omega))) hC8 (by rw [co_vs_p]; exact nI_pl (vsum_in (by omega) hs9 (by decide))) (fun x y _ _ => by rw [co_sum_p]; exact nI_pl (psum_in (by omega) hs9 (by decide))) (fun q q1 q2 => (hf8 q (by omega)).trans (hE7 q q1))
          have hfr : of_fr M N2 := fun q hq => (hf8 q (by omega)).trans (hE7 q (by omega))
          exact bj_vret d_Of_turn_95 rfl (Nat.le_refl _) (Nat.le_refl _) ⟨Or.inr ⟨⟨h1, hto⟩, Or.inr ⟨⟨h3, by rw [hcl]; exact hsx⟩, rfl, rfl⟩⟩, by unfold turG; rw [hcl, if_neg h63]; exact ⟨hnew, hfr⟩⟩
        · have hs9 : sg a = 1 := by rw [h63] at hsx; exact (nI_eq (by omega) (by decide)).mp hsx
          refine bj_aload_n d_Of_turn_66 rfl rfl ?_
          refine bj_iconst (v := (nI 2)) d_Of_turn_67 (by decide) ?_
          refine bj_putN d_Of_turn_68 in_Ba ok_Ba nm_Ba rfl (by decide : 0 < 4) wf_Of_96 rfl rfl rfl rfl rfl (Nat.le_of_ble_eq_true rfl) hBa.1 ?_
          have hB7 : ba_ok c ad (va_up M (3 + a) (some (.inr (0, [.int (nI 2), .int (nI (sz a)), .ref (ad (15 + a)), .ref (ad (27 + a))])))) (3 + a) (15 + a) (27 + a) (nI 2) (sz a) (rk a) (fun i => nI (tm a i)) := ⟨va_up_self _ _ _, hBa.2.1.in (va_up_ne _ _ (by omega)), hBa.2.2.in (va_up_ne _ _ (by omega))⟩
          have hE7 : ∀ q, q ≠ 3 + a → (va_up M (3 + a) (some (.inr (0, [.int (nI 2), .int (nI (sz a)), .ref (ad (15 + a)), .ref (ad (27 + a))])))) q = M q := fun q hq => va_up_ne _ _ hq
          show bj_S _ _ _ _ _ _ 0 0 _ _ [] (va_up M (3 + a) (some (.inr (0, [.int (nI 2), .int (nI (sz a)), .ref (ad (15 + a)), .ref (ad (27 + a))]))))
          generalize va_up M (3 + a) (some (.inr (0, [.int (nI 2), .int (nI (sz a)), .ref (ad (15 + a)), .ref (ad (27 + a))]))) = M7 at hB7 hE7 ⊢
          have hC7 : co_ok c ad M7 39 N (nI (vsum sg sz tm)) (fun a b => nI (psum sg sz rk tm 12 a b)) := hC.in (fun q q1 q2 => hE7 q (by omega))
          have hO7 := (hE7 0 (by omega)).trans hO
          refine bj_aload_n d_Of_turn_71 rfl rfl ?_
          refine bj_get d_Of_turn_72 in_Of rfl (by decide : 5 < 9) wf_Of_36 rfl hO7 rfl ?_
          refine bj_aload_n d_Of_turn_75 rfl rfl ?_
          refine bj_cvR sv_Of_116 d_Of_turn_76 (t_Co_takeOut l D c ad M7 hC7 hN hB7 hba.2.1 (by omega) (by omega) (by omega)) rfl rfl (by decide) (by decide) (by decide) (Nat.le_of_ble_eq_true rfl) rfl hC7.1 rfl rfl (fun v2 N2 hq2 => ?_)
          obtain ⟨rfl, hC8, hf8⟩ := hq2
          show bj_S (bw_G l D c) Y_Of_turn 8 (0, 0, 1, 6) ad (q_pub [xA, xS] (Rc none (turF op se sg (((nI a) : Int32).toNatClampNeg) (nI a) x2) 1) (turG c ad M N op se dw sg sz rk tm (((nI a) : Int32).toNatClampNeg) x2) (of_st c ad M N op se dw sg sz rk tm)) 0 0 79 [some (.ref (ad 0)), some (.int (nI a)), some (.int x2), some (.ref (ad (3 + a)))] [] N2
          have hnew : of_all c ad N2 N op se dw (va_up sg a 2) sz rk tm := hA.turn ha (by omega) (hB7.in (hf8 _ (by omega)) (hf8 _ (by omega)) (hf8 _ (by omega))) hC8 (by rw [co_vs_m]; exact nI_mi (vsum_out (by omega) hs9 (by decide))) (fun x y _ _ => by rw [co_sum_m]; exact nI_mi (psum_out (by omega) hs9 (by decide))) (fun q q1 q2 => (hf8 q (by omega)).trans (hE7 q q1))
          have hfr : of_fr M N2 := fun q hq => (hf8 q (by omega)).trans (hE7 q (by omega))
          refine bj_goto (tgt := 95) d_Of_turn_79 (by decide) ?_
          exact bj_vret d_Of_turn_95 rfl (Nat.le_refl _) (Nat.le_refl _) ⟨Or.inr ⟨⟨h1, hto⟩, Or.inr ⟨⟨h3, by rw [hcl]; exact hsx⟩, rfl, rfl⟩⟩, by unfold turG; rw [hcl, if_pos h63]; exact ⟨hnew, hfr⟩⟩
      · rw [sgb hto] at h48
        exact bj_throw (names := xN) d_Of_turn_51 d_Of_turn_54 d_Of_turn_55 d_Of_turn_57 d_Of_turn_60 htr (by decide) (by decide) (by decide) (by decide) wc_Of_74 wi_IllegalStateException wt_Of_114 wo_Of_78 (fun x hx => nomatch hx) (by decide) (by decide) (Nat.le_of_ble_eq_true rfl) ⟨2, by decide, rfl, Or.inr ⟨⟨h1, hto⟩, Or.inl ⟨fun q => by rw [hcl] at q; exact h48 q.2, rfl, rfl⟩⟩, ⟨hA, of_fr.rf⟩⟩
    first | exact k29 (Or.inl h6) | exact k29 (Or.inr (Or.inl h11)) | exact k29 (Or.inr (Or.inr h16))
  · refine bj_iload_n d_Of_turn_9 rfl rfl ?_
    refine bj_iconst (v := (nI 1)) d_Of_turn_10 (by decide) ?_
    refine bj_icmp_eq (tgt := 29) d_Of_turn_11 (by decide) (fun h11 => ?_) (fun h11 => ?_)
    · have k29 : (x2 = 0 ∨ x2 = nI 1 ∨ x2 = nI 2) → bj_S (bw_G l D c) Y_Of_turn 8 (0, 0, 1, 6) ad (q_pub [xA, xS] (Rc none (turF op se sg (((nI a) : Int32).toNatClampNeg) (nI a) x2) 1) (turG c ad M N op se dw sg sz rk tm (((nI a) : Int32).toNatClampNeg) x2) (of_st c ad M N op se dw sg sz rk tm)) 0 0 29 [some (.ref (ad 0)), some (.int (nI a)), some (.int x2), none] [] M := by
        intro hto
        refine bj_aload_n d_Of_turn_29 rfl rfl ?_
        refine bj_cv sv_Of_71 d_Of_turn_30 (t_Of_needUnsealed l D c ad M htr hO hN) rfl rfl (by decide) (by decide) (by decide) (Nat.le_of_ble_eq_true rfl) rfl hO rfl rfl (fun v1 N1 hq1 => ?_) (fun v1 N1 hq1 => ?_)
        rotate_left
        · obtain ⟨rfl, rfl, h3⟩ := hq1
          exact bj_out (fun x hx => nomatch hx) (by decide) (by decide) ⟨2, by decide, rfl, Or.inr ⟨⟨h1, hto⟩, Or.inl ⟨fun q => h3 q.1, rfl, rfl⟩⟩, ⟨hA, of_fr.rf⟩⟩
        obtain ⟨rfl, rfl, h3⟩ := hq1
        show bj_S (bw_G l D c) Y_Of_turn 8 (0, 0, 1, 6) ad (q_pub [xA, xS] (Rc none (turF op se sg (((nI a) : Int32).toNatClampNeg) (nI a) x2) 1) (turG c ad M N op se dw sg sz rk tm (((nI a) : Int32).toNatClampNeg) x2) (of_st c ad M N op se dw sg sz rk tm)) 0 0 33 [some (.ref (ad 0)), some (.int (nI a)), some (.int x2), none] [] M
        refine bj_aload_n d_Of_turn_33 rfl rfl ?_
        refine bj_get d_Of_turn_34 in_Of rfl (by decide : 2 < 9) wf_Of_19 rfl hO rfl ?_
        refine bj_iload_n d_Of_turn_37 rfl rfl ?_
        refine bv_aald d_Of_turn_38 3 rfl rfl hB (by omega) (by omega) ?_
        refine bj_astore_n (L' := [some (.ref (ad 0)), some (.int (nI a)), some (.int x2), some (.ref (ad (3 + a)))]) d_Of_turn_39 rfl (by decide) rfl ?_
        refine bj_aload_n d_Of_turn_40 rfl rfl ?_
        refine bj_getN d_Of_turn_41 in_Ba rfl (by decide : 0 < 4) wf_Of_96 rfl hBa.1 rfl ?_
        refine bj_iload_n d_Of_turn_44 rfl rfl ?_
        refine bj_csF ss_Of_110 d_Of_turn_45 (t_Of_stageBefore l D c ad M) rfl rfl (by decide) (by decide) (by decide) (Nat.le_of_ble_eq_true rfl) rfl ?_
        refine bj_icmp_eq (tgt := 61) d_Of_turn_48 (by decide) (fun h48 => ?_) (fun h48 => ?_)
        · rw [sgb hto] at h48
          have hsx := h48
          refine bj_iload_n d_Of_turn_61 rfl rfl ?_
          refine bj_iconst (v := (nI 1)) d_Of_turn_62 (by decide) ?_
          refine bj_icmp_ne (tgt := 82) d_Of_turn_63 (by decide) (fun h63 => ?_) (fun h63 => ?_)
          · have hs9 : sg a ≠ 1 := fun q => h63 (by rw [← hsx, q])
            refine bj_aload_n d_Of_turn_82 rfl rfl ?_
            refine bj_iconst (v := (nI 1)) d_Of_turn_83 (by decide) ?_
            refine bj_putN d_Of_turn_84 in_Ba ok_Ba nm_Ba rfl (by decide : 0 < 4) wf_Of_96 rfl rfl rfl rfl rfl (Nat.le_of_ble_eq_true rfl) hBa.1 ?_
            have hB7 : ba_ok c ad (va_up M (3 + a) (some (.inr (0, [.int (nI 1), .int (nI (sz a)), .ref (ad (15 + a)), .ref (ad (27 + a))])))) (3 + a) (15 + a) (27 + a) (nI 1) (sz a) (rk a) (fun i => nI (tm a i)) := ⟨va_up_self _ _ _, hBa.2.1.in (va_up_ne _ _ (by omega)), hBa.2.2.in (va_up_ne _ _ (by omega))⟩
            have hE7 : ∀ q, q ≠ 3 + a → (va_up M (3 + a) (some (.inr (0, [.int (nI 1), .int (nI (sz a)), .ref (ad (15 + a)), .ref (ad (27 + a))])))) q = M q := fun q hq => va_up_ne _ _ hq
            show bj_S _ _ _ _ _ _ 0 0 _ _ [] (va_up M (3 + a) (some (.inr (0, [.int (nI 1), .int (nI (sz a)), .ref (ad (15 + a)), .ref (ad (27 + a))]))))
            generalize va_up M (3 + a) (some (.inr (0, [.int (nI 1), .int (nI (sz a)), .ref (ad (15 + a)), .ref (ad (27 + a))]))) = M7 at hB7 hE7 ⊢
            have hC7 : co_ok c ad M7 39 N (nI (vsum sg sz tm)) (fun a b => nI (psum sg sz rk tm 12 a b)) := hC.in (fun q q1 q2 => hE7 q (by omega))
            have hO7 := (hE7 0 (by omega)).trans hO
            refine bj_aload_n d_Of_turn_87 rfl rfl ?_
            refine bj_get d_Of_turn_88 in_Of rfl (by decide : 5 < 9) wf_Of_36 rfl hO7 rfl ?_
            refine bj_aload_n d_Of_turn_91 rfl rfl ?_
            refine bj_cvR sv_Of_120 d_Of_turn_92 (t_Co_putIn l D c ad M7 hC7 hN hB7 hba.2.1 (by omega) (by omega) (by omega)) rfl rfl (by decide) (by decide) (by decide) (Nat.le_of_ble_eq_true rfl) rfl hC7.1 rfl rfl (fun v2 N2 hq2 => ?_)
            obtain ⟨rfl, hC8, hf8⟩ := hq2
            show bj_S (bw_G l D c) Y_Of_turn 8 (0, 0, 1, 6) ad (q_pub [xA, xS] (Rc none (turF op se sg (((nI a) : Int32).toNatClampNeg) (nI a) x2) 1) (turG c ad M N op se dw sg sz rk tm (((nI a) : Int32).toNatClampNeg) x2) (of_st c ad M N op se dw sg sz rk tm)) 0 0 95 [some (.ref (ad 0)), some (.int (nI a)), some (.int x2), some (.ref (ad (3 + a)))] [] N2
            have hnew : of_all c ad N2 N op se dw (va_up sg a 1) sz rk tm := hA.turn ha (by omega) (hB7.in (hf8 _ (by omega)) (hf8 _ (by omega)) (hf8 _ (by omega))) hC8 (by rw [co_vs_p]; exact nI_pl (vsum_in (by omega) hs9 (by decide))) (fun x y _ _ => by rw [co_sum_p]; exact nI_pl (psum_in (by omega) hs9 (by decide))) (fun q q1 q2 => (hf8 q (by omega)).trans (hE7 q q1))
            have hfr : of_fr M N2 := fun q hq => (hf8 q (by omega)).trans (hE7 q (by omega))
            exact bj_vret d_Of_turn_95 rfl (Nat.le_refl _) (Nat.le_refl _) ⟨Or.inr ⟨⟨h1, hto⟩, Or.inr ⟨⟨h3, by rw [hcl]; exact hsx⟩, rfl, rfl⟩⟩, by unfold turG; rw [hcl, if_neg h63]; exact ⟨hnew, hfr⟩⟩
          · have hs9 : sg a = 1 := by rw [h63] at hsx; exact (nI_eq (by omega) (by decide)).mp hsx
            refine bj_aload_n d_Of_turn_66 rfl rfl ?_
            refine bj_iconst (v := (nI 2)) d_Of_turn_67 (by decide) ?_
            refine bj_putN d_Of_turn_68 in_Ba ok_Ba nm_Ba rfl (by decide : 0 < 4) wf_Of_96 rfl rfl rfl rfl rfl (Nat.le_of_ble_eq_true rfl) hBa.1 ?_
            have hB7 : ba_ok c ad (va_up M (3 + a) (some (.inr (0, [.int (nI 2), .int (nI (sz a)), .ref (ad (15 + a)), .ref (ad (27 + a))])))) (3 + a) (15 + a) (27 + a) (nI 2) (sz a) (rk a) (fun i => nI (tm a i)) := ⟨va_up_self _ _ _, hBa.2.1.in (va_up_ne _ _ (by omega)), hBa.2.2.in (va_up_ne _ _ (by omega))⟩
            have hE7 : ∀ q, q ≠ 3 + a → (va_up M (3 + a) (some (.inr (0, [.int (nI 2), .int (nI (sz a)), .ref (ad (15 + a)), .ref (ad (27 + a))])))) q = M q := fun q hq => va_up_ne _ _ hq
            show bj_S _ _ _ _ _ _ 0 0 _ _ [] (va_up M (3 + a) (some (.inr (0, [.int (nI 2), .int (nI (sz a)), .ref (ad (15 + a)), .ref (ad (27 + a))]))))
            generalize va_up M (3 + a) (some (.inr (0, [.int (nI 2), .int (nI (sz a)), .ref (ad (15 + a)), .ref (ad (27 + a))]))) = M7 at hB7 hE7 ⊢
            have hC7 : co_ok c ad M7 39 N (nI (vsum sg sz tm)) (fun a b => nI (psum sg sz rk tm 12 a b)) := hC.in (fun q q1 q2 => hE7 q (by omega))
            have hO7 := (hE7 0 (by omega)).trans hO
            refine bj_aload_n d_Of_turn_71 rfl rfl ?_
            refine bj_get d_Of_turn_72 in_Of rfl (by decide : 5 < 9) wf_Of_36 rfl hO7 rfl ?_
            refine bj_aload_n d_Of_turn_75 rfl rfl ?_
            refine bj_cvR sv_Of_116 d_Of_turn_76 (t_Co_takeOut l D c ad M7 hC7 hN hB7 hba.2.1 (by omega) (by omega) (by omega)) rfl rfl (by decide) (by decide) (by decide) (Nat.le_of_ble_eq_true rfl) rfl hC7.1 rfl rfl (fun v2 N2 hq2 => ?_)
            obtain ⟨rfl, hC8, hf8⟩ := hq2
            show bj_S (bw_G l D c) Y_Of_turn 8 (0, 0, 1, 6) ad (q_pub [xA, xS] (Rc none (turF op se sg (((nI a) : Int32).toNatClampNeg) (nI a) x2) 1) (turG c ad M N op se dw sg sz rk tm (((nI a) : Int32).toNatClampNeg) x2) (of_st c ad M N op se dw sg sz rk tm)) 0 0 79 [some (.ref (ad 0)), some (.int (nI a)), some (.int x2), some (.ref (ad (3 + a)))] [] N2
            have hnew : of_all c ad N2 N op se dw (va_up sg a 2) sz rk tm := hA.turn ha (by omega) (hB7.in (hf8 _ (by omega)) (hf8 _ (by omega)) (hf8 _ (by omega))) hC8 (by rw [co_vs_m]; exact nI_mi (vsum_out (by omega) hs9 (by decide))) (fun x y _ _ => by rw [co_sum_m]; exact nI_mi (psum_out (by omega) hs9 (by decide))) (fun q q1 q2 => (hf8 q (by omega)).trans (hE7 q q1))
            have hfr : of_fr M N2 := fun q hq => (hf8 q (by omega)).trans (hE7 q (by omega))
            refine bj_goto (tgt := 95) d_Of_turn_79 (by decide) ?_
            exact bj_vret d_Of_turn_95 rfl (Nat.le_refl _) (Nat.le_refl _) ⟨Or.inr ⟨⟨h1, hto⟩, Or.inr ⟨⟨h3, by rw [hcl]; exact hsx⟩, rfl, rfl⟩⟩, by unfold turG; rw [hcl, if_pos h63]; exact ⟨hnew, hfr⟩⟩
        · rw [sgb hto] at h48
          exact bj_throw (names := xN) d_Of_turn_51 d_Of_turn_54 d_Of_turn_55 d_Of_turn_57 d_Of_turn_60 htr (by decide) (by decide) (by decide) (by decide) wc_Of_74 wi_IllegalStateException wt_Of_114 wo_Of_78 (fun x hx => nomatch hx) (by decide) (by decide) (Nat.le_of_ble_eq_true rfl) ⟨2, by decide, rfl, Or.inr ⟨⟨h1, hto⟩, Or.inl ⟨fun q => by rw [hcl] at q; exact h48 q.2, rfl, rfl⟩⟩, ⟨hA, of_fr.rf⟩⟩
      first | exact k29 (Or.inl h6) | exact k29 (Or.inr (Or.inl h11)) | exact k29 (Or.inr (Or.inr h16))
    · refine bj_iload_n d_Of_turn_14 rfl rfl ?_
      refine bj_iconst (v := (nI 2)) d_Of_turn_15 (by decide) ?_
      refine bj_icmp_eq (tgt := 29) d_Of_turn_16 (by decide) (fun h16 => ?_) (fun h16 => ?_)
      · have k29 : (x2 = 0 ∨ x2 = nI 1 ∨ x2 = nI 2) → bj_S (bw_G l D c) Y_Of_turn 8 (0, 0, 1, 6) ad (q_pub [xA, xS] (Rc none (turF op se sg (((nI a) : Int32).toNatClampNeg) (nI a) x2) 1) (turG c ad M N op se dw sg sz rk tm (((nI a) : Int32).toNatClampNeg) x2) (of_st c ad M N op se dw sg sz rk tm)) 0 0 29 [some (.ref (ad 0)), some (.int (nI a)), some (.int x2), none] [] M := by
          intro hto
          refine bj_aload_n d_Of_turn_29 rfl rfl ?_
          refine bj_cv sv_Of_71 d_Of_turn_30 (t_Of_needUnsealed l D c ad M htr hO hN) rfl rfl (by decide) (by decide) (by decide) (Nat.le_of_ble_eq_true rfl) rfl hO rfl rfl (fun v1 N1 hq1 => ?_) (fun v1 N1 hq1 => ?_)
          rotate_left
          · obtain ⟨rfl, rfl, h3⟩ := hq1
            exact bj_out (fun x hx => nomatch hx) (by decide) (by decide) ⟨2, by decide, rfl, Or.inr ⟨⟨h1, hto⟩, Or.inl ⟨fun q => h3 q.1, rfl, rfl⟩⟩, ⟨hA, of_fr.rf⟩⟩
          obtain ⟨rfl, rfl, h3⟩ := hq1
          show bj_S (bw_G l D c) Y_Of_turn 8 (0, 0, 1, 6) ad (q_pub [xA, xS] (Rc none (turF op se sg (((nI a) : Int32).toNatClampNeg) (nI a) x2) 1) (turG c ad M N op se dw sg sz rk tm (((nI a) : Int32).toNatClampNeg) x2) (of_st c ad M N op se dw sg sz rk tm)) 0 0 33 [some (.ref (ad 0)), some (.int (nI a)), some (.int x2), none] [] M
          refine bj_aload_n d_Of_turn_33 rfl rfl ?_
          refine bj_get d_Of_turn_34 in_Of rfl (by decide : 2 < 9) wf_Of_19 rfl hO rfl ?_
          refine bj_iload_n d_Of_turn_37 rfl rfl ?_
          refine bv_aald d_Of_turn_38 3 rfl rfl hB (by omega) (by omega) ?_
          refine bj_astore_n (L' := [some (.ref (ad 0)), some (.int (nI a)), some (.int x2), some (.ref (ad (3 + a)))]) d_Of_turn_39 rfl (by decide) rfl ?_
          refine bj_aload_n d_Of_turn_40 rfl rfl ?_
          refine bj_getN d_Of_turn_41 in_Ba rfl (by decide : 0 < 4) wf_Of_96 rfl hBa.1 rfl ?_
          refine bj_iload_n d_Of_turn_44 rfl rfl ?_
          refine bj_csF ss_Of_110 d_Of_turn_45 (t_Of_stageBefore l D c ad M) rfl rfl (by decide) (by decide) (by decide) (Nat.le_of_ble_eq_true rfl) rfl ?_
          refine bj_icmp_eq (tgt := 61) d_Of_turn_48 (by decide) (fun h48 => ?_) (fun h48 => ?_)
          · rw [sgb hto] at h48
            have hsx := h48
            refine bj_iload_n d_Of_turn_61 rfl rfl ?_
            refine bj_iconst (v := (nI 1)) d_Of_turn_62 (by decide) ?_
            refine bj_icmp_ne (tgt := 82) d_Of_turn_63 (by decide) (fun h63 => ?_) (fun h63 => ?_)
            · have hs9 : sg a ≠ 1 := fun q => h63 (by rw [← hsx, q])
              refine bj_aload_n d_Of_turn_82 rfl rfl ?_
              refine bj_iconst (v := (nI 1)) d_Of_turn_83 (by decide) ?_
              refine bj_putN d_Of_turn_84 in_Ba ok_Ba nm_Ba rfl (by decide : 0 < 4) wf_Of_96 rfl rfl rfl rfl rfl (Nat.le_of_ble_eq_true rfl) hBa.1 ?_
              have hB7 : ba_ok c ad (va_up M (3 + a) (some (.inr (0, [.int (nI 1), .int (nI (sz a)), .ref (ad (15 + a)), .ref (ad (27 + a))])))) (3 + a) (15 + a) (27 + a) (nI 1) (sz a) (rk a) (fun i => nI (tm a i)) := ⟨va_up_self _ _ _, hBa.2.1.in (va_up_ne _ _ (by omega)), hBa.2.2.in (va_up_ne _ _ (by omega))⟩
              have hE7 : ∀ q, q ≠ 3 + a → (va_up M (3 + a) (some (.inr (0, [.int (nI 1), .int (nI (sz a)), .ref (ad (15 + a)), .ref (ad (27 + a))])))) q = M q := fun q hq => va_up_ne _ _ hq
              show bj_S _ _ _ _ _ _ 0 0 _ _ [] (va_up M (3 + a) (some (.inr (0, [.int (nI 1), .int (nI (sz a)), .ref (ad (15 + a)), .ref (ad (27 + a))]))))
              generalize va_up M (3 + a) (some (.inr (0, [.int (nI 1), .int (nI (sz a)), .ref (ad (15 + a)), .ref (ad (27 + a))]))) = M7 at hB7 hE7 ⊢
              have hC7 : co_ok c ad M7 39 N (nI (vsum sg sz tm)) (fun a b => nI (psum sg sz rk tm 12 a b)) := hC.in (fun q q1 q2 => hE7 q (by omega))
              have hO7 := (hE7 0 (by omega)).trans hO
              refine bj_aload_n d_Of_turn_87 rfl rfl ?_
              refine bj_get d_Of_turn_88 in_Of rfl (by decide : 5 < 9) wf_Of_36 rfl hO7 rfl ?_
              refine bj_aload_n d_Of_turn_91 rfl rfl ?_
              refine bj_cvR sv_Of_120 d_Of_turn_92 (t_Co_putIn l D c ad M7 hC7 hN hB7 hba.2.1 (by omega) (by omega) (by omega)) rfl rfl (by decide) (by decide) (by decide) (Nat.le_of_ble_eq_true rfl) rfl hC7.1 rfl rfl (fun v2 N2 hq2 => ?_)
              obtain ⟨rfl, hC8, hf8⟩ := hq2
              show bj_S (bw_G l D c) Y_Of_turn 8 (0, 0, 1, 6) ad (q_pub [xA, xS] (Rc none (turF op se sg (((nI a) : Int32).toNatClampNeg) (nI a) x2) 1) (turG c ad M N op se dw sg sz rk tm (((nI a) : Int32).toNatClampNeg) x2) (of_st c ad M N op se dw sg sz rk tm)) 0 0 95 [some (.ref (ad 0)), some (.int (nI a)), some (.int x2), some (.ref (ad (3 + a)))] [] N2
              have hnew : of_all c ad N2 N op se dw (va_up sg a 1) sz rk tm := hA.turn ha (by omega) (hB7.in (hf8 _ (by omega)) (hf8 _ (by omega)) (hf8 _ (by omega))) hC8 (by rw [co_vs_p]; exact nI_pl (vsum_in (by omega) hs9 (by decide))) (fun x y _ _ => by rw [co_sum_p]; exact nI_pl (psum_in (by omega) hs9 (by decide))) (fun q q1 q2 => (hf8 q (by omega)).trans (hE7 q q1))
              have hfr : of_fr M N2 := fun q hq => (hf8 q (by omega)).trans (hE7 q (by omega))
              exact bj_vret d_Of_turn_95 rfl (Nat.le_refl _) (Nat.le_refl _) ⟨Or.inr ⟨⟨h1, hto⟩, Or.inr ⟨⟨h3, by rw [hcl]; exact hsx⟩, rfl, rfl⟩⟩, by unfold turG; rw [hcl, if_neg h63]; exact ⟨hnew, hfr⟩⟩
            · have hs9 : sg a = 1 := by rw [h63] at hsx; exact (nI_eq (by omega) (by decide)).mp hsx
              refine bj_aload_n d_Of_turn_66 rfl rfl ?_
              refine bj_iconst (v := (nI 2)) d_Of_turn_67 (by decide) ?_
              refine bj_putN d_Of_turn_68 in_Ba ok_Ba nm_Ba rfl (by decide : 0 < 4) wf_Of_96 rfl rfl rfl rfl rfl (Nat.le_of_ble_eq_true rfl) hBa.1 ?_
              have hB7 : ba_ok c ad (va_up M (3 + a) (some (.inr (0, [.int (nI 2), .int (nI (sz a)), .ref (ad (15 + a)), .ref (ad (27 + a))])))) (3 + a) (15 + a) (27 + a) (nI 2) (sz a) (rk a) (fun i => nI (tm a i)) := ⟨va_up_self _ _ _, hBa.2.1.in (va_up_ne _ _ (by omega)), hBa.2.2.in (va_up_ne _ _ (by omega))⟩
              have hE7 : ∀ q, q ≠ 3 + a → (va_up M (3 + a) (some (.inr (0, [.int (nI 2), .int (nI (sz a)), .ref (ad (15 + a)), .ref (ad (27 + a))])))) q = M q := fun q hq => va_up_ne _ _ hq
              show bj_S _ _ _ _ _ _ 0 0 _ _ [] (va_up M (3 + a) (some (.inr (0, [.int (nI 2), .int (nI (sz a)), .ref (ad (15 + a)), .ref (ad (27 + a))]))))
              generalize va_up M (3 + a) (some (.inr (0, [.int (nI 2), .int (nI (sz a)), .ref (ad (15 + a)), .ref (ad (27 + a))]))) = M7 at hB7 hE7 ⊢
              have hC7 : co_ok c ad M7 39 N (nI (vsum sg sz tm)) (fun a b => nI (psum sg sz rk tm 12 a b)) := hC.in (fun q q1 q2 => hE7 q (by omega))
              have hO7 := (hE7 0 (by omega)).trans hO
              refine bj_aload_n d_Of_turn_71 rfl rfl ?_
              refine bj_get d_Of_turn_72 in_Of rfl (by decide : 5 < 9) wf_Of_36 rfl hO7 rfl ?_
              refine bj_aload_n d_Of_turn_75 rfl rfl ?_
              refine bj_cvR sv_Of_116 d_Of_turn_76 (t_Co_takeOut l D c ad M7 hC7 hN hB7 hba.2.1 (by omega) (by omega) (by omega)) rfl rfl (by decide) (by decide) (by decide) (Nat.le_of_ble_eq_true rfl) rfl hC7.1 rfl rfl (fun v2 N2 hq2 => ?_)
              obtain ⟨rfl, hC8, hf8⟩ := hq2
              show bj_S (bw_G l D c) Y_Of_turn 8 (0, 0, 1, 6) ad (q_pub [xA, xS] (Rc none (turF op se sg (((nI a) : Int32).toNatClampNeg) (nI a) x2) 1) (turG c ad M N op se dw sg sz rk tm (((nI a) : Int32).toNatClampNeg) x2) (of_st c ad M N op se dw sg sz rk tm)) 0 0 79 [some (.ref (ad 0)), some (.int (nI a)), some (.int x2), some (.ref (ad (3 + a)))] [] N2
              have hnew : of_all c ad N2 N op se dw (va_up sg a 2) sz rk tm := hA.turn ha (by omega) (hB7.in (hf8 _ (by omega)) (hf8 _ (by omega)) (hf8 _ (by omega))) hC8 (by rw [co_vs_m]; exact nI_mi (vsum_out (by omega) hs9 (by decide))) (fun x y _ _ => by rw [co_sum_m]; exact nI_mi (psum_out (by omega) hs9 (by decide))) (fun q q1 q2 => (hf8 q (by omega)).trans (hE7 q q1))
              have hfr : of_fr M N2 := fun q hq => (hf8 q (by omega)).trans (hE7 q (by omega))
              refine bj_goto (tgt := 95) d_Of_turn_79 (by decide) ?_
              exact bj_vret d_Of_turn_95 rfl (Nat.le_refl _) (Nat.le_refl _) ⟨Or.inr ⟨⟨h1, hto⟩, Or.inr ⟨⟨h3, by rw [hcl]; exact hsx⟩, rfl, rfl⟩⟩, by unfold turG; rw [hcl, if_pos h63]; exact ⟨hnew, hfr⟩⟩
          · rw [sgb hto] at h48
            exact bj_throw (names := xN) d_Of_turn_51 d_Of_turn_54 d_Of_turn_55 d_Of_turn_57 d_Of_turn_60 htr (by decide) (by decide) (by decide) (by decide) wc_Of_74 wi_IllegalStateException wt_Of_114 wo_Of_78 (fun x hx => nomatch hx) (by decide) (by decide) (Nat.le_of_ble_eq_true rfl) ⟨2, by decide, rfl, Or.inr ⟨⟨h1, hto⟩, Or.inl ⟨fun q => by rw [hcl] at q; exact h48 q.2, rfl, rfl⟩⟩, ⟨hA, of_fr.rf⟩⟩
        first | exact k29 (Or.inl h6) | exact k29 (Or.inr (Or.inl h11)) | exact k29 (Or.inr (Or.inr h16))
      · exact bj_throw (names := xN) d_Of_turn_19 d_Of_turn_22 d_Of_turn_23 d_Of_turn_25 d_Of_turn_28 htr (by decide) (by decide) (by decide) (by decide) wc_Of_64 wi_IllegalArgumentException wt_Of_108 wo_Of_68 (fun x hx => nomatch hx) (by decide) (by decide) (Nat.le_of_ble_eq_true rfl) ⟨1, by decide, rfl, Or.inl ⟨fun q => q.2.elim h6 (fun q => q.elim h11 h16), rfl, rfl⟩, ⟨hA, of_fr.rf⟩⟩
set_option maxRecDepth 100000 in
set_option maxHeartbeats 4000000 in
/-- correct -/
theorem t_Of_correct (htr : l.stackTraces = false) {N op : Nat} {se : Bool} {dw sg sz : Nat → Nat} {rk : Nat → Nat → Int32} {tm : Nat → Nat → Nat} (hA : of_all c ad M N op se dw sg sz rk tm) {x1 x2 x3 : Int32} : bj_T (bw_G l D c) Y_Of_correct 8 (0, 0, 1, 6) ad (q_pub [xA, xI, xS] (Rc (some (.int (rk ((x1 : Int32).toNatClampNeg) ((x2 : Int32).toNatClampNeg)))) (corF N op se sg sz ((x1 : Int32).toNatClampNeg) x1 x2 x3) 1) (corG c ad M N op se dw sg sz rk tm ((x1 : Int32).toNatClampNeg) ((x2 : Int32).toNatClampNeg) x3) (of_st c ad M N op se dw sg sz rk tm)) [.ref (ad 0), .int x1, .int x2, .int x3] M := by
  show bj_S _ _ _ _ _ _ 0 0 0 [some (.ref (ad 0)), some (.int x1), some (.int x2), some (.int x3), none, none] [] M
  obtain ⟨⟨hN1, hN, hop, ⟨ps, hpm⟩, hbt, hun⟩, ⟨hO, hd, hB, hb, hC⟩, hsc⟩ := id hA
  have hP : ∀ a b, a < N → b < N → (fun a b => nI (psum sg sz rk tm 12 a b)) a b = nI (psum sg sz rk tm 12 a b) := fun _ _ _ _ => rfl
  have hp : ∀ a b, a < N → b < N → psum sg sz rk tm 12 a b < 2 ^ 31 := fun a b _ _ => hA.pl 12 a b
  refine bj_aload_n d_Of_correct_0 rfl rfl ?_
  refine bj_iload_n d_Of_correct_1 rfl rfl ?_
  refine bj_cv sv_Of_88 d_Of_correct_2 (t_Of_needBatch l D c ad M htr hO hN) rfl rfl (by decide) (by decide) (by decide) (Nat.le_of_ble_eq_true rfl) rfl hO rfl rfl (fun v1 N1 hq1 => ?_) (fun v1 N1 hq1 => ?_)
  rotate_left
  · obtain ⟨rfl, rfl, h1⟩ := hq1
    exact bj_out (fun x hx => nomatch hx) (by decide) (by decide) ⟨1, by decide, rfl, Or.inl ⟨fun q => h1 q.1, rfl, rfl⟩, ⟨hA, of_fr.rf⟩⟩
  obtain ⟨rfl, rfl, h1⟩ := hq1
  show bj_S (bw_G l D c) Y_Of_correct 8 (0, 0, 1, 6) ad (q_pub [xA, xI, xS] (Rc (some (.int (rk ((x1 : Int32).toNatClampNeg) ((x2 : Int32).toNatClampNeg)))) (corF N op se sg sz ((x1 : Int32).toNatClampNeg) x1 x2 x3) 1) (corG c ad M N op se dw sg sz rk tm ((x1 : Int32).toNatClampNeg) ((x2 : Int32).toNatClampNeg) x3) (of_st c ad M N op se dw sg sz rk tm)) 0 0 5 [some (.ref (ad 0)), some (.int x1), some (.int x2), some (.int x3), none, none] [] M
  obtain ⟨a, ha, rfl⟩ := ic_t (by omega) h1
  have hcl : (nI a).toNatClampNeg = a := nI_clamp (by omega)
  have hBa := hb a (by omega)
  have hba := hbt a (by omega)
  refine bj_aload_n d_Of_correct_5 rfl rfl ?_
  refine bj_iload_n d_Of_correct_6 rfl rfl ?_
  refine bj_cv sv_Of_91 d_Of_correct_7 (t_Of_needRanking l D c ad M htr hO hN) rfl rfl (by decide) (by decide) (by decide) (Nat.le_of_ble_eq_true rfl) rfl hO rfl rfl (fun v2 N2 hq2 => ?_) (fun v2 N2 hq2 => ?_)
  rotate_left
  · obtain ⟨rfl, rfl, h2⟩ := hq2
    exact bj_out (fun x hx => nomatch hx) (by decide) (by decide) ⟨1, by decide, rfl, Or.inl ⟨fun q => h2 q.2, rfl, rfl⟩, ⟨hA, of_fr.rf⟩⟩
  obtain ⟨rfl, rfl, h2⟩ := hq2
  show bj_S (bw_G l D c) Y_Of_correct 8 (0, 0, 1, 6) ad (q_pub [xA, xI, xS] (Rc (some (.int (rk (((nI a) : Int32).toNatClampNeg) ((x2 : Int32).toNatClampNeg)))) (corF N op se sg sz (((nI a) : Int32).toNatClampNeg) (nI a) x2 x3) 1) (corG c ad M N op se dw sg sz rk tm (((nI a) : Int32).toNatClampNeg) ((x2 : Int32).toNatClampNeg) x3) (of_st c ad M N op se dw sg sz rk tm)) 0 0 10 [some (.ref (ad 0)), some (.int (nI a)), some (.int x2), some (.int x3), none, none] [] M
  refine bj_aload_n d_Of_correct_10 rfl rfl ?_
  refine bj_get d_Of_correct_11 in_Of rfl (by decide : 2 < 9) wf_Of_19 rfl hO rfl ?_
  refine bj_iload_n d_Of_correct_14 rfl rfl ?_
  refine bv_aald d_Of_correct_15 3 rfl rfl hB (by omega) (by omega) ?_
  refine bj_astore (L' := [some (.ref (ad 0)), some (.int (nI a)), some (.int x2), some (.int x3), some (.ref (ad (3 + a))), none]) d_Of_correct_16 (by decide) rfl ?_
  refine bj_iload_n d_Of_correct_18 rfl rfl ?_
  refine bj_if_lt (tgt := 31) d_Of_correct_19 (by decide) (fun h19 => ?_) (fun h19 => ?_)
  · exact bj_throw (names := xN) d_Of_correct_31 d_Of_correct_34 d_Of_correct_35 d_Of_correct_37 d_Of_correct_40 htr (by decide) (by decide) (by decide) (by decide) wc_Of_83 wi_IndexOutOfBoundsException wt_Of_123 wo_Of_85 (fun x hx => nomatch hx) (by decide) (by decide) (Nat.le_of_ble_eq_true rfl) ⟨2, by decide, rfl, Or.inr ⟨⟨h1, h2⟩, Or.inl ⟨fun q => by rw [hcl] at q; have q := of_decide_eq_true q; first | exact q.1 h19 | exact q.2 (Int32.not_lt.mp h28), rfl, rfl⟩⟩, ⟨hA, of_fr.rf⟩⟩
  · refine bj_iload_n d_Of_correct_22 rfl rfl ?_
    refine bj_aload d_Of_correct_23 rfl ?_
    refine bj_getN d_Of_correct_25 in_Ba rfl (by decide : 1 < 4) wf_Of_99 rfl hBa.1 rfl ?_
    refine bj_icmp_lt (tgt := 41) d_Of_correct_28 (by decide) (fun h28 => ?_) (fun h28 => ?_)
    · have hi9 : ic (sz a) x2 = true := decide_eq_true ⟨h19, Int32.not_le.mpr h28⟩
      obtain ⟨j, hj, rfl⟩ := ic_t (by omega) hi9
      have hcj : (nI j).toNatClampNeg = j := nI_clamp (by omega)
      refine bj_aload_n d_Of_correct_41 rfl rfl ?_
      refine bj_cv sv_Of_71 d_Of_correct_42 (t_Of_needUnsealed l D c ad M htr hO hN) rfl rfl (by decide) (by decide) (by decide) (Nat.le_of_ble_eq_true rfl) rfl hO rfl rfl (fun v1 N1 hq1 => ?_) (fun v1 N1 hq1 => ?_)
      rotate_left
      · obtain ⟨rfl, rfl, h3⟩ := hq1
        exact bj_out (fun x hx => nomatch hx) (by decide) (by decide) ⟨3, by decide, rfl, Or.inr ⟨⟨h1, h2⟩, Or.inr ⟨by rw [hcl]; exact hi9, Or.inl ⟨fun q => h3 q.1, rfl, rfl⟩⟩⟩, ⟨hA, of_fr.rf⟩⟩
      obtain ⟨rfl, rfl, h3⟩ := hq1
      show bj_S (bw_G l D c) Y_Of_correct 8 (0, 0, 1, 6) ad (q_pub [xA, xI, xS] (Rc (some (.int (rk (((nI a) : Int32).toNatClampNeg) (((nI j) : Int32).toNatClampNeg)))) (corF N op se sg sz (((nI a) : Int32).toNatClampNeg) (nI a) (nI j) x3) 1) (corG c ad M N op se dw sg sz rk tm (((nI a) : Int32).toNatClampNeg) (((nI j) : Int32).toNatClampNeg) x3) (of_st c ad M N op se dw sg sz rk tm)) 0 0 45 [some (.ref (ad 0)), some (.int (nI a)), some (.int (nI j)), some (.int x3), some (.ref (ad (3 + a))), none] [] M
      refine bj_aload d_Of_correct_45 rfl ?_
      refine bj_getN d_Of_correct_47 in_Ba rfl (by decide : 0 < 4) wf_Of_96 rfl hBa.1 rfl ?_
      refine bj_if_neN (tgt := 63) d_Of_correct_50 (by decide) (by omega) (fun h50 => ?_) (fun h50 => ?_)
      · refine bj_aload d_Of_correct_63 rfl ?_
        refine bj_getN d_Of_correct_65 in_Ba rfl (by decide : 2 < 4) wf_Of_127 rfl hBa.1 rfl ?_
        refine bj_iload_n d_Of_correct_68 rfl rfl ?_
        refine bv_iald d_Of_correct_69 0 rfl hBa.2.1 (by omega) (by omega) rfl ?_
        refine bj_istore (L' := [some (.ref (ad 0)), some (.int (nI a)), some (.int (nI j)), some (.int x3), some (.ref (ad (3 + a))), some (.int (rk a j))]) d_Of_correct_70 (by decide) rfl ?_
        refine bj_aload d_Of_correct_72 rfl ?_
        refine bj_getN d_Of_correct_74 in_Ba rfl (by decide : 2 < 4) wf_Of_127 rfl hBa.1 rfl ?_
        refine bj_iload_n d_Of_correct_77 rfl rfl ?_
        refine bj_iload_n d_Of_correct_78 rfl rfl ?_
        refine bv_iast d_Of_correct_79 0 rfl hBa.2.1 (by omega) (by omega) (fun N2 hN2 hO2 => ?_)
        have hB7 : ba_ok c ad N2 (3 + a) (15 + a) (27 + a) (nI (sg a)) (sz a) (va_up (rk a) j x3) (fun i => nI (tm a i)) := ⟨(hO2 _ (by omega)).trans hBa.1, hN2, hBa.2.2.in (hO2 _ (by omega))⟩
        have hC7 : co_ok c ad N2 39 N (nI (vsum sg sz tm)) (fun a b => nI (psum sg sz rk tm 12 a b)) := hC.in (fun q q1 q2 => hO2 q (by omega))
        have hO7 := (hO2 0 (by omega)).trans hO
        refine bj_aload d_Of_correct_80 rfl ?_
        refine bj_getN d_Of_correct_82 in_Ba rfl (by decide : 0 < 4) wf_Of_96 rfl hB7.1 rfl ?_
        refine bj_iconst (v := (nI 1)) d_Of_correct_85 (by decide) ?_
        refine bj_icmp_neN (tgt := 121) d_Of_correct_86 (by decide) (by omega) (by omega) (fun h86 => ?_) (fun h86 => ?_)
        · have hnew : of_all c ad N2 N op se dw sg sz (va_up rk a (va_up (rk a) j x3)) tm := hA.corr ha hB7 hC7 rfl (fun x y _ _ => by rw [psum_rk_no h86]) (fun q q1 q2 => hO2 q q1)
          have hfr : of_fr M N2 := fun q hq => hO2 q (by omega)
          refine bj_iload d_Of_correct_121 rfl ?_
          exact bj_iret d_Of_correct_123 rfl rfl (Nat.le_refl _) (Nat.le_refl _) ⟨Or.inr ⟨⟨h1, h2⟩, Or.inr ⟨by rw [hcl]; exact hi9, Or.inr ⟨⟨h3, by rw [hcl]; exact h50⟩, rfl, by rw [hcl, hcj]⟩⟩⟩, by unfold corG; rw [hcl, hcj]; exact ⟨hnew, hfr⟩⟩
        · have hs9 := h86
          refine bj_aload_n d_Of_correct_89 rfl rfl ?_
          refine bj_get d_Of_correct_90 in_Of rfl (by decide : 5 < 9) wf_Of_36 rfl hO7 rfl ?_
          refine bj_iload d_Of_correct_93 rfl ?_
          refine bj_aload d_Of_correct_95 rfl ?_
          refine bj_getN d_Of_correct_97 in_Ba rfl (by decide : 3 < 4) wf_Of_130 rfl hB7.1 rfl ?_
          refine bj_iload_n d_Of_correct_100 rfl rfl ?_
          refine bv_iald d_Of_correct_101 0 rfl hB7.2.2 (by omega) (by omega) rfl ?_
          refine bj_ineg (v := (-(nI (tm a j)))) d_Of_correct_102 rfl ?_
          refine bj_cvR sv_Of_132 d_Of_correct_103 (t_Co_add l D c ad N2 hC7 hN) rfl rfl (by decide) (by decide) (by decide) (Nat.le_of_ble_eq_true rfl) rfl hC7.1 rfl rfl (fun v3 N3 hq3 => ?_)
          obtain ⟨rfl, hC8, hf8⟩ := hq3
          show bj_S (bw_G l D c) Y_Of_correct 8 (0, 0, 1, 6) ad (q_pub [xA, xI, xS] (Rc (some (.int (rk (((nI a) : Int32).toNatClampNeg) (((nI j) : Int32).toNatClampNeg)))) (corF N op se sg sz (((nI a) : Int32).toNatClampNeg) (nI a) (nI j) x3) 1) (corG c ad M N op se dw sg sz rk tm (((nI a) : Int32).toNatClampNeg) (((nI j) : Int32).toNatClampNeg) x3) (of_st c ad M N op se dw sg sz rk tm)) 0 0 106 [some (.ref (ad 0)), some (.int (nI a)), some (.int (nI j)), some (.int x3), some (.ref (ad (3 + a))), some (.int (rk a j))] [] N3
          have hB8 := hB7.in (hf8 _ (by omega)) (hf8 _ (by omega)) (hf8 _ (by omega))
          have hO8 := (hf8 0 (by omega)).trans hO7
          refine bj_aload_n d_Of_correct_106 rfl rfl ?_
          refine bj_get d_Of_correct_107 in_Of rfl (by decide : 5 < 9) wf_Of_36 rfl hO8 rfl ?_
          refine bj_iload_n d_Of_correct_110 rfl rfl ?_
          refine bj_aload d_Of_correct_111 rfl ?_
          refine bj_getN d_Of_correct_113 in_Ba rfl (by decide : 3 < 4) wf_Of_130 rfl hB8.1 rfl ?_
          refine bj_iload_n d_Of_correct_116 rfl rfl ?_
          refine bv_iald d_Of_correct_117 0 rfl hB8.2.2 (by omega) (by omega) rfl ?_
          refine bj_cvR sv_Of_132 d_Of_correct_118 (t_Co_add l D c ad N3 hC8 hN) rfl rfl (by decide) (by decide) (by decide) (Nat.le_of_ble_eq_true rfl) rfl hC8.1 rfl rfl (fun v4 N4 hq4 => ?_)
          obtain ⟨rfl, hC9, hf9⟩ := hq4
          show bj_S (bw_G l D c) Y_Of_correct 8 (0, 0, 1, 6) ad (q_pub [xA, xI, xS] (Rc (some (.int (rk (((nI a) : Int32).toNatClampNeg) (((nI j) : Int32).toNatClampNeg)))) (corF N op se sg sz (((nI a) : Int32).toNatClampNeg) (nI a) (nI j) x3) 1) (corG c ad M N op se dw sg sz rk tm (((nI a) : Int32).toNatClampNeg) (((nI j) : Int32).toNatClampNeg) x3) (of_st c ad M N op se dw sg sz rk tm)) 0 0 121 [some (.ref (ad 0)), some (.int (nI a)), some (.int (nI j)), some (.int x3), some (.ref (ad (3 + a))), some (.int (rk a j))] [] N4
          have hnew : of_all c ad N4 N op se dw sg sz (va_up rk a (va_up (rk a) j x3)) tm := hA.corr ha (hB8.in (hf9 _ (by omega)) (hf9 _ (by omega)) (hf9 _ (by omega))) hC9 (by rw [Int32.add_assoc, Int32.add_left_neg, Int32.add_zero]) (fun x y _ _ => nI_swap (x := psum sg sz rk tm 12 x y) (o := 0) (n := 0) (psum_rk (by omega) hs9 hj)) (fun q q1 q2 => (hf9 q (by omega)).trans ((hf8 q (by omega)).trans (hO2 q q1)))
          have hfr : of_fr M N4 := fun q hq => (hf9 q (by omega)).trans ((hf8 q (by omega)).trans (hO2 q (by omega)))
          refine bj_iload d_Of_correct_121 rfl ?_
          exact bj_iret d_Of_correct_123 rfl rfl (Nat.le_refl _) (Nat.le_refl _) ⟨Or.inr ⟨⟨h1, h2⟩, Or.inr ⟨by rw [hcl]; exact hi9, Or.inr ⟨⟨h3, by rw [hcl]; exact h50⟩, rfl, by rw [hcl, hcj]⟩⟩⟩, by unfold corG; rw [hcl, hcj]; exact ⟨hnew, hfr⟩⟩
      · exact bj_throw (names := xN) d_Of_correct_53 d_Of_correct_56 d_Of_correct_57 d_Of_correct_59 d_Of_correct_62 htr (by decide) (by decide) (by decide) (by decide) wc_Of_74 wi_IllegalStateException wt_Of_125 wo_Of_78 (fun x hx => nomatch hx) (by decide) (by decide) (Nat.le_of_ble_eq_true rfl) ⟨3, by decide, rfl, Or.inr ⟨⟨h1, h2⟩, Or.inr ⟨by rw [hcl]; exact hi9, Or.inl ⟨fun q => by rw [hcl] at q; exact q.2 h50, rfl, rfl⟩⟩⟩, ⟨hA, of_fr.rf⟩⟩
    · exact bj_throw (names := xN) d_Of_correct_31 d_Of_correct_34 d_Of_correct_35 d_Of_correct_37 d_Of_correct_40 htr (by decide) (by decide) (by decide) (by decide) wc_Of_83 wi_IndexOutOfBoundsException wt_Of_123 wo_Of_85 (fun x hx => nomatch hx) (by decide) (by decide) (Nat.le_of_ble_eq_true rfl) ⟨2, by decide, rfl, Or.inr ⟨⟨h1, h2⟩, Or.inl ⟨fun q => by rw [hcl] at q; have q := of_decide_eq_true q; first | exact q.1 h19 | exact q.2 (Int32.not_lt.mp h28), rfl, rfl⟩⟩, ⟨hA, of_fr.rf⟩⟩
set_option maxRecDepth 100000 in
set_option maxHeartbeats 4000000 in
/-- without -/
theorem t_Of_without (htr : l.stackTraces = false) {N op : Nat} {se : Bool} {dw sg sz : Nat → Nat} {rk : Nat → Nat → Int32} {tm : Nat → Nat → Nat} (hA : of_all c ad M N op se dw sg sz rk tm) {x1 x2 x3 : Int32} : bj_T (bw_G l D c) Y_Of_without 8 (0, 0, 1, 6) ad (q_pub [xA, xI] (withR op sg sz rk tm N dw x1 x2 x3) (of_st c ad M N op se dw sg sz rk tm) (of_st c ad M N op se dw sg sz rk tm)) [.ref (ad 0), .int x1, .int x2, .int x3] M := by
  show bj_S _ _ _ _ _ _ 0 0 0 [some (.ref (ad 0)), some (.int x1), some (.int x2), some (.int x3)] [] M
  obtain ⟨⟨hN1, hN, hop, ⟨ps, hpm⟩, hbt, hun⟩, ⟨hO, hd, hB, hb, hC⟩, hsc⟩ := id hA
  have hP : ∀ a b, a < N → b < N → (fun a b => nI (psum sg sz rk tm 12 a b)) a b = nI (psum sg sz rk tm 12 a b) := fun _ _ _ _ => rfl
  have hp : ∀ a b, a < N → b < N → psum sg sz rk tm 12 a b < 2 ^ 31 := fun a b _ _ => hA.pl 12 a b
  refine bj_aload_n d_Of_without_0 rfl rfl ?_
  refine bj_iload_n d_Of_without_1 rfl rfl ?_
  refine bj_cv sv_Of_88 d_Of_without_2 (t_Of_needBatch l D c ad M htr hO hN) rfl rfl (by decide) (by decide) (by decide) (Nat.le_of_ble_eq_true rfl) rfl hO rfl rfl (fun v1 N1 hq1 => ?_) (fun v1 N1 hq1 => ?_)
  rotate_left
  · obtain ⟨rfl, rfl, h1⟩ := hq1
    exact bj_out (fun x hx => nomatch hx) (by decide) (by decide) ⟨1, by decide, rfl, Or.inl ⟨fun q => h1 q.1, rfl, rfl⟩, ⟨hA, of_fr.rf⟩⟩
  obtain ⟨rfl, rfl, h1⟩ := hq1
  show bj_S (bw_G l D c) Y_Of_without 8 (0, 0, 1, 6) ad (q_pub [xA, xI] (withR op sg sz rk tm N dw x1 x2 x3) (of_st c ad M N op se dw sg sz rk tm) (of_st c ad M N op se dw sg sz rk tm)) 0 0 5 [some (.ref (ad 0)), some (.int x1), some (.int x2), some (.int x3)] [] M
  obtain ⟨a, ha, rfl⟩ := ic_t (by omega) h1
  have hcl : (nI a).toNatClampNeg = a := nI_clamp (by omega)
  have hBa := hb a (by omega)
  have hba := hbt a (by omega)
  refine bj_iload_n d_Of_without_5 rfl rfl ?_
  refine bj_if_eq (tgt := 29) d_Of_without_6 (by decide) (fun h6 => ?_) (fun h6 => ?_)
  · have k66 : ∀ (M2 : bj_M) (vs2 : Int32), (x2 = 0 ∨ x2 = nI 1 ∨ x2 = nI 2) → (of_st c ad M N op se dw sg sz rk tm M2) → (co_ok c ad M2 49 N vs2 (fun x y => nI (psum sg sz rk tm a x y))) → bj_S (bw_G l D c) Y_Of_without 8 (0, 0, 1, 6) ad (q_pub [xA, xI] (withR op sg sz rk tm N dw (nI a) x2 x3) (of_st c ad M N op se dw sg sz rk tm) (of_st c ad M N op se dw sg sz rk tm)) 0 0 66 [some (.ref (ad 0)), some (.int (nI a)), some (.int x2), some (.int x3)] [] M2 := by
      intro M2 vs2 hto hst2 hT
      obtain ⟨-, ⟨hO2, hd2, -, -, -⟩, hsc2⟩ := id hst2.1
      obtain ⟨f0, hA0⟩ := hsc2.2.1
      obtain ⟨lo0, co0, U0, V0, pn0, hL0⟩ := hsc2.2.2.2
      have hPb : ∀ x y, x < N → y < N → (fun x y => nI (psum sg sz rk tm a x y)) x y = nI ((psum sg sz rk tm a) x y) := fun _ _ _ _ => rfl
      have hpb : ∀ x y, x < N → y < N → (psum sg sz rk tm a) x y < 2 ^ 31 := fun x y _ _ => hA.pl a x y
      refine bj_iload_n d_Of_without_66 rfl rfl ?_
      refine bj_if_ne (tgt := 86) d_Of_without_67 (by decide) (fun h67 => ?_) (fun h67 => ?_)
      · refine bj_iload_n d_Of_without_86 rfl rfl ?_
        refine bj_iconst (v := (nI 1)) d_Of_without_87 (by decide) ?_
        refine bj_icmp_ne (tgt := 104) d_Of_without_88 (by decide) (fun h88 => ?_) (fun h88 => ?_)
        · refine bj_aload_n d_Of_without_104 rfl rfl ?_
          refine bj_get d_Of_without_105 in_Of rfl (by decide : 6 < 9) wf_Of_40 rfl hO2 rfl ?_
          refine bj_cvR sv_Of_191 d_Of_without_108 (t_Co_topSet l D c ad M2 hT hN hN1) rfl rfl (by decide) (by decide) (by decide) (Nat.le_of_ble_eq_true rfl) rfl hT.1 rfl rfl (fun v1 N1 hq1 => ?_)
          obtain ⟨c0, hc0, rfl, hmin, hM9⟩ := hq1
          show bj_S (bw_G l D c) Y_Of_without 8 (0, 0, 1, 6) ad (q_pub [xA, xI] (withR op sg sz rk tm N dw (nI a) x2 x3) (of_st c ad M N op se dw sg sz rk tm) (of_st c ad M N op se dw sg sz rk tm)) 0 0 111 [some (.ref (ad 0)), some (.int (nI a)), some (.int x2), some (.int x3)] [.int (bm (mt_of (nbt (fun x y => nI (psum sg sz rk tm a x y))) N c0) N)] N1
          rw [hM9]
          refine bj_iload_n d_Of_without_111 rfl rfl ?_
          refine bj_csF ss_Of_174 d_Of_without_112 (t_Of_member l D c ad M2) rfl rfl (by decide) (by decide) (by decide) (Nat.le_of_ble_eq_true rfl) rfl ?_
          refine bj_cs ss_Of_177 d_Of_without_115 (t_Of_needFound l D c ad M2 htr) rfl rfl (by decide) (by decide) (by decide) (Nat.le_of_ble_eq_true rfl) rfl (fun v2 N2 hq2 => ?_) (fun v2 N2 hq2 => ?_)
          rotate_left
          · obtain ⟨rfl, rfl, hfd⟩ := hq2
            exact bj_out (fun x hx => nomatch hx) (by decide) (by decide) ⟨2, by decide, rfl, Or.inr ⟨⟨h1, hto⟩, by rw [hcl]; exact ⟨fun q => absurd q h67, fun q => absurd q h88, fun _ => ⟨c0, hc0, hmin, Rf_n (by decide) hfd⟩⟩⟩, hst2⟩
          obtain ⟨rfl, rfl, hfd⟩ := hq2
          show bj_S (bw_G l D c) Y_Of_without 8 (0, 0, 1, 6) ad (q_pub [xA, xI] (withR op sg sz rk tm N dw (nI a) x2 x3) (of_st c ad M N op se dw sg sz rk tm) (of_st c ad M N op se dw sg sz rk tm)) 0 0 118 [some (.ref (ad 0)), some (.int (nI a)), some (.int x2), some (.int x3)] [.int (oI (ft (mem_q (bm (mt_of (nbt (fun x y => nI (psum sg sz rk tm a x y))) N c0) N) x3) 8))] M2
          exact bj_iret d_Of_without_118 rfl rfl (Nat.le_refl _) (Nat.le_refl _) ⟨Or.inr ⟨⟨h1, hto⟩, by rw [hcl]; exact ⟨fun q => absurd q h67, fun q => absurd q h88, fun _ => ⟨c0, hc0, hmin, Rf_0 hfd⟩⟩⟩, hst2⟩
        · refine bj_aload_n d_Of_without_91 rfl rfl ?_
          refine bj_aload_n d_Of_without_92 rfl rfl ?_
          refine bj_get d_Of_without_93 in_Of rfl (by decide : 6 < 9) wf_Of_40 rfl hO2 rfl ?_
          refine bj_iload_n d_Of_without_96 rfl rfl ?_
          refine bj_cvR sv_Of_187 d_Of_without_97 (t_Of_inOrder l D c ad M2 hO2 hN hT hPb hpb (by omega) hd2 hpm hL0) rfl rfl (by decide) (by decide) (by decide) (Nat.le_of_ble_eq_true rfl) rfl hO2 rfl rfl (fun v1 N1 hq1 => ?_)
          obtain ⟨hor, ⟨lo1, co1, U1, V1, pn1, hL1⟩, hfl⟩ := hq1
          obtain ⟨z, hvz⟩ := ord_int hor
          have hst := hst2.tr (hst2.1.lks hL1 hfl)
          have hvz2 := hvz
          subst hvz2
          show bj_S (bw_G l D c) Y_Of_without 8 (0, 0, 1, 6) ad (q_pub [xA, xI] (withR op sg sz rk tm N dw (nI a) x2 x3) (of_st c ad M N op se dw sg sz rk tm) (of_st c ad M N op se dw sg sz rk tm)) 0 0 100 [some (.ref (ad 0)), some (.int (nI a)), some (.int x2), some (.int x3)] [.int z] N1
          refine bj_cs ss_Of_177 d_Of_without_100 (t_Of_needFound l D c ad N1 htr) rfl rfl (by decide) (by decide) (by decide) (Nat.le_of_ble_eq_true rfl) rfl (fun v2 N2 hq2 => ?_) (fun v2 N2 hq2 => ?_)
          rotate_left
          · obtain ⟨rfl, rfl, hfd⟩ := hq2
            exact bj_out (fun x hx => nomatch hx) (by decide) (by decide) ⟨2, by decide, rfl, Or.inr ⟨⟨h1, hto⟩, by rw [hcl]; exact ⟨fun q => absurd q h67, fun _ => ord_n hN hor rfl hfd, fun q => absurd (h88 ▸ q : nI 1 = nI 2) (by decide)⟩⟩, hst⟩
          obtain ⟨rfl, rfl, hfd⟩ := hq2
          show bj_S (bw_G l D c) Y_Of_without 8 (0, 0, 1, 6) ad (q_pub [xA, xI] (withR op sg sz rk tm N dw (nI a) x2 x3) (of_st c ad M N op se dw sg sz rk tm) (of_st c ad M N op se dw sg sz rk tm)) 0 0 103 [some (.ref (ad 0)), some (.int (nI a)), some (.int x2), some (.int x3)] [.int z] N1
          exact bj_iret d_Of_without_103 rfl rfl (Nat.le_refl _) (Nat.le_refl _) ⟨Or.inr ⟨⟨h1, hto⟩, by rw [hcl]; exact ⟨fun q => absurd q h67, fun _ => ord_0 hor rfl hfd, fun q => absurd (h88 ▸ q : nI 1 = nI 2) (by decide)⟩⟩, hst⟩
      · refine bj_aload_n d_Of_without_70 rfl rfl ?_
        refine bj_aload_n d_Of_without_71 rfl rfl ?_
        refine bj_get d_Of_without_72 in_Of rfl (by decide : 6 < 9) wf_Of_40 rfl hO2 rfl ?_
        refine bj_cvR sv_Of_170 d_Of_without_75 (t_Of_winnerSet l D c ad M2 hO2 hN hT hPb hpb (by omega) hA0) rfl rfl (by decide) (by decide) (by decide) (Nat.le_of_ble_eq_true rfl) rfl hO2 rfl rfl (fun v1 N1 hq1 => ?_)
        obtain ⟨rfl, hA1, hf1⟩ := hq1
        show bj_S (bw_G l D c) Y_Of_without 8 (0, 0, 1, 6) ad (q_pub [xA, xI] (withR op sg sz rk tm N dw (nI a) x2 x3) (of_st c ad M N op se dw sg sz rk tm) (of_st c ad M N op se dw sg sz rk tm)) 0 0 78 [some (.ref (ad 0)), some (.int (nI a)), some (.int x2), some (.int x3)] [.int (winb (psum sg sz rk tm a) N)] N1
        have hst := hst2.tr (hst2.1.ps hA1 hf1)
        refine bj_iload_n d_Of_without_78 rfl rfl ?_
        refine bj_csF ss_Of_174 d_Of_without_79 (t_Of_member l D c ad N1) rfl rfl (by decide) (by decide) (by decide) (Nat.le_of_ble_eq_true rfl) rfl ?_
        refine bj_cs ss_Of_177 d_Of_without_82 (t_Of_needFound l D c ad N1 htr) rfl rfl (by decide) (by decide) (by decide) (Nat.le_of_ble_eq_true rfl) rfl (fun v2 N2 hq2 => ?_) (fun v2 N2 hq2 => ?_)
        rotate_left
        · obtain ⟨rfl, rfl, hfd⟩ := hq2
          exact bj_out (fun x hx => nomatch hx) (by decide) (by decide) ⟨2, by decide, rfl, Or.inr ⟨⟨h1, hto⟩, by rw [hcl]; exact ⟨fun _ => Rf_n (by decide) hfd, fun q => absurd (h67 ▸ q : (0 : Int32) = nI 1) (by decide), fun q => absurd (h67 ▸ q : (0 : Int32) = nI 2) (by decide)⟩⟩, hst⟩
        obtain ⟨rfl, rfl, hfd⟩ := hq2
        show bj_S (bw_G l D c) Y_Of_without 8 (0, 0, 1, 6) ad (q_pub [xA, xI] (withR op sg sz rk tm N dw (nI a) x2 x3) (of_st c ad M N op se dw sg sz rk tm) (of_st c ad M N op se dw sg sz rk tm)) 0 0 85 [some (.ref (ad 0)), some (.int (nI a)), some (.int x2), some (.int x3)] [.int (oI (ft (mem_q (winb (psum sg sz rk tm a) N) x3) 8))] N1
        exact bj_iret d_Of_without_85 rfl rfl (Nat.le_refl _) (Nat.le_refl _) ⟨Or.inr ⟨⟨h1, hto⟩, by rw [hcl]; exact ⟨fun _ => Rf_0 hfd, fun q => absurd (h67 ▸ q : (0 : Int32) = nI 1) (by decide), fun q => absurd (h67 ▸ q : (0 : Int32) = nI 2) (by decide)⟩⟩, hst⟩
    have hto : x2 = 0 ∨ x2 = nI 1 ∨ x2 = nI 2 := by first | exact Or.inl h6 | exact Or.inr (Or.inl h11) | exact Or.inr (Or.inr h16)
    obtain ⟨vs0, P0, hT0⟩ := hsc.1
    refine bj_aload_n d_Of_without_29 rfl rfl ?_
    refine bj_get d_Of_without_30 in_Of rfl (by decide : 6 < 9) wf_Of_40 rfl hO rfl ?_
    refine bj_aload_n d_Of_without_33 rfl rfl ?_
    refine bj_get d_Of_without_34 in_Of rfl (by decide : 5 < 9) wf_Of_36 rfl hO rfl ?_
    refine bj_cvR sv_Of_197 d_Of_without_37 (t_Co_copy l D c ad M hT0 hC hN (by omega)) rfl rfl (by decide) (by decide) (by decide) (Nat.le_of_ble_eq_true rfl) rfl hT0.1 rfl rfl (fun v2 N2 hq2 => ?_)
    obtain ⟨rfl, hT2, hf2⟩ := hq2
    show bj_S (bw_G l D c) Y_Of_without 8 (0, 0, 1, 6) ad (q_pub [xA, xI] (withR op sg sz rk tm N dw (nI a) x2 x3) (of_st c ad M N op se dw sg sz rk tm) (of_st c ad M N op se dw sg sz rk tm)) 0 0 40 [some (.ref (ad 0)), some (.int (nI a)), some (.int x2), some (.int x3)] [] N2
    have hst1 : of_st c ad M N op se dw sg sz rk tm N2 := ⟨hA.in (fun q hq => hf2 q (by omega)) (hsc.trial hN hT2 hf2), fun q hq => hf2 q (by omega)⟩
    obtain ⟨-, ⟨hO1, -, hB1, hb1, -⟩, -⟩ := id hst1.1
    have hBa1 := hb1 a (by omega)
    refine bj_aload_n d_Of_without_40 rfl rfl ?_
    refine bj_get d_Of_without_41 in_Of rfl (by decide : 2 < 9) wf_Of_19 rfl hO1 rfl ?_
    refine bj_iload_n d_Of_without_44 rfl rfl ?_
    refine bv_aald d_Of_without_45 3 rfl rfl hB1 (by omega) (by omega) ?_
    refine bj_getN d_Of_without_46 in_Ba rfl (by decide : 0 < 4) wf_Of_96 rfl hBa1.1 rfl ?_
    refine bj_iconst (v := (nI 1)) d_Of_without_49 (by decide) ?_
    refine bj_icmp_neN (tgt := 66) d_Of_without_50 (by decide) (by omega) (by omega) (fun h50 => ?_) (fun h50 => ?_)
    · exact k66 N2 _ hto hst1 (hT2.to (fun x y _ _ => by rw [psum_same h50]))
    · refine bj_aload_n d_Of_without_53 rfl rfl ?_
      refine bj_get d_Of_without_54 in_Of rfl (by decide : 6 < 9) wf_Of_40 rfl hO1 rfl ?_
      refine bj_aload_n d_Of_without_57 rfl rfl ?_
      refine bj_get d_Of_without_58 in_Of rfl (by decide : 2 < 9) wf_Of_19 rfl hO1 rfl ?_
      refine bj_iload_n d_Of_without_61 rfl rfl ?_
      refine bv_aald d_Of_without_62 3 rfl rfl hB1 (by omega) (by omega) ?_
      refine bj_cvR sv_Of_116 d_Of_without_63 (t_Co_takeOut l D c ad N2 hT2 hN hBa1 hba.2.1 (by omega) (by omega) (by omega)) rfl rfl (by decide) (by decide) (by decide) (Nat.le_of_ble_eq_true rfl) rfl hT2.1 rfl rfl (fun v3 N3 hq3 => ?_)
      obtain ⟨rfl, hT3, hf3⟩ := hq3
      show bj_S (bw_G l D c) Y_Of_without 8 (0, 0, 1, 6) ad (q_pub [xA, xI] (withR op sg sz rk tm N dw (nI a) x2 x3) (of_st c ad M N op se dw sg sz rk tm) (of_st c ad M N op se dw sg sz rk tm)) 0 0 66 [some (.ref (ad 0)), some (.int (nI a)), some (.int x2), some (.int x3)] [] N3
      exact k66 N3 _ hto (hst1.tr ⟨hst1.1.in (fun q hq => hf3 q (by omega)) (hst1.1.2.2.trial hN hT3 hf3), fun q hq => hf3 q (by omega)⟩) (hT3.to (fun x y _ _ => by rw [co_sum_m]; exact nI_mi (psum_but (by omega) h50)))
  · refine bj_iload_n d_Of_without_9 rfl rfl ?_
    refine bj_iconst (v := (nI 1)) d_Of_without_10 (by decide) ?_
    refine bj_icmp_eq (tgt := 29) d_Of_without_11 (by decide) (fun h11 => ?_) (fun h11 => ?_)
    · have k66 : ∀ (M2 : bj_M) (vs2 : Int32), (x2 = 0 ∨ x2 = nI 1 ∨ x2 = nI 2) → (of_st c ad M N op se dw sg sz rk tm M2) → (co_ok c ad M2 49 N vs2 (fun x y => nI (psum sg sz rk tm a x y))) → bj_S (bw_G l D c) Y_Of_without 8 (0, 0, 1, 6) ad (q_pub [xA, xI] (withR op sg sz rk tm N dw (nI a) x2 x3) (of_st c ad M N op se dw sg sz rk tm) (of_st c ad M N op se dw sg sz rk tm)) 0 0 66 [some (.ref (ad 0)), some (.int (nI a)), some (.int x2), some (.int x3)] [] M2 := by
        intro M2 vs2 hto hst2 hT
        obtain ⟨-, ⟨hO2, hd2, -, -, -⟩, hsc2⟩ := id hst2.1
        obtain ⟨f0, hA0⟩ := hsc2.2.1
        obtain ⟨lo0, co0, U0, V0, pn0, hL0⟩ := hsc2.2.2.2
        have hPb : ∀ x y, x < N → y < N → (fun x y => nI (psum sg sz rk tm a x y)) x y = nI ((psum sg sz rk tm a) x y) := fun _ _ _ _ => rfl
        have hpb : ∀ x y, x < N → y < N → (psum sg sz rk tm a) x y < 2 ^ 31 := fun x y _ _ => hA.pl a x y
        refine bj_iload_n d_Of_without_66 rfl rfl ?_
        refine bj_if_ne (tgt := 86) d_Of_without_67 (by decide) (fun h67 => ?_) (fun h67 => ?_)
        · refine bj_iload_n d_Of_without_86 rfl rfl ?_
          refine bj_iconst (v := (nI 1)) d_Of_without_87 (by decide) ?_
          refine bj_icmp_ne (tgt := 104) d_Of_without_88 (by decide) (fun h88 => ?_) (fun h88 => ?_)
          · refine bj_aload_n d_Of_without_104 rfl rfl ?_
            refine bj_get d_Of_without_105 in_Of rfl (by decide : 6 < 9) wf_Of_40 rfl hO2 rfl ?_
            refine bj_cvR sv_Of_191 d_Of_without_108 (t_Co_topSet l D c ad M2 hT hN hN1) rfl rfl (by decide) (by decide) (by decide) (Nat.le_of_ble_eq_true rfl) rfl hT.1 rfl rfl (fun v1 N1 hq1 => ?_)
            obtain ⟨c0, hc0, rfl, hmin, hM9⟩ := hq1
            show bj_S (bw_G l D c) Y_Of_without 8 (0, 0, 1, 6) ad (q_pub [xA, xI] (withR op sg sz rk tm N dw (nI a) x2 x3) (of_st c ad M N op se dw sg sz rk tm) (of_st c ad M N op se dw sg sz rk tm)) 0 0 111 [some (.ref (ad 0)), some (.int (nI a)), some (.int x2), some (.int x3)] [.int (bm (mt_of (nbt (fun x y => nI (psum sg sz rk tm a x y))) N c0) N)] N1
            rw [hM9]
            refine bj_iload_n d_Of_without_111 rfl rfl ?_
            refine bj_csF ss_Of_174 d_Of_without_112 (t_Of_member l D c ad M2) rfl rfl (by decide) (by decide) (by decide) (Nat.le_of_ble_eq_true rfl) rfl ?_
            refine bj_cs ss_Of_177 d_Of_without_115 (t_Of_needFound l D c ad M2 htr) rfl rfl (by decide) (by decide) (by decide) (Nat.le_of_ble_eq_true rfl) rfl (fun v2 N2 hq2 => ?_) (fun v2 N2 hq2 => ?_)
            rotate_left
            · obtain ⟨rfl, rfl, hfd⟩ := hq2
              exact bj_out (fun x hx => nomatch hx) (by decide) (by decide) ⟨2, by decide, rfl, Or.inr ⟨⟨h1, hto⟩, by rw [hcl]; exact ⟨fun q => absurd q h67, fun q => absurd q h88, fun _ => ⟨c0, hc0, hmin, Rf_n (by decide) hfd⟩⟩⟩, hst2⟩
            obtain ⟨rfl, rfl, hfd⟩ := hq2
            show bj_S (bw_G l D c) Y_Of_without 8 (0, 0, 1, 6) ad (q_pub [xA, xI] (withR op sg sz rk tm N dw (nI a) x2 x3) (of_st c ad M N op se dw sg sz rk tm) (of_st c ad M N op se dw sg sz rk tm)) 0 0 118 [some (.ref (ad 0)), some (.int (nI a)), some (.int x2), some (.int x3)] [.int (oI (ft (mem_q (bm (mt_of (nbt (fun x y => nI (psum sg sz rk tm a x y))) N c0) N) x3) 8))] M2
            exact bj_iret d_Of_without_118 rfl rfl (Nat.le_refl _) (Nat.le_refl _) ⟨Or.inr ⟨⟨h1, hto⟩, by rw [hcl]; exact ⟨fun q => absurd q h67, fun q => absurd q h88, fun _ => ⟨c0, hc0, hmin, Rf_0 hfd⟩⟩⟩, hst2⟩
          · refine bj_aload_n d_Of_without_91 rfl rfl ?_
            refine bj_aload_n d_Of_without_92 rfl rfl ?_
            refine bj_get d_Of_without_93 in_Of rfl (by decide : 6 < 9) wf_Of_40 rfl hO2 rfl ?_
            refine bj_iload_n d_Of_without_96 rfl rfl ?_
            refine bj_cvR sv_Of_187 d_Of_without_97 (t_Of_inOrder l D c ad M2 hO2 hN hT hPb hpb (by omega) hd2 hpm hL0) rfl rfl (by decide) (by decide) (by decide) (Nat.le_of_ble_eq_true rfl) rfl hO2 rfl rfl (fun v1 N1 hq1 => ?_)
            obtain ⟨hor, ⟨lo1, co1, U1, V1, pn1, hL1⟩, hfl⟩ := hq1
            obtain ⟨z, hvz⟩ := ord_int hor
            have hst := hst2.tr (hst2.1.lks hL1 hfl)
            have hvz2 := hvz
            subst hvz2
            show bj_S (bw_G l D c) Y_Of_without 8 (0, 0, 1, 6) ad (q_pub [xA, xI] (withR op sg sz rk tm N dw (nI a) x2 x3) (of_st c ad M N op se dw sg sz rk tm) (of_st c ad M N op se dw sg sz rk tm)) 0 0 100 [some (.ref (ad 0)), some (.int (nI a)), some (.int x2), some (.int x3)] [.int z] N1
            refine bj_cs ss_Of_177 d_Of_without_100 (t_Of_needFound l D c ad N1 htr) rfl rfl (by decide) (by decide) (by decide) (Nat.le_of_ble_eq_true rfl) rfl (fun v2 N2 hq2 => ?_) (fun v2 N2 hq2 => ?_)
            rotate_left
            · obtain ⟨rfl, rfl, hfd⟩ := hq2
              exact bj_out (fun x hx => nomatch hx) (by decide) (by decide) ⟨2, by decide, rfl, Or.inr ⟨⟨h1, hto⟩, by rw [hcl]; exact ⟨fun q => absurd q h67, fun _ => ord_n hN hor rfl hfd, fun q => absurd (h88 ▸ q : nI 1 = nI 2) (by decide)⟩⟩, hst⟩
            obtain ⟨rfl, rfl, hfd⟩ := hq2
            show bj_S (bw_G l D c) Y_Of_without 8 (0, 0, 1, 6) ad (q_pub [xA, xI] (withR op sg sz rk tm N dw (nI a) x2 x3) (of_st c ad M N op se dw sg sz rk tm) (of_st c ad M N op se dw sg sz rk tm)) 0 0 103 [some (.ref (ad 0)), some (.int (nI a)), some (.int x2), some (.int x3)] [.int z] N1
            exact bj_iret d_Of_without_103 rfl rfl (Nat.le_refl _) (Nat.le_refl _) ⟨Or.inr ⟨⟨h1, hto⟩, by rw [hcl]; exact ⟨fun q => absurd q h67, fun _ => ord_0 hor rfl hfd, fun q => absurd (h88 ▸ q : nI 1 = nI 2) (by decide)⟩⟩, hst⟩
        · refine bj_aload_n d_Of_without_70 rfl rfl ?_
          refine bj_aload_n d_Of_without_71 rfl rfl ?_
          refine bj_get d_Of_without_72 in_Of rfl (by decide : 6 < 9) wf_Of_40 rfl hO2 rfl ?_
          refine bj_cvR sv_Of_170 d_Of_without_75 (t_Of_winnerSet l D c ad M2 hO2 hN hT hPb hpb (by omega) hA0) rfl rfl (by decide) (by decide) (by decide) (Nat.le_of_ble_eq_true rfl) rfl hO2 rfl rfl (fun v1 N1 hq1 => ?_)
          obtain ⟨rfl, hA1, hf1⟩ := hq1
          show bj_S (bw_G l D c) Y_Of_without 8 (0, 0, 1, 6) ad (q_pub [xA, xI] (withR op sg sz rk tm N dw (nI a) x2 x3) (of_st c ad M N op se dw sg sz rk tm) (of_st c ad M N op se dw sg sz rk tm)) 0 0 78 [some (.ref (ad 0)), some (.int (nI a)), some (.int x2), some (.int x3)] [.int (winb (psum sg sz rk tm a) N)] N1
          have hst := hst2.tr (hst2.1.ps hA1 hf1)
          refine bj_iload_n d_Of_without_78 rfl rfl ?_
          refine bj_csF ss_Of_174 d_Of_without_79 (t_Of_member l D c ad N1) rfl rfl (by decide) (by decide) (by decide) (Nat.le_of_ble_eq_true rfl) rfl ?_
          refine bj_cs ss_Of_177 d_Of_without_82 (t_Of_needFound l D c ad N1 htr) rfl rfl (by decide) (by decide) (by decide) (Nat.le_of_ble_eq_true rfl) rfl (fun v2 N2 hq2 => ?_) (fun v2 N2 hq2 => ?_)
          rotate_left
          · obtain ⟨rfl, rfl, hfd⟩ := hq2
            exact bj_out (fun x hx => nomatch hx) (by decide) (by decide) ⟨2, by decide, rfl, Or.inr ⟨⟨h1, hto⟩, by rw [hcl]; exact ⟨fun _ => Rf_n (by decide) hfd, fun q => absurd (h67 ▸ q : (0 : Int32) = nI 1) (by decide), fun q => absurd (h67 ▸ q : (0 : Int32) = nI 2) (by decide)⟩⟩, hst⟩
          obtain ⟨rfl, rfl, hfd⟩ := hq2
          show bj_S (bw_G l D c) Y_Of_without 8 (0, 0, 1, 6) ad (q_pub [xA, xI] (withR op sg sz rk tm N dw (nI a) x2 x3) (of_st c ad M N op se dw sg sz rk tm) (of_st c ad M N op se dw sg sz rk tm)) 0 0 85 [some (.ref (ad 0)), some (.int (nI a)), some (.int x2), some (.int x3)] [.int (oI (ft (mem_q (winb (psum sg sz rk tm a) N) x3) 8))] N1
          exact bj_iret d_Of_without_85 rfl rfl (Nat.le_refl _) (Nat.le_refl _) ⟨Or.inr ⟨⟨h1, hto⟩, by rw [hcl]; exact ⟨fun _ => Rf_0 hfd, fun q => absurd (h67 ▸ q : (0 : Int32) = nI 1) (by decide), fun q => absurd (h67 ▸ q : (0 : Int32) = nI 2) (by decide)⟩⟩, hst⟩
      have hto : x2 = 0 ∨ x2 = nI 1 ∨ x2 = nI 2 := by first | exact Or.inl h6 | exact Or.inr (Or.inl h11) | exact Or.inr (Or.inr h16)
      obtain ⟨vs0, P0, hT0⟩ := hsc.1
      refine bj_aload_n d_Of_without_29 rfl rfl ?_
      refine bj_get d_Of_without_30 in_Of rfl (by decide : 6 < 9) wf_Of_40 rfl hO rfl ?_
      refine bj_aload_n d_Of_without_33 rfl rfl ?_
      refine bj_get d_Of_without_34 in_Of rfl (by decide : 5 < 9) wf_Of_36 rfl hO rfl ?_
      refine bj_cvR sv_Of_197 d_Of_without_37 (t_Co_copy l D c ad M hT0 hC hN (by omega)) rfl rfl (by decide) (by decide) (by decide) (Nat.le_of_ble_eq_true rfl) rfl hT0.1 rfl rfl (fun v2 N2 hq2 => ?_)
      obtain ⟨rfl, hT2, hf2⟩ := hq2
      show bj_S (bw_G l D c) Y_Of_without 8 (0, 0, 1, 6) ad (q_pub [xA, xI] (withR op sg sz rk tm N dw (nI a) x2 x3) (of_st c ad M N op se dw sg sz rk tm) (of_st c ad M N op se dw sg sz rk tm)) 0 0 40 [some (.ref (ad 0)), some (.int (nI a)), some (.int x2), some (.int x3)] [] N2
      have hst1 : of_st c ad M N op se dw sg sz rk tm N2 := ⟨hA.in (fun q hq => hf2 q (by omega)) (hsc.trial hN hT2 hf2), fun q hq => hf2 q (by omega)⟩
      obtain ⟨-, ⟨hO1, -, hB1, hb1, -⟩, -⟩ := id hst1.1
      have hBa1 := hb1 a (by omega)
      refine bj_aload_n d_Of_without_40 rfl rfl ?_
      refine bj_get d_Of_without_41 in_Of rfl (by decide : 2 < 9) wf_Of_19 rfl hO1 rfl ?_
      refine bj_iload_n d_Of_without_44 rfl rfl ?_
      refine bv_aald d_Of_without_45 3 rfl rfl hB1 (by omega) (by omega) ?_
      refine bj_getN d_Of_without_46 in_Ba rfl (by decide : 0 < 4) wf_Of_96 rfl hBa1.1 rfl ?_
      refine bj_iconst (v := (nI 1)) d_Of_without_49 (by decide) ?_
      refine bj_icmp_neN (tgt := 66) d_Of_without_50 (by decide) (by omega) (by omega) (fun h50 => ?_) (fun h50 => ?_)
      · exact k66 N2 _ hto hst1 (hT2.to (fun x y _ _ => by rw [psum_same h50]))
      · refine bj_aload_n d_Of_without_53 rfl rfl ?_
        refine bj_get d_Of_without_54 in_Of rfl (by decide : 6 < 9) wf_Of_40 rfl hO1 rfl ?_
        refine bj_aload_n d_Of_without_57 rfl rfl ?_
        refine bj_get d_Of_without_58 in_Of rfl (by decide : 2 < 9) wf_Of_19 rfl hO1 rfl ?_
        refine bj_iload_n d_Of_without_61 rfl rfl ?_
        refine bv_aald d_Of_without_62 3 rfl rfl hB1 (by omega) (by omega) ?_
        refine bj_cvR sv_Of_116 d_Of_without_63 (t_Co_takeOut l D c ad N2 hT2 hN hBa1 hba.2.1 (by omega) (by omega) (by omega)) rfl rfl (by decide) (by decide) (by decide) (Nat.le_of_ble_eq_true rfl) rfl hT2.1 rfl rfl (fun v3 N3 hq3 => ?_)
        obtain ⟨rfl, hT3, hf3⟩ := hq3
        show bj_S (bw_G l D c) Y_Of_without 8 (0, 0, 1, 6) ad (q_pub [xA, xI] (withR op sg sz rk tm N dw (nI a) x2 x3) (of_st c ad M N op se dw sg sz rk tm) (of_st c ad M N op se dw sg sz rk tm)) 0 0 66 [some (.ref (ad 0)), some (.int (nI a)), some (.int x2), some (.int x3)] [] N3
        exact k66 N3 _ hto (hst1.tr ⟨hst1.1.in (fun q hq => hf3 q (by omega)) (hst1.1.2.2.trial hN hT3 hf3), fun q hq => hf3 q (by omega)⟩) (hT3.to (fun x y _ _ => by rw [co_sum_m]; exact nI_mi (psum_but (by omega) h50)))
    · refine bj_iload_n d_Of_without_14 rfl rfl ?_
      refine bj_iconst (v := (nI 2)) d_Of_without_15 (by decide) ?_
      refine bj_icmp_eq (tgt := 29) d_Of_without_16 (by decide) (fun h16 => ?_) (fun h16 => ?_)
      · have k66 : ∀ (M2 : bj_M) (vs2 : Int32), (x2 = 0 ∨ x2 = nI 1 ∨ x2 = nI 2) → (of_st c ad M N op se dw sg sz rk tm M2) → (co_ok c ad M2 49 N vs2 (fun x y => nI (psum sg sz rk tm a x y))) → bj_S (bw_G l D c) Y_Of_without 8 (0, 0, 1, 6) ad (q_pub [xA, xI] (withR op sg sz rk tm N dw (nI a) x2 x3) (of_st c ad M N op se dw sg sz rk tm) (of_st c ad M N op se dw sg sz rk tm)) 0 0 66 [some (.ref (ad 0)), some (.int (nI a)), some (.int x2), some (.int x3)] [] M2 := by
          intro M2 vs2 hto hst2 hT
          obtain ⟨-, ⟨hO2, hd2, -, -, -⟩, hsc2⟩ := id hst2.1
          obtain ⟨f0, hA0⟩ := hsc2.2.1
          obtain ⟨lo0, co0, U0, V0, pn0, hL0⟩ := hsc2.2.2.2
          have hPb : ∀ x y, x < N → y < N → (fun x y => nI (psum sg sz rk tm a x y)) x y = nI ((psum sg sz rk tm a) x y) := fun _ _ _ _ => rfl
          have hpb : ∀ x y, x < N → y < N → (psum sg sz rk tm a) x y < 2 ^ 31 := fun x y _ _ => hA.pl a x y
          refine bj_iload_n d_Of_without_66 rfl rfl ?_
          refine bj_if_ne (tgt := 86) d_Of_without_67 (by decide) (fun h67 => ?_) (fun h67 => ?_)
          · refine bj_iload_n d_Of_without_86 rfl rfl ?_
            refine bj_iconst (v := (nI 1)) d_Of_without_87 (by decide) ?_
            refine bj_icmp_ne (tgt := 104) d_Of_without_88 (by decide) (fun h88 => ?_) (fun h88 => ?_)
            · refine bj_aload_n d_Of_without_104 rfl rfl ?_
              refine bj_get d_Of_without_105 in_Of rfl (by decide : 6 < 9) wf_Of_40 rfl hO2 rfl ?_
              refine bj_cvR sv_Of_191 d_Of_without_108 (t_Co_topSet l D c ad M2 hT hN hN1) rfl rfl (by decide) (by decide) (by decide) (Nat.le_of_ble_eq_true rfl) rfl hT.1 rfl rfl (fun v1 N1 hq1 => ?_)
              obtain ⟨c0, hc0, rfl, hmin, hM9⟩ := hq1
              show bj_S (bw_G l D c) Y_Of_without 8 (0, 0, 1, 6) ad (q_pub [xA, xI] (withR op sg sz rk tm N dw (nI a) x2 x3) (of_st c ad M N op se dw sg sz rk tm) (of_st c ad M N op se dw sg sz rk tm)) 0 0 111 [some (.ref (ad 0)), some (.int (nI a)), some (.int x2), some (.int x3)] [.int (bm (mt_of (nbt (fun x y => nI (psum sg sz rk tm a x y))) N c0) N)] N1
              rw [hM9]
              refine bj_iload_n d_Of_without_111 rfl rfl ?_
              refine bj_csF ss_Of_174 d_Of_without_112 (t_Of_member l D c ad M2) rfl rfl (by decide) (by decide) (by decide) (Nat.le_of_ble_eq_true rfl) rfl ?_
              refine bj_cs ss_Of_177 d_Of_without_115 (t_Of_needFound l D c ad M2 htr) rfl rfl (by decide) (by decide) (by decide) (Nat.le_of_ble_eq_true rfl) rfl (fun v2 N2 hq2 => ?_) (fun v2 N2 hq2 => ?_)
              rotate_left
              · obtain ⟨rfl, rfl, hfd⟩ := hq2
                exact bj_out (fun x hx => nomatch hx) (by decide) (by decide) ⟨2, by decide, rfl, Or.inr ⟨⟨h1, hto⟩, by rw [hcl]; exact ⟨fun q => absurd q h67, fun q => absurd q h88, fun _ => ⟨c0, hc0, hmin, Rf_n (by decide) hfd⟩⟩⟩, hst2⟩
              obtain ⟨rfl, rfl, hfd⟩ := hq2
              show bj_S (bw_G l D c) Y_Of_without 8 (0, 0, 1, 6) ad (q_pub [xA, xI] (withR op sg sz rk tm N dw (nI a) x2 x3) (of_st c ad M N op se dw sg sz rk tm) (of_st c ad M N op se dw sg sz rk tm)) 0 0 118 [some (.ref (ad 0)), some (.int (nI a)), some (.int x2), some (.int x3)] [.int (oI (ft (mem_q (bm (mt_of (nbt (fun x y => nI (psum sg sz rk tm a x y))) N c0) N) x3) 8))] M2
              exact bj_iret d_Of_without_118 rfl rfl (Nat.le_refl _) (Nat.le_refl _) ⟨Or.inr ⟨⟨h1, hto⟩, by rw [hcl]; exact ⟨fun q => absurd q h67, fun q => absurd q h88, fun _ => ⟨c0, hc0, hmin, Rf_0 hfd⟩⟩⟩, hst2⟩
            · refine bj_aload_n d_Of_without_91 rfl rfl ?_
              refine bj_aload_n d_Of_without_92 rfl rfl ?_
              refine bj_get d_Of_without_93 in_Of rfl (by decide : 6 < 9) wf_Of_40 rfl hO2 rfl ?_
              refine bj_iload_n d_Of_without_96 rfl rfl ?_
              refine bj_cvR sv_Of_187 d_Of_without_97 (t_Of_inOrder l D c ad M2 hO2 hN hT hPb hpb (by omega) hd2 hpm hL0) rfl rfl (by decide) (by decide) (by decide) (Nat.le_of_ble_eq_true rfl) rfl hO2 rfl rfl (fun v1 N1 hq1 => ?_)
              obtain ⟨hor, ⟨lo1, co1, U1, V1, pn1, hL1⟩, hfl⟩ := hq1
              obtain ⟨z, hvz⟩ := ord_int hor
              have hst := hst2.tr (hst2.1.lks hL1 hfl)
              have hvz2 := hvz
              subst hvz2
              show bj_S (bw_G l D c) Y_Of_without 8 (0, 0, 1, 6) ad (q_pub [xA, xI] (withR op sg sz rk tm N dw (nI a) x2 x3) (of_st c ad M N op se dw sg sz rk tm) (of_st c ad M N op se dw sg sz rk tm)) 0 0 100 [some (.ref (ad 0)), some (.int (nI a)), some (.int x2), some (.int x3)] [.int z] N1
              refine bj_cs ss_Of_177 d_Of_without_100 (t_Of_needFound l D c ad N1 htr) rfl rfl (by decide) (by decide) (by decide) (Nat.le_of_ble_eq_true rfl) rfl (fun v2 N2 hq2 => ?_) (fun v2 N2 hq2 => ?_)
              rotate_left
              · obtain ⟨rfl, rfl, hfd⟩ := hq2
                exact bj_out (fun x hx => nomatch hx) (by decide) (by decide) ⟨2, by decide, rfl, Or.inr ⟨⟨h1, hto⟩, by rw [hcl]; exact ⟨fun q => absurd q h67, fun _ => ord_n hN hor rfl hfd, fun q => absurd (h88 ▸ q : nI 1 = nI 2) (by decide)⟩⟩, hst⟩
              obtain ⟨rfl, rfl, hfd⟩ := hq2
              show bj_S (bw_G l D c) Y_Of_without 8 (0, 0, 1, 6) ad (q_pub [xA, xI] (withR op sg sz rk tm N dw (nI a) x2 x3) (of_st c ad M N op se dw sg sz rk tm) (of_st c ad M N op se dw sg sz rk tm)) 0 0 103 [some (.ref (ad 0)), some (.int (nI a)), some (.int x2), some (.int x3)] [.int z] N1
              exact bj_iret d_Of_without_103 rfl rfl (Nat.le_refl _) (Nat.le_refl _) ⟨Or.inr ⟨⟨h1, hto⟩, by rw [hcl]; exact ⟨fun q => absurd q h67, fun _ => ord_0 hor rfl hfd, fun q => absurd (h88 ▸ q : nI 1 = nI 2) (by decide)⟩⟩, hst⟩
          · refine bj_aload_n d_Of_without_70 rfl rfl ?_
            refine bj_aload_n d_Of_without_71 rfl rfl ?_
            refine bj_get d_Of_without_72 in_Of rfl (by decide : 6 < 9) wf_Of_40 rfl hO2 rfl ?_
            refine bj_cvR sv_Of_170 d_Of_without_75 (t_Of_winnerSet l D c ad M2 hO2 hN hT hPb hpb (by omega) hA0) rfl rfl (by decide) (by decide) (by decide) (Nat.le_of_ble_eq_true rfl) rfl hO2 rfl rfl (fun v1 N1 hq1 => ?_)
            obtain ⟨rfl, hA1, hf1⟩ := hq1
            show bj_S (bw_G l D c) Y_Of_without 8 (0, 0, 1, 6) ad (q_pub [xA, xI] (withR op sg sz rk tm N dw (nI a) x2 x3) (of_st c ad M N op se dw sg sz rk tm) (of_st c ad M N op se dw sg sz rk tm)) 0 0 78 [some (.ref (ad 0)), some (.int (nI a)), some (.int x2), some (.int x3)] [.int (winb (psum sg sz rk tm a) N)] N1
            have hst := hst2.tr (hst2.1.ps hA1 hf1)
            refine bj_iload_n d_Of_without_78 rfl rfl ?_
            refine bj_csF ss_Of_174 d_Of_without_79 (t_Of_member l D c ad N1) rfl rfl (by decide) (by decide) (by decide) (Nat.le_of_ble_eq_true rfl) rfl ?_
            refine bj_cs ss_Of_177 d_Of_without_82 (t_Of_needFound l D c ad N1 htr) rfl rfl (by decide) (by decide) (by decide) (Nat.le_of_ble_eq_true rfl) rfl (fun v2 N2 hq2 => ?_) (fun v2 N2 hq2 => ?_)
            rotate_left
            · obtain ⟨rfl, rfl, hfd⟩ := hq2
              exact bj_out (fun x hx => nomatch hx) (by decide) (by decide) ⟨2, by decide, rfl, Or.inr ⟨⟨h1, hto⟩, by rw [hcl]; exact ⟨fun _ => Rf_n (by decide) hfd, fun q => absurd (h67 ▸ q : (0 : Int32) = nI 1) (by decide), fun q => absurd (h67 ▸ q : (0 : Int32) = nI 2) (by decide)⟩⟩, hst⟩
            obtain ⟨rfl, rfl, hfd⟩ := hq2
            show bj_S (bw_G l D c) Y_Of_without 8 (0, 0, 1, 6) ad (q_pub [xA, xI] (withR op sg sz rk tm N dw (nI a) x2 x3) (of_st c ad M N op se dw sg sz rk tm) (of_st c ad M N op se dw sg sz rk tm)) 0 0 85 [some (.ref (ad 0)), some (.int (nI a)), some (.int x2), some (.int x3)] [.int (oI (ft (mem_q (winb (psum sg sz rk tm a) N) x3) 8))] N1
            exact bj_iret d_Of_without_85 rfl rfl (Nat.le_refl _) (Nat.le_refl _) ⟨Or.inr ⟨⟨h1, hto⟩, by rw [hcl]; exact ⟨fun _ => Rf_0 hfd, fun q => absurd (h67 ▸ q : (0 : Int32) = nI 1) (by decide), fun q => absurd (h67 ▸ q : (0 : Int32) = nI 2) (by decide)⟩⟩, hst⟩
        have hto : x2 = 0 ∨ x2 = nI 1 ∨ x2 = nI 2 := by first | exact Or.inl h6 | exact Or.inr (Or.inl h11) | exact Or.inr (Or.inr h16)
        obtain ⟨vs0, P0, hT0⟩ := hsc.1
        refine bj_aload_n d_Of_without_29 rfl rfl ?_
        refine bj_get d_Of_without_30 in_Of rfl (by decide : 6 < 9) wf_Of_40 rfl hO rfl ?_
        refine bj_aload_n d_Of_without_33 rfl rfl ?_
        refine bj_get d_Of_without_34 in_Of rfl (by decide : 5 < 9) wf_Of_36 rfl hO rfl ?_
        refine bj_cvR sv_Of_197 d_Of_without_37 (t_Co_copy l D c ad M hT0 hC hN (by omega)) rfl rfl (by decide) (by decide) (by decide) (Nat.le_of_ble_eq_true rfl) rfl hT0.1 rfl rfl (fun v2 N2 hq2 => ?_)
        obtain ⟨rfl, hT2, hf2⟩ := hq2
        show bj_S (bw_G l D c) Y_Of_without 8 (0, 0, 1, 6) ad (q_pub [xA, xI] (withR op sg sz rk tm N dw (nI a) x2 x3) (of_st c ad M N op se dw sg sz rk tm) (of_st c ad M N op se dw sg sz rk tm)) 0 0 40 [some (.ref (ad 0)), some (.int (nI a)), some (.int x2), some (.int x3)] [] N2
        have hst1 : of_st c ad M N op se dw sg sz rk tm N2 := ⟨hA.in (fun q hq => hf2 q (by omega)) (hsc.trial hN hT2 hf2), fun q hq => hf2 q (by omega)⟩
        obtain ⟨-, ⟨hO1, -, hB1, hb1, -⟩, -⟩ := id hst1.1
        have hBa1 := hb1 a (by omega)
        refine bj_aload_n d_Of_without_40 rfl rfl ?_
        refine bj_get d_Of_without_41 in_Of rfl (by decide : 2 < 9) wf_Of_19 rfl hO1 rfl ?_
        refine bj_iload_n d_Of_without_44 rfl rfl ?_
        refine bv_aald d_Of_without_45 3 rfl rfl hB1 (by omega) (by omega) ?_
        refine bj_getN d_Of_without_46 in_Ba rfl (by decide : 0 < 4) wf_Of_96 rfl hBa1.1 rfl ?_
        refine bj_iconst (v := (nI 1)) d_Of_without_49 (by decide) ?_
        refine bj_icmp_neN (tgt := 66) d_Of_without_50 (by decide) (by omega) (by omega) (fun h50 => ?_) (fun h50 => ?_)
        · exact k66 N2 _ hto hst1 (hT2.to (fun x y _ _ => by rw [psum_same h50]))
        · refine bj_aload_n d_Of_without_53 rfl rfl ?_
          refine bj_get d_Of_without_54 in_Of rfl (by decide : 6 < 9) wf_Of_40 rfl hO1 rfl ?_
          refine bj_aload_n d_Of_without_57 rfl rfl ?_
          refine bj_get d_Of_without_58 in_Of rfl (by decide : 2 < 9) wf_Of_19 rfl hO1 rfl ?_
          refine bj_iload_n d_Of_without_61 rfl rfl ?_
          refine bv_aald d_Of_without_62 3 rfl rfl hB1 (by omega) (by omega) ?_
          refine bj_cvR sv_Of_116 d_Of_without_63 (t_Co_takeOut l D c ad N2 hT2 hN hBa1 hba.2.1 (by omega) (by omega) (by omega)) rfl rfl (by decide) (by decide) (by decide) (Nat.le_of_ble_eq_true rfl) rfl hT2.1 rfl rfl (fun v3 N3 hq3 => ?_)
          obtain ⟨rfl, hT3, hf3⟩ := hq3
          show bj_S (bw_G l D c) Y_Of_without 8 (0, 0, 1, 6) ad (q_pub [xA, xI] (withR op sg sz rk tm N dw (nI a) x2 x3) (of_st c ad M N op se dw sg sz rk tm) (of_st c ad M N op se dw sg sz rk tm)) 0 0 66 [some (.ref (ad 0)), some (.int (nI a)), some (.int x2), some (.int x3)] [] N3
          exact k66 N3 _ hto (hst1.tr ⟨hst1.1.in (fun q hq => hf3 q (by omega)) (hst1.1.2.2.trial hN hT3 hf3), fun q hq => hf3 q (by omega)⟩) (hT3.to (fun x y _ _ => by rw [co_sum_m]; exact nI_mi (psum_but (by omega) h50)))
      · exact bj_throw (names := xN) d_Of_without_19 d_Of_without_22 d_Of_without_23 d_Of_without_25 d_Of_without_28 htr (by decide) (by decide) (by decide) (by decide) wc_Of_64 wi_IllegalArgumentException wt_Of_195 wo_Of_68 (fun x hx => nomatch hx) (by decide) (by decide) (Nat.le_of_ble_eq_true rfl) ⟨1, by decide, rfl, Or.inl ⟨fun q => q.2.elim h6 (fun q => q.elim h11 h16), rfl, rfl⟩, ⟨hA, of_fr.rf⟩⟩
end O6
