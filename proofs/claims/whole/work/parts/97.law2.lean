/-! the law's body: its start, its loop (walks by gen/m_law2.py) -/
section LX

theorem and31 (x : Int32) : ∃ k, k < 32 ∧ x &&& nI 31 = nI k := by
  have h : (x &&& nI 31).toBitVec.toNat ≤ 31 := by
    rw [Int32.toBitVec_and, BitVec.toNat_and]
    exact Nat.and_le_right
  refine ⟨(x &&& nI 31).toBitVec.toNat, by omega, ?_⟩
  apply Int32.toBitVec_inj.mp
  show _ = BitVec.ofNat 32 _
  rw [BitVec.ofNat_toNat, BitVec.setWidth_eq]
theorem lw_sub {N i : Nat} (h : N < 6) (hi : i < 2 ^ 31) : nI N - nI 6 < nI i := by
  have h1 : nI N - nI 6 < nI 0 := by
    have : N = 0 ∨ N = 1 ∨ N = 2 ∨ N = 3 ∨ N = 4 ∨ N = 5 := by omega
    rcases this with rfl | rfl | rfl | rfl | rfl | rfl <;> decide
  exact Int32.lt_of_lt_of_le h1 ((nI_leI (by decide) hi).mpr (Nat.zero_le _))
theorem nI_18 {k : Nat} (h : k < 32) (h9 : 19 ≤ k) : 18 < (nI k).toInt := by
  rw [show (nI k).toInt = (k : Int) from Int32.toInt_ofNat_small (by omega)]
  omega
theorem nI_inc6 (i : Nat) : nI i + Int32.ofInt 6 = nI (i + 6) := by rw [show Int32.ofInt 6 = nI 6 from by decide, nI_add]
theorem hfs_Of : ∀ j, j < 9 → defaultValue (ty_Of j) = vp_V [.int (nI 0), .null, .null, .int (nI 0), .int (nI 0), .null, .null, .null, .null] j := fun j hj => match j, hj with
  | 0, _ => rfl | 1, _ => rfl | 2, _ => rfl | 3, _ => rfl | 4, _ => rfl | 5, _ => rfl | 6, _ => rfl | 7, _ => rfl | 8, _ => rfl
theorem hfs_Mo : ∀ j, j < 17 → defaultValue (ty_Mo j) = vp_V [.int (nI 0), .int (nI 0), .int (nI 0), .null, .int (nI 0), .null, .null, .null, .null, .null, .null, .null, .null, .null, .null, .int (nI 0), .null] j := fun j hj => match j, hj with
  | 0, _ => rfl | 1, _ => rfl | 2, _ => rfl | 3, _ => rfl | 4, _ => rfl | 5, _ => rfl | 6, _ => rfl | 7, _ => rfl | 8, _ => rfl | 9, _ => rfl | 10, _ => rfl | 11, _ => rfl | 12, _ => rfl | 13, _ => rfl | 14, _ => rfl | 15, _ => rfl | 16, _ => rfl | _ + 17, h => absurd h (by omega)
theorem arrV_zeroL (cA : ClassId) (N : Nat) : vp_cell cA (N, .inr (.inl (fun _ => 0))) = arrV cA N (fun _ => defaultValue (newarray.typeOf .long)) := rfl
section RE
variable {c : Nat → ClassId} {ad ad' : Nat → Nat} {M M' : bj_M} {N op : Nat} {se : Bool} {dw sg sz : Nat → Nat} {rk : Nat → Nat → Int32} {tm : Nat → Nat → Nat}
theorem bv_R.re {cA : ClassId} {k n : Nat} {g g' : Nat → Nat} (h : bv_R cA M k n g) (e : M' k = M k) (hg : ∀ i, i < n → g' i = g i) : bv_R cA M' k n g' := by
  obtain ⟨f, h1, h2⟩ := h
  exact ⟨f, e.trans h1, fun j hj => (h2 j hj).trans (by rw [hg j hj])⟩
theorem co_ok.re {k : Nat} {vs : Int32} {P : Nat → Nat → Int32} (h : co_ok c ad M k N vs P) (hN : N ≤ 8) (hk : k + 10 ≤ 76) (ha : ∀ x, x < 76 → ad' x = ad x) (e : ∀ x, x < 76 → M' x = M x) : co_ok c ad' M' k N vs P := by
  refine ⟨?_, h.2.1.re (e _ (by omega)) (fun i hi => ha _ (by omega)), fun a hx => (h.2.2 a hx).in (e _ (by omega))⟩
  rw [e k (by omega), ha (k + 1) (by omega)]; exact h.1
theorem of_all.re (h : of_all c ad M N op se dw sg sz rk tm) (ha : ∀ x, x < 76 → ad' x = ad x) (e : ∀ x, x < 76 → M' x = M x) : of_all c ad' M' N op se dw sg sz rk tm := by
  obtain ⟨hiv, ⟨h1, h2, h3, h4, h5⟩, ⟨⟨vs, P, s1⟩, ⟨f, s2⟩, ⟨g, s3⟩, lo, co, U, V, pn, s4⟩⟩ := h
  have hN := hiv.2.1
  refine ⟨hiv, ⟨?_, h2.in (e 1 (by omega)), h3.re (e 2 (by omega)) (fun i hi => ha _ (by omega)), fun b hb => ⟨?_, (h4 b hb).2.1.in (e _ (by omega)), (h4 b hb).2.2.in (e _ (by omega))⟩, h5.re hN (by omega) ha e⟩, ⟨⟨vs, P, s1.re hN (by omega) ha e⟩, ⟨f, ?_, s2.2.1.re (e _ (by omega)) (fun i hi => ha _ (by omega)), fun a hx => (s2.2.2.1 a hx).in (e _ (by omega)), s2.2.2.2⟩, ⟨g, s3.in (e 69 (by omega))⟩, lo, co, U, V, pn, ?_, s4.2.1.in (e _ (by omega)), s4.2.2.1.in (e _ (by omega)), s4.2.2.2.1.in (e _ (by omega)), s4.2.2.2.2.in (e _ (by omega))⟩⟩
  · rw [e 0 (by omega), h1]
    unfold of_F
    rw [ha 1 (by omega), ha 2 (by omega), ha 39 (by omega), ha 49 (by omega), ha 59 (by omega), ha 70 (by omega)]
  · rw [e (3 + b) (by omega), ha (15 + b) (by omega), ha (27 + b) (by omega)]; exact (h4 b hb).1
  · rw [e 59 (by omega), ha (59 + 1) (by omega), ha (59 + 10) (by omega)]; exact s2.1
  · rw [e 70 (by omega), ha (70 + 1) (by omega), ha (70 + 2) (by omega), ha (70 + 3) (by omega), ha (70 + 4) (by omega)]; exact s4.1
theorem mo_all.re {cd : Int32} (h : mo_all c ad M N cd se op dw sg sz rk tm) (ha : ∀ x, 80 ≤ x → x < 93 → ad' x = ad x) (e : ∀ x, 80 ≤ x → x < 93 → M' x = M x) : mo_all c ad' M' N cd se op dw sg sz rk tm := by
  obtain ⟨⟨li, h1⟩, h2⟩ := h.kp e
  refine ⟨⟨li, ?_, h1.2⟩, h2⟩
  rw [h1.1]
  unfold mo_F
  rw [ha 81 (by omega) (by omega), ha 82 (by omega) (by omega), ha 83 (by omega) (by omega), ha 84 (by omega) (by omega), ha 85 (by omega) (by omega), ha 86 (by omega) (by omega), ha 87 (by omega) (by omega), ha 88 (by omega) (by omega), ha 89 (by omega) (by omega), ha 90 (by omega) (by omega), ha 91 (by omega) (by omega), ha 92 (by omega) (by omega)]
end RE
/-- the law's addresses -/
def la_ad (a1 a2 : Nat → Nat) (q : Nat) (k : Nat) : Nat := if k < 76 then a1 k else if k < 93 then a2 k else q
def la_D (N k : Nat) : Bool := (decide (k < 76) && of_D N k) || (mo_D k || decide (k = 93))
theorem la_Dl {N k : Nat} (h : k < 76) : la_D N k = of_D N k := by
  unfold la_D mo_D
  rw [decide_eq_true h, decide_eq_false (by omega), decide_eq_false (by omega)]
  simp
/-- the steady picture out of what the two constructors left -/
theorem la_new {c : Nat → ClassId} {P1 P2 P3 : bj_M} {q0 q1 q2 N : Nat} {a1 a2 : Nat → Nat} {y : va_E} (e0 : a1 0 = q0) (n1 : nu a1 (fun k => of_D N k = true) P1) (O : of_all c a1 (pic (of_D N) a1 P1) N 0 false (fun i => i) (fun _ => 0) (fun _ => 0) (fun _ _ => 0) (fun _ _ => 0)) (hq1 : P1 q1 = none)
    (e80 : a2 80 = q1) (n2 : nu a2 (fun k => mo_D k = true) P2) (f2 : ∀ k, 80 < k → k < 93 → va_up P1 q1 (some y) (a2 k) = none) (Mo : mo_all c a2 (pic mo_D a2 P2) N (nI 0) false 0 (fun i => i) (fun _ => 0) (fun _ => 0) (fun _ _ => 0) (fun _ _ => 0)) (x2 : ex_k q1 (va_up P1 q1 (some y)) P2)
    (hq2 : P2 q2 = none) (w3 : P3 q2 = some (.inl (c 2, 1, .inr (.inl (fun _ => 0))))) (x3 : ∀ x, x ≠ q2 → P3 x = P2 x) :
    nu (la_ad a1 a2 q2) (fun k => la_D N k = true) P3 ∧ lw_in c (la_ad a1 a2 q2) (pic (la_D N) (la_ad a1 a2 q2) P3) := by
  have l1 : ∀ k, k < 76 → la_ad a1 a2 q2 k = a1 k := fun k hk => if_pos hk
  have l2 : ∀ k, 80 ≤ k → k < 93 → la_ad a1 a2 q2 k = a2 k := fun k k1 k2 => by
    unfold la_ad
    rw [if_neg (by omega), if_pos k2]
  have l3 : la_ad a1 a2 q2 93 = q2 := by
    unfold la_ad
    rw [if_neg (by omega), if_neg (by omega)]
  have u1 : ∀ x, P1 x ≠ none → x ≠ q1 := fun x hx e => hx (by rw [e]; exact hq1)
  have k12 : ∀ x, P1 x ≠ none → P2 x = P1 x := fun x hx => by
    have h := x2.2 x (by rw [va_up_ne _ _ (u1 x hx)]; exact hx) (u1 x hx)
    rw [h, va_up_ne _ _ (u1 x hx)]
  have k23 : ∀ x, P2 x ≠ none → P3 x = P2 x := fun x hx => x3 x (fun e => hx (by rw [e]; exact hq2))
  have fr : ∀ k, mo_D k = true → P1 (a2 k) = none := fun k hk => by
    have h := of_decide_eq_true hk
    by_cases e : k = 80
    · rw [e, e80]; exact hq1
    · have h1 := f2 k (by omega) h.2
      have h2 : a2 k ≠ q1 := fun z => by rw [z, va_up_self] at h1; cases h1
      rwa [va_up_ne _ _ h2] at h1
  have d1 : ∀ k, of_D N k = true → k < 76 → la_D N k = true := fun k h hk => (la_Dl hk).trans h
  have d2 : ∀ k, mo_D k = true → la_D N k = true := fun k h => by
    unfold la_D
    rw [h]
    simp
  have d3 : la_D N 93 = true := by
    unfold la_D
    simp
  have hN := O.1.2.1
  have m1 : nu (la_ad a1 a2 q2) (fun k => k < 76 ∧ of_D N k = true) P1 := (n1.to (fun x h => h.2) (fun _ h => h)).ex (fun x h => l1 x h.1)
  have m2 := m1.blk (P' := P2) (fun k => mo_D k = true) (fun i hi => by
      have h := of_decide_eq_true hi
      rw [l2 i h.1 h.2]; exact fr i hi) (fun i j hi hj z => by
      have h := of_decide_eq_true hi
      have h' := of_decide_eq_true hj
      rw [l2 i h.1 h.2, l2 j h'.1 h'.2] at z
      exact n2.2 i j hi hj z) (fun i hi => by
      have h := of_decide_eq_true hi
      rw [l2 i h.1 h.2]; exact n2.1 i hi) (fun x hx => by rw [k12 x hx]; exact hx)
  have m3 := m2.one (P' := P3) 93 (by rw [l3]; exact hq2) (by rw [l3]; exact bj_ne w3) (fun x hx => by rw [k23 x hx]; exact hx)
  refine ⟨m3.to (fun x hx => ?_) (fun _ h => h), N, 0, false, _, _, _, _, _, nI 0, fun _ => 0, O.re l1 (fun x hx => ?_), Mo.re l2 (fun x h1 h2 => ?_), ?_⟩
  · show ((x < 76 ∧ of_D N x = true) ∨ mo_D x = true) ∨ x = 93
    have h : la_D N x = true := hx
    unfold la_D at h
    rcases Bool.or_eq_true _ _ ▸ h with h | h
    · have h9 := Bool.and_eq_true _ _ ▸ h
      exact Or.inl (Or.inl ⟨of_decide_eq_true h9.1, h9.2⟩)
    · rcases Bool.or_eq_true _ _ ▸ h with h | h
      · exact Or.inl (Or.inr h)
      · exact Or.inr (of_decide_eq_true h)
  · unfold pic
    rw [la_Dl hx]
    by_cases hd : of_D N x = true
    · rw [if_pos hd, if_pos hd, l1 x hx]
      have p1 := n1.1 x hd
      have p2 : P2 (a1 x) ≠ none := by rw [k12 _ p1]; exact p1
      rw [k23 _ p2, k12 _ p1]
    · rw [if_neg hd, if_neg hd]
  · have hd : mo_D x = true := decide_eq_true ⟨h1, h2⟩
    rw [pic_at hd, pic_at (d2 x hd), l2 x h1 h2]
    exact k23 _ (n2.1 x hd)
  · rw [pic_at d3, l3]; exact w3
variable (l : Launch) (D : va_G) (c : Nat → ClassId) (M : bj_M)
set_option maxRecDepth 100000 in
/-- a cell of the script, or 0 -/
theorem t_La_cell (ad : Nat → Nat) {b N0 : Nat} {xs : Nat → Int32} (hN0 : N0 ≤ 3073) : bj_ZT (sc_I b N0 xs) (bw_G l D c) Y_La_cell 0 (0, 0, 0, 0) ad (bj_fn (if 0 < N0 then xs 0 else 0) M) [.ref b, .int (nI 0)] M := by
  show bj_Z _ _ _ _ _ _ _ 0 0 0 [some (.ref b), some (.int (nI 0))] [] M
  refine zj_iload_n d_La_cell_0 rfl rfl ?_
  refine zj_aload_n d_La_cell_1 rfl rfl ?_
  refine zj_slen d_La_cell_2 ?_
  refine zj_icmp_geN (tgt := 12) d_La_cell_3 (by decide) (by decide) (by omega) (fun h => ?_) (fun h => ?_)
  · refine zj_iconst (v := nI 0) d_La_cell_12 (by decide) ?_
    exact zj_iret d_La_cell_13 rfl rfl (Nat.le_refl _) (Nat.le_refl _) ⟨by rw [if_neg (by omega)]; rfl, rfl⟩
  · refine zj_aload_n d_La_cell_6 rfl rfl ?_
    refine zj_iload_n d_La_cell_7 rfl rfl ?_
    refine zj_sld d_La_cell_8 h (by omega) ?_
    refine zj_goto (tgt := 13) d_La_cell_9 (by decide) ?_
    exact zj_iret d_La_cell_13 rfl rfl (Nat.le_refl _) (Nat.le_refl _) ⟨by rw [if_pos h], rfl⟩

set_option maxRecDepth 100000 in
set_option maxHeartbeats 4000000 in
/-- the law's loop -/
theorem lw_loop (ad : Nat → Nat) (htr : l.stackTraces = false) {b N0 : Nat} {xs : Nat → Int32} (hN0 : N0 ≤ 3073) : ∀ (i : Nat) (M : bj_M) (cs sl : Nat), lw_in c ad M → i ≤ N0 + 6 → cs ≤ 1000 + i → sl ≤ 10000 + 6 * i → bj_Z (sc_I b N0 xs) (bw_G l D c) Y_La_law 12 KL ad QL cs sl 33 [some (.ref b), some (.ref (ad 0)), some (.ref (ad 80)), some (.ref (ad 93)), some (.int (nI i)), none, none] [] M := by
  intro i M cs sl
  induction hd : N0 + 7 - i using Nat.strongRecOn generalizing i M cs sl with
  | ind d ih =>
    intro hin hi hcs hsl
    refine zj_iload d_La_law_33 rfl ?_
    refine zj_aload_n d_La_law_35 rfl rfl ?_
    refine zj_slen d_La_law_36 ?_
    refine zj_bipush (v := nI 6) d_La_law_37 (by decide) ?_
    refine zj_isub (v := nI N0 - nI 6) d_La_law_39 rfl ?_
    refine zj_icmp_gt (tgt := 1290) d_La_law_40 (by decide) (fun _ => ?_) (fun h40 => ?_)
    · refine zj_iconst (v := nI 1) d_La_law_1290 (by decide) ?_
      exact zj_iret d_La_law_1291 rfl (by decide) (by show cs ≤ 647849; omega) (by show sl ≤ 7152524; omega) rfl
    have h6 : 6 ≤ N0 := Nat.le_of_not_lt (fun h => h40 (lw_sub h (by omega)))
    have hi6 : i + 6 ≤ N0 := by
      rw [pk_sub h6] at h40
      have := Nat.le_of_not_lt (fun h => h40 ((nI_ltI (by omega) (by omega)).mpr h))
      omega
    refine zj_aload_n d_La_law_43 rfl rfl ?_
    refine zj_iload d_La_law_44 rfl ?_
    refine zj_sld d_La_law_46 (by omega) (by omega) ?_
    refine zj_bipush (v := nI 31) d_La_law_47 (by decide) ?_
    refine zj_iand (v := xs i &&& nI 31) d_La_law_49 rfl ?_
    obtain ⟨k, hk, e⟩ := and31 (xs i)
    rw [e]
    have hK : ∀ M' cs' sl', lw_in c ad M' → cs' ≤ cs + 1 → sl' ≤ sl + 6 → bj_Z (sc_I b N0 xs) (bw_G l D c) Y_La_law 12 KL ad QL cs' sl' 1284 [some (.ref b), some (.ref (ad 0)), some (.ref (ad 80)), some (.ref (ad 93)), some (.int (nI i)), none, none] [] M' := by
      intro M' cs' sl' hin' h1 h2
      refine zj_iinc (v := nI (i + 6)) (L' := [some (.ref b), some (.ref (ad 0)), some (.ref (ad 80)), some (.ref (ad 93)), some (.int (nI (i + 6))), none, none]) d_La_law_1284 rfl (nI_inc6 i) (by decide) rfl ?_
      refine zj_goto (tgt := 33) d_La_law_1287 (by decide) ?_
      exact ih (N0 + 7 - (i + 6)) (by omega) (i + 6) M' cs' sl' rfl hin' (by omega) (by omega) (by omega)
    have hk9 : k = 0 ∨ k = 1 ∨ k = 2 ∨ k = 3 ∨ k = 4 ∨ k = 5 ∨ k = 6 ∨ k = 7 ∨ k = 8 ∨ k = 9 ∨ k = 10 ∨ k = 11 ∨ k = 12 ∨ k = 13 ∨ k = 14 ∨ k = 15 ∨ k = 16 ∨ k = 17 ∨ k = 18 ∨ 19 ≤ k := by omega
    rcases hk9 with rfl | rfl | rfl | rfl | rfl | rfl | rfl | rfl | rfl | rfl | rfl | rfl | rfl | rfl | rfl | rfl | rfl | rfl | rfl | hge
    · exact zj_swIn (off := 90) (tgt := 140) d_La_law_50 (by decide) (by decide) (by decide) (by decide) (lc_tie l D c ad M htr (by omega) hN0 (by omega) (by omega) hin hK)
    · exact zj_swIn (off := 138) (tgt := 188) d_La_law_50 (by decide) (by decide) (by decide) (by decide) (lc_drawn l D c ad M htr (by omega) hN0 (by omega) (by omega) hin hK)
    · exact zj_swIn (off := 194) (tgt := 244) d_La_law_50 (by decide) (by decide) (by decide) (by decide) (lc_open l D c ad M htr (by omega) hN0 (by omega) (by omega) hin hK)
    · exact zj_swIn (off := 238) (tgt := 288) d_La_law_50 (by decide) (by decide) (by decide) (by decide) (lc_ballot l D c ad M htr (by omega) hN0 (by omega) (by omega) hin hK)
    · exact zj_swIn (off := 318) (tgt := 368) d_La_law_50 (by decide) (by decide) (by decide) (by decide) (lc_turn l D c ad M htr (by omega) hN0 (by omega) (by omega) hin hK)
    · exact zj_swIn (off := 366) (tgt := 416) d_La_law_50 (by decide) (by decide) (by decide) (by decide) (lc_correct l D c ad M htr (by omega) hN0 (by omega) (by omega) hin hK)
    · exact zj_swIn (off := 446) (tgt := 496) d_La_law_50 (by decide) (by decide) (by decide) (by decide) (lc_state l D c ad M htr (by omega) hN0 (by omega) (by omega) hin hK)
    · exact zj_swIn (off := 502) (tgt := 552) d_La_law_50 (by decide) (by decide) (by decide) (by decide) (lc_voters l D c ad M htr (by omega) hN0 (by omega) (by omega) hin hK)
    · exact zj_swIn (off := 515) (tgt := 565) d_La_law_50 (by decide) (by decide) (by decide) (by decide) (lc_prefer l D c ad M htr (by omega) hN0 (by omega) (by omega) hin hK)
    · exact zj_swIn (off := 583) (tgt := 633) d_La_law_50 (by decide) (by decide) (by decide) (by decide) (lc_strength l D c ad M htr (by omega) hN0 (by omega) (by omega) hin hK)
    · exact zj_swIn (off := 651) (tgt := 701) d_La_law_50 (by decide) (by decide) (by decide) (by decide) (lc_way l D c ad M htr (by omega) hN0 (by omega) (by omega) hin hK)
    · exact zj_swIn (off := 719) (tgt := 769) d_La_law_50 (by decide) (by decide) (by decide) (by decide) (lc_cut l D c ad M htr (by omega) hN0 (by omega) (by omega) hin hK)
    · exact zj_swIn (off := 787) (tgt := 837) d_La_law_50 (by decide) (by decide) (by decide) (by decide) (lc_proves l D c ad M htr (by omega) hN0 (by omega) (by omega) hin hK)
    · exact zj_swIn (off := 898) (tgt := 948) d_La_law_50 (by decide) (by decide) (by decide) (by decide) (lc_winner l D c ad M htr (by omega) hN0 (by omega) (by omega) hin hK)
    · exact zj_swIn (off := 954) (tgt := 1004) d_La_law_50 (by decide) (by decide) (by decide) (by decide) (lc_locked l D c ad M htr (by omega) hN0 (by omega) (by omega) hin hK)
    · exact zj_swIn (off := 1029) (tgt := 1079) d_La_law_50 (by decide) (by decide) (by decide) (by decide) (lc_order l D c ad M htr (by omega) hN0 (by omega) (by omega) hin hK)
    · exact zj_swIn (off := 1085) (tgt := 1135) d_La_law_50 (by decide) (by decide) (by decide) (by decide) (lc_top l D c ad M htr (by omega) hN0 (by omega) (by omega) hin hK)
    · exact zj_swIn (off := 1141) (tgt := 1191) d_La_law_50 (by decide) (by decide) (by decide) (by decide) (lc_without l D c ad M htr (by omega) hN0 (by omega) (by omega) hin hK)
    · exact zj_swIn (off := 1221) (tgt := 1271) d_La_law_50 (by decide) (by decide) (by decide) (by decide) (lc_seal l D c ad M htr (by omega) hN0 (by omega) (by omega) hin hK)
    · exact zj_swOut (tgt := 1284) d_La_law_50 (Or.inr (nI_18 hk hge)) (by decide) (hK M cs sl hin (by omega) (by omega))
set_option maxRecDepth 100000 in
set_option maxHeartbeats 4000000 in
/-- the law's body -/
theorem lw_body (htr : l.stackTraces = false) {b N0 : Nat} {xs : Nat → Int32} (hN0 : N0 ≤ 3073) : bj_Z (sc_I b N0 xs) (bw_G l D c) Y_La_law 12 KL (fun k => k) QL 0 0 0 [some (.ref b), none, none, none, none, none, none] [] (fun _ => none) := by
  refine zj_new (ci := 4) (fs := [.int (nI 0), .null, .null, .int (nI 0), .int (nI 0), .null, .null, .null, .null]) d_La_law_0 in_Of ok_Of rfl wc_La_8 wn_Of wi_Of hfs_Of (by decide) (by decide) (fun q0 hq0 => ?_)
  refine zj_dup d_La_law_3 rfl ?_
  refine zj_aload_n d_La_law_4 rfl rfl ?_
  refine zj_iconst (v := nI 0) d_La_law_5 (by decide) ?_
  refine zj_cs ss_La_73 d_La_law_6 (sc_st _ _ _) (t_La_cell l D c _ _ hN0) rfl rfl (by decide) (by decide) (by decide) (Nat.le_of_ble_eq_true rfl) rfl (fun v0 P0 hc0 => ?_) (fun _ _ h => h)
  obtain ⟨rfl, rfl⟩ := hc0
  generalize hx0 : (if 0 < N0 then xs 0 else 0) = x0
  refine zj_ci si_La_79 d_La_law_9 (sc_st _ _ _) (zj_of (t_Of_init l D c _ (xn := x0) (va_up_self _ _ _))) rfl rfl (by decide) (by decide) (by decide) (Nat.le_of_ble_eq_true rfl) rfl (fun v1 P1 hi1 => ?_) (fun _ _ h => h.elim)
  obtain ⟨rfl, a1, e0, n1, -, O, -⟩ := hi1
  show bj_Z (sc_I b N0 xs) (bw_G l D c) Y_La_law 12 KL (fun k => k) QL (0 + 1 + 0 + 74) (0 + 9 + 0 + 600) 12 [some (.ref b), none, none, none, none, none, none] [.ref q0] P1
  refine zj_astore_n (L' := [some (.ref b), some (.ref q0), none, none, none, none, none]) d_La_law_12 rfl (by decide) rfl ?_
  refine zj_new (ci := 5) (fs := [.int (nI 0), .int (nI 0), .int (nI 0), .null, .int (nI 0), .null, .null, .null, .null, .null, .null, .null, .null, .null, .null, .int (nI 0), .null]) d_La_law_13 in_Mo ok_Mo rfl wc_La_82 wn_Mo wi_Mo hfs_Mo (by decide) (by decide) (fun q1 hq1 => ?_)
  refine zj_dup d_La_law_16 rfl ?_
  refine zj_aload_n d_La_law_17 rfl rfl ?_
  refine zj_iconst (v := nI 0) d_La_law_18 (by decide) ?_
  refine zj_cs ss_La_73 d_La_law_19 (sc_st _ _ _) (t_La_cell l D c _ _ hN0) rfl rfl (by decide) (by decide) (by decide) (Nat.le_of_ble_eq_true rfl) rfl (fun v2 P2 hc2 => ?_) (fun _ _ h => h)
  obtain ⟨rfl, rfl⟩ := hc2
  rw [hx0]
  refine zj_ci si_La_84 d_La_law_22 (sc_st _ _ _) (zj_of (t_Mo_init l D c _ (xn := x0) (va_up_self _ _ _))) rfl rfl (by decide) (by decide) (by decide) (Nat.le_of_ble_eq_true rfl) rfl (fun v3 P3 hi3 => ?_) (fun _ _ h => h.elim)
  obtain ⟨rfl, a2, e80, n2, f2, Mo, x2⟩ := hi3
  show bj_Z (sc_I b N0 xs) (bw_G l D c) Y_La_law 12 KL (fun k => k) QL (0 + 1 + 0 + 74 + 1 + 0 + 12) (0 + 9 + 0 + 600 + 17 + 0 + 512) 25 [some (.ref b), some (.ref q0), none, none, none, none, none] [.ref q1] P3
  refine zj_astore_n (L' := [some (.ref b), some (.ref q0), some (.ref q1), none, none, none, none]) d_La_law_25 rfl (by decide) rfl ?_
  refine zj_iconst (v := nI 1) d_La_law_26 (by decide) ?_
  refine zj_newa (a0 := (1, .inr (.inl (fun _ => 0)))) d_La_law_27 2 rfl wz_795 (fun cA => arrV_zeroL cA 1) rfl (by decide) (by decide) (by decide) (by decide) (fun q2 hq2 => ?_)
  refine zj_astore_n (L' := [some (.ref b), some (.ref q0), some (.ref q1), some (.ref q2), none, none, none]) d_La_law_29 rfl (by decide) rfl ?_
  refine zj_iconst (v := nI 1) d_La_law_30 (by decide) ?_
  refine zj_istore (L' := [some (.ref b), some (.ref q0), some (.ref q1), some (.ref q2), some (.int (nI 1)), none, none]) d_La_law_31 (by decide) rfl ?_
  obtain ⟨nn, hin⟩ := la_new (q2 := q2) (P3 := va_up P3 q2 (some (.inl (c 2, 1, .inr (.inl (fun _ => 0)))))) e0 n1 O hq1 e80 n2 f2 Mo x2 hq2 (va_up_self _ _ _) (fun x hx => va_up_ne _ _ hx)
  have hz := lw_loop l D c (la_ad a1 a2 q2) htr (b := b) (xs := xs) hN0 1 _ (0 + 1 + 0 + 74 + 1 + 0 + 12 + 1) (0 + 9 + 0 + 600 + 17 + 0 + 512 + 1) hin (by omega) (by omega) (by omega)
  rw [show la_ad a1 a2 q2 0 = q0 from (if_pos (by decide)).trans e0, show la_ad a1 a2 q2 80 = q1 from ((if_neg (by decide)).trans (if_pos (by decide))).trans e80, show la_ad a1 a2 q2 93 = q2 from (if_neg (by decide)).trans (if_neg (by decide))] at hz
  refine zj_ren (ad := la_ad a1 a2 q2) (φ := fun r => r = .inl (some (.int 1))) (M' := pic (la_D (nc x0)) (la_ad a1 a2 q2) (va_up P3 q2 (some (.inl (c 2, 1, .inr (.inl (fun _ => 0))))))) (fun k x hx => ?_) (fun i j hi hj e => ?_) hz
  · by_cases hd : la_D (nc x0) k = true
    · rwa [pic_at hd] at hx
    · unfold pic at hx
      rw [if_neg hd] at hx
      cases hx
  · have hd : ∀ k, pic (la_D (nc x0)) (la_ad a1 a2 q2) (va_up P3 q2 (some (.inl (c 2, 1, .inr (.inl (fun _ => 0)))))) k ≠ none → la_D (nc x0) k = true := fun k hk => by
      by_cases hd : la_D (nc x0) k = true
      · exact hd
      · exact absurd (if_neg hd) hk
    exact nn.2 i j (hd i hi) (hd j hj) e
end LX
