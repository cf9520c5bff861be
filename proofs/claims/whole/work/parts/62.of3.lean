/-! the office's state after each change -/
section O3
section V
variable {c : Nat → ClassId} {ad : Nat → Nat} {M M' : bj_M} {N op : Nat} {se : Bool} {dw sg sz : Nat → Nat} {rk : Nat → Nat → Int32} {tm : Nat → Nat → Nat}
theorem of_all.in (h : of_all c ad M N op se dw sg sz rk tm) (e : ∀ q, q < 49 → M' q = M q) (hs : sc_ok c ad M' N) : of_all c ad M' N op se dw sg sz rk tm := ⟨h.1, h.2.1.in h.1.2.1 e, hs⟩
theorem of_all.draw {fr pl : Nat} (h : of_all c ad M N op se dw sg sz rk tm) (hf : fr < N) (hp : pl < N) (hd : bv_I (c 0) M' 1 N (fun i => nI (tdw dw fr pl i))) (e : ∀ q, q ≠ 1 → M' q = M q) : of_all c ad M' N op se (tdw dw fr pl) sg sz rk tm := by
  obtain ⟨⟨h1, hN, h3, ⟨ps, h4⟩, h5⟩, ⟨g1, g2, g3, g4, g5⟩, hs⟩ := h
  exact ⟨⟨h1, hN, h3, ⟨_, tdw_pm h4 hf hp⟩, h5⟩, ⟨(e 0 (by omega)).trans g1, hd, g3.in (e 2 (by omega)), fun b hb => (g4 b hb).in (e _ (by omega)) (e _ (by omega)) (e _ (by omega)), g5.in (fun q q1 q2 => e q (by omega))⟩, hs.in hN (fun q q1 q2 => e q (by omega))⟩
theorem of_all.head {op' : Nat} {se' : Bool} (h : of_all c ad M N op se dw sg sz rk tm) (ho : op ≤ op') (ho2 : op' ≤ 12) (hd : M' 0 = some (.inr (4, of_F ad N op' se'))) (e : ∀ q, q ≠ 0 → M' q = M q) : of_all c ad M' N op' se' dw sg sz rk tm := by
  obtain ⟨⟨h1, hN, h3, h4, h5, h6⟩, ⟨g1, g2, g3, g4, g5⟩, hs⟩ := h
  exact ⟨⟨h1, hN, ho2, h4, h5, fun b hb hb2 => h6 b (by omega) hb2⟩, ⟨hd, g2.in (e 1 (by omega)), g3.in (e 2 (by omega)), fun b hb => (g4 b hb).in (e _ (by omega)) (e _ (by omega)) (e _ (by omega)), g5.in (fun q q1 q2 => e q (by omega))⟩, hs.in hN (fun q q1 q2 => e q (by omega))⟩
theorem psum_to {sg' sz' : Nat → Nat} {rk' : Nat → Nat → Int32} {tm' : Nat → Nat → Nat} {but a b : Nat} (h : ∀ j, j < 12 → (sg j = 1 ↔ sg' j = 1) ∧ (sg j = 1 → sz j = sz' j ∧ rk j = rk' j ∧ tm j = tm' j)) : psum sg sz rk tm but a b = psum sg' sz' rk' tm' but a b := sm_to 12 (fun j hj => by
  obtain ⟨h1, h2⟩ := h j hj
  by_cases e : sg j = 1
  · obtain ⟨e1, e2, e3⟩ := h2 e
    rw [e1, e2, e3, e, h1.mp e]
  · rw [if_neg (fun q => e q.1), if_neg (fun q => e (h1.mpr q.1))])
theorem vsum_to {sg' sz' : Nat → Nat} {tm' : Nat → Nat → Nat} (h : ∀ j, j < 12 → (sg j = 1 ↔ sg' j = 1) ∧ (sg j = 1 → sz j = sz' j ∧ tm j = tm' j)) : vsum sg sz tm = vsum sg' sz' tm' := sm_to 12 (fun j hj => by
  obtain ⟨h1, h2⟩ := h j hj
  by_cases e : sg j = 1
  · obtain ⟨e1, e2⟩ := h2 e
    rw [e1, e2, e, h1.mp e]
  · rw [if_neg e, if_neg (fun q => e (h1.mpr q))])
theorem co_ok.of {k : Nat} {vs vs' : Int32} {P P' : Nat → Nat → Int32} (h : co_ok c ad M k N vs P) (hv : vs = vs') (e : ∀ a b, a < N → b < N → P a b = P' a b) : co_ok c ad M k N vs' P' := by
  subst hv
  exact h.to e
/-- one batch is another -/
theorem of_bat {b : Nat} {s' z' : Nat} {r' : Nat → Int32} {t' : Nat → Nat} (hB : ∀ b, b < 12 → ba_ok c ad M (3 + b) (15 + b) (27 + b) (nI (sg b)) (sz b) (rk b) (fun i => nI (tm b i))) (hb : b < 12) (h : ba_ok c ad M' (3 + b) (15 + b) (27 + b) (nI s') z' r' (fun i => nI (t' i))) (e : ∀ q, q < 39 → q ≠ 3 + b → q ≠ 15 + b → q ≠ 27 + b → M' q = M q) :
    ∀ j, j < 12 → ba_ok c ad M' (3 + j) (15 + j) (27 + j) (nI (va_up sg b s' j)) (va_up sz b z' j) (va_up rk b r' j) (fun i => nI (va_up tm b t' j i)) := by
  intro j hj
  by_cases q : j = b
  · subst q
    rw [va_up_self, va_up_self, va_up_self, va_up_self]
    exact h
  · rw [va_up_ne _ _ q, va_up_ne _ _ q, va_up_ne _ _ q, va_up_ne _ _ q]
    exact (hB j hj).in (e _ (by omega) (by omega) (by omega) (by omega)) (e _ (by omega) (by omega) (by omega) (by omega)) (e _ (by omega) (by omega) (by omega) (by omega))
theorem va_up_id {α : Type} {f : Nat → α} {j : Nat} : va_up f j (f j) = f := funext (fun i => by
  by_cases e : i = j
  · subst e; exact va_up_self _ _ _
  · exact va_up_ne _ _ e)
theorem of_all.ballot {b t : Nat} {w : Int32} (h : of_all c ad M N op se dw sg sz rk tm) (hb : b < op) (hs : sg b = 0) (hz : sz b < 6) (ht : t ≤ 10000) (hn : ba_ok c ad M' (3 + b) (15 + b) (27 + b) (nI (sg b)) (sz b + 1) (va_up (rk b) (sz b) w) (va_up (fun i => nI (tm b i)) (sz b) (nI t))) (e : ∀ q, q ≠ 3 + b → q ≠ 15 + b → q ≠ 27 + b → M' q = M q) :
    of_all c ad M' N op se dw sg (va_up sz b (sz b + 1)) (va_up rk b (va_up (rk b) (sz b) w)) (va_up tm b (va_up (tm b) (sz b) t)) := by
  obtain ⟨⟨h1, hN, h3, h4, h5, h6⟩, ⟨g1, g2, g3, g4, g5⟩, hsc⟩ := h
  have hn' : ba_ok c ad M' (3 + b) (15 + b) (27 + b) (nI (sg b)) (sz b + 1) (va_up (rk b) (sz b) w) (fun i => nI (va_up (tm b) (sz b) t i)) := ⟨hn.1, hn.2.1, bv_I.upn hn.2.2⟩
  have hq := of_bat g4 (by omega) hn' (fun q _ q1 q2 q3 => e q q1 q2 q3)
  rw [va_up_id] at hq
  have key : ∀ j, j < 12 → sg j = 1 → j ≠ b := fun j _ q r => by rw [r, hs] at q; cases q
  refine ⟨⟨h1, hN, h3, h4, fun j hj => ?_, fun j hj hj2 => ?_⟩, ⟨(e 0 (by omega) (by omega) (by omega)).trans g1, g2.in (e 1 (by omega) (by omega) (by omega)), g3.in (e 2 (by omega) (by omega) (by omega)), hq, (g5.in (fun q q1 q2 => e q (by omega) (by omega) (by omega))).of ?_ (fun x y hx hy => ?_)⟩, hsc.in hN (fun q q1 q2 => e q (by omega) (by omega) (by omega))⟩
  · by_cases q : j = b
    · subst q
      rw [va_up_self, va_up_self]
      refine ⟨(h5 j hj).1, by omega, fun i hi => ?_⟩
      by_cases r : i = sz j
      · rw [r, va_up_self]; exact ht
      · rw [va_up_ne _ _ r]; exact (h5 j hj).2.2 i (by omega)
    · rw [va_up_ne _ _ q, va_up_ne _ _ q]; exact h5 j hj
  · rw [va_up_ne _ _ (show j ≠ b by omega)]; exact h6 j hj hj2
  · rw [vsum_to (fun j hj => ⟨Iff.rfl, fun q => ⟨(va_up_ne _ _ (key j hj q)).symm, (va_up_ne _ _ (key j hj q)).symm⟩⟩)]
  · rw [psum_to (fun j hj => ⟨Iff.rfl, fun q => ⟨(va_up_ne _ _ (key j hj q)).symm, (va_up_ne _ _ (key j hj q)).symm, (va_up_ne _ _ (key j hj q)).symm⟩⟩)]
/-- a stage turned: what the sums become -/
theorem psum_in {b s' a x : Nat} (hb : b < 12) (h0 : sg b ≠ 1) (h1 : s' = 1) : psum sg sz rk tm 12 a x + bsum (sz b) (rk b) (tm b) a x = psum (va_up sg b s') sz rk tm 12 a x := by
  have h := sm_up (f := fun j => if sg j = 1 ∧ j ≠ 12 then bsum (sz j) (rk j) (tm j) a x else 0) (g := fun j => if va_up sg b s' j = 1 ∧ j ≠ 12 then bsum (sz j) (rk j) (tm j) a x else 0) 12 hb (fun i hi hi2 => by rw [va_up_ne _ _ hi2])
  rw [va_up_self, if_pos (show s' = 1 ∧ b ≠ 12 by omega), if_neg (show ¬ (sg b = 1 ∧ b ≠ 12) from fun q => h0 q.1)] at h
  exact h
theorem psum_out {b s' a x : Nat} (hb : b < 12) (h0 : sg b = 1) (h1 : s' ≠ 1) : psum (va_up sg b s') sz rk tm 12 a x + bsum (sz b) (rk b) (tm b) a x = psum sg sz rk tm 12 a x := by
  have h := sm_up (f := fun j => if sg j = 1 ∧ j ≠ 12 then bsum (sz j) (rk j) (tm j) a x else 0) (g := fun j => if va_up sg b s' j = 1 ∧ j ≠ 12 then bsum (sz j) (rk j) (tm j) a x else 0) 12 hb (fun i hi hi2 => by rw [va_up_ne _ _ hi2])
  rw [va_up_self, if_neg (show ¬ (s' = 1 ∧ b ≠ 12) from fun q => h1 q.1), if_pos (show sg b = 1 ∧ b ≠ 12 by omega)] at h
  exact h.symm
theorem vsum_in {b s' : Nat} (hb : b < 12) (h0 : sg b ≠ 1) (h1 : s' = 1) : vsum sg sz tm + sm (tm b) (sz b) = vsum (va_up sg b s') sz tm := by
  have h := sm_up (f := fun j => if sg j = 1 then sm (tm j) (sz j) else 0) (g := fun j => if va_up sg b s' j = 1 then sm (tm j) (sz j) else 0) 12 hb (fun i hi hi2 => by rw [va_up_ne _ _ hi2])
  rw [va_up_self, if_pos h1, if_neg h0] at h
  exact h
theorem vsum_out {b s' : Nat} (hb : b < 12) (h0 : sg b = 1) (h1 : s' ≠ 1) : vsum (va_up sg b s') sz tm + sm (tm b) (sz b) = vsum sg sz tm := by
  have h := sm_up (f := fun j => if sg j = 1 then sm (tm j) (sz j) else 0) (g := fun j => if va_up sg b s' j = 1 then sm (tm j) (sz j) else 0) 12 hb (fun i hi hi2 => by rw [va_up_ne _ _ hi2])
  rw [va_up_self, if_neg h1, if_pos h0] at h
  exact h.symm
/-- without a batch -/
theorem psum_but {b a x : Nat} (hb : b < 12) (h0 : sg b = 1) : psum sg sz rk tm b a x + bsum (sz b) (rk b) (tm b) a x = psum sg sz rk tm 12 a x := by
  have h := sm_up (f := fun j => if sg j = 1 ∧ j ≠ 12 then bsum (sz j) (rk j) (tm j) a x else 0) (g := fun j => if sg j = 1 ∧ j ≠ b then bsum (sz j) (rk j) (tm j) a x else 0) 12 hb (fun i hi hi2 => by
    by_cases q : sg i = 1
    · rw [if_pos (by omega), if_pos (by omega)]
    · rw [if_neg (fun r => q r.1), if_neg (fun r => q r.1)])
  rw [if_neg (show ¬ (sg b = 1 ∧ b ≠ b) from fun q => q.2 rfl), if_pos (show sg b = 1 ∧ b ≠ 12 by omega)] at h
  exact h.symm
theorem psum_same {b a x : Nat} (h0 : sg b ≠ 1) : psum sg sz rk tm b a x = psum sg sz rk tm 12 a x := sm_to 12 (fun j hj => by
  by_cases q : sg j = 1
  · rw [if_pos (show sg j = 1 ∧ j ≠ b from ⟨q, fun e => h0 (e ▸ q)⟩), if_pos (by omega)]
  · rw [if_neg (fun r => q r.1), if_neg (fun r => q r.1)])
theorem of_all.turn {b s' : Nat} {vs : Int32} {P : Nat → Nat → Int32} (h : of_all c ad M N op se dw sg sz rk tm) (hb : b < op) (hs : s' ≤ 2) (hn : ba_ok c ad M' (3 + b) (15 + b) (27 + b) (nI s') (sz b) (rk b) (fun i => nI (tm b i))) (hc : co_ok c ad M' 39 N vs P) (hv : vs = nI (vsum (va_up sg b s') sz tm)) (hP : ∀ a x, a < N → x < N → P a x = nI (psum (va_up sg b s') sz rk tm 12 a x)) (e : ∀ q, q ≠ 3 + b → ¬ (39 ≤ q ∧ q < 41 + N) → M' q = M q) :
    of_all c ad M' N op se dw (va_up sg b s') sz rk tm := by
  obtain ⟨⟨h1, hN, h3, h4, h5, h6⟩, ⟨g1, g2, g3, g4, g5⟩, hsc⟩ := h
  have hq := of_bat g4 (show b < 12 by omega) hn (fun q q0 q1 _ _ => e q q1 (by omega))
  rw [va_up_id, va_up_id, va_up_id] at hq
  refine ⟨⟨h1, hN, h3, h4, fun j hj => ?_, fun j hj hj2 => ?_⟩, ⟨(e 0 (by omega) (by omega)).trans g1, g2.in (e 1 (by omega) (by omega)), g3.in (e 2 (by omega) (by omega)), hq, hc.of hv hP⟩, hsc.in hN (fun q q1 q2 => e q (by omega) (by omega))⟩
  · refine ⟨?_, (h5 j hj).2⟩
    by_cases q : j = b
    · subst q
      rw [va_up_self]; exact hs
    · rw [va_up_ne _ _ q]; exact (h5 j hj).1
  · rw [va_up_ne _ _ (show j ≠ b by omega)]; exact h6 j hj hj2
theorem bsum_up {s i a x : Nat} {r : Nat → Int32} {t : Nat → Nat} {w : Int32} (hi : i < s) : bsum s (va_up r i w) t a x + (if bef (r i) a x = true then t i else 0) = bsum s r t a x + (if bef w a x = true then t i else 0) := by
  have h := sm_up (f := fun j => if bef (va_up r i w j) a x = true then t j else 0) (g := fun j => if bef (r j) a x = true then t j else 0) s hi (fun j hj hj2 => by rw [va_up_ne _ _ hj2])
  rw [va_up_self] at h
  exact h
theorem psum_rk {b i a x : Nat} {w : Int32} (hb : b < 12) (h0 : sg b = 1) (hi : i < sz b) : psum sg sz (va_up rk b (va_up (rk b) i w)) tm 12 a x + (if bef (rk b i) a x = true then tm b i else 0) = psum sg sz rk tm 12 a x + (if bef w a x = true then tm b i else 0) := by
  have h := sm_up (f := fun j => if sg j = 1 ∧ j ≠ 12 then bsum (sz j) (rk j) (tm j) a x else 0) (g := fun j => if sg j = 1 ∧ j ≠ 12 then bsum (sz j) (va_up rk b (va_up (rk b) i w) j) (tm j) a x else 0) 12 hb (fun j hj hj2 => by rw [va_up_ne _ _ hj2])
  rw [va_up_self, if_pos (show sg b = 1 ∧ b ≠ 12 by omega), if_pos (show sg b = 1 ∧ b ≠ 12 by omega)] at h
  have h2 := bsum_up (s := sz b) (i := i) (a := a) (x := x) (r := rk b) (t := tm b) (w := w) hi
  have h3 : psum sg sz rk tm 12 a x + bsum (sz b) (va_up (rk b) i w) (tm b) a x = psum sg sz (va_up rk b (va_up (rk b) i w)) tm 12 a x + bsum (sz b) (rk b) (tm b) a x := h
  omega
theorem psum_rk_no {b i a x : Nat} {w : Int32} (h0 : sg b ≠ 1) : psum sg sz (va_up rk b (va_up (rk b) i w)) tm 12 a x = psum sg sz rk tm 12 a x := psum_to (fun j hj => ⟨Iff.rfl, fun q => ⟨rfl, va_up_ne _ _ (fun e => h0 (e ▸ q)), rfl⟩⟩)
theorem nI_swap {x y o n : Nat} {p q : Prop} [Decidable p] [Decidable q] {t : Nat} (h : y + (if p then t else 0) = x + (if q then t else 0)) : nI x + (if p then - nI t else 0) + (if q then nI t else 0) = nI y := by
  have e1 : (if p then - nI t else 0) = - nI (if p then t else 0) := by
    split
    · rfl
    · rw [nI_0]; rfl
  have e2 : (if q then nI t else 0) = nI (if q then t else 0) := by
    split
    · rfl
    · rw [nI_0]
  rw [e1, e2, Int32.add_assoc, Int32.add_comm (- _) _, ← Int32.add_assoc, nI_add, ← h, ← nI_add, ← Int32.sub_eq_add_neg, Int32.add_sub_cancel]
theorem of_all.corr {b i : Nat} {w : Int32} {vs : Int32} {P : Nat → Nat → Int32} (h : of_all c ad M N op se dw sg sz rk tm) (hb : b < op) (hn : ba_ok c ad M' (3 + b) (15 + b) (27 + b) (nI (sg b)) (sz b) (va_up (rk b) i w) (fun i => nI (tm b i))) (hc : co_ok c ad M' 39 N vs P) (hv : vs = nI (vsum sg sz tm)) (hP : ∀ a x, a < N → x < N → P a x = nI (psum sg sz (va_up rk b (va_up (rk b) i w)) tm 12 a x)) (e : ∀ q, q ≠ 15 + b → ¬ (39 ≤ q ∧ q < 41 + N) → M' q = M q) :
    of_all c ad M' N op se dw sg sz (va_up rk b (va_up (rk b) i w)) tm := by
  obtain ⟨⟨h1, hN, h3, h4, h5, h6⟩, ⟨g1, g2, g3, g4, g5⟩, hsc⟩ := h
  have hq := of_bat g4 (show b < 12 by omega) hn (fun q q0 _ q2 _ => e q q2 (by omega))
  rw [va_up_id, va_up_id, va_up_id] at hq
  exact ⟨⟨h1, hN, h3, h4, h5, h6⟩, ⟨(e 0 (by omega) (by omega)).trans g1, g2.in (e 1 (by omega) (by omega)), g3.in (e 2 (by omega) (by omega)), hq, hc.of hv hP⟩, hsc.in hN (fun q q1 q2 => e q (by omega) (by omega))⟩
theorem of_all.pl (h : of_all c ad M N op se dw sg sz rk tm) (but a b : Nat) : psum sg sz rk tm but a b < 2 ^ 31 := Nat.lt_of_le_of_lt (psum_le (fun j hj => (h.1.2.2.2.2.1 j hj).2)) (by decide)
end V
/-! what a call answers: a code (0: none thrown) and a value -/
def Rv (n : Nat) (a : Int32) : Nat → Option Value → Prop := fun k v => k = n ∧ v = if n = 0 then some (.int a) else none
def Ru (n : Nat) : Nat → Option Value → Prop := fun k v => k = n ∧ v = none
def xc (L : List String) (n : Nat) : String := L.getD (n - 1) ""
def q_pub (L : List String) (R : Nat → Option Value → Prop) (Gd Bd : bj_M → Prop) : bj_R → bj_M → Prop := fun r M' => match r with
  | .inl v => R 0 v ∧ Gd M'
  | .inr X => ∃ n, n ≠ 0 ∧ X = xc L n ∧ R n none ∧ Bd M'
theorem Rv_0 {n : Nat} {a : Int32} (h : n = 0) : Rv n a 0 (some (.int a)) := ⟨h.symm, by rw [if_pos h]⟩
theorem Rv_n {n k : Nat} {a : Int32} (h : n = k) (hk : k ≠ 0) : Rv n a k none := ⟨h.symm, by rw [if_neg (by omega)]⟩
/-- the office stays as it is -/
def of_st (c : Nat → ClassId) (ad : Nat → Nat) (M : bj_M) (N op : Nat) (se : Bool) (dw sg sz : Nat → Nat) (rk : Nat → Nat → Int32) (tm : Nat → Nat → Nat) : bj_M → Prop := fun M' => of_all c ad M' N op se dw sg sz rk tm ∧ of_fr M M'
end O3
