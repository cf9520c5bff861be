/-! constructors: the office's (walks by gen/m_ini6.py); a cell's number is its address -/
section I6

/-- all that is there stays -/
def ex_a (M M' : bj_M) : Prop := ∀ x, M x ≠ none → M' x = M x
theorem ex_a.k {M M' : bj_M} (h : ex_a M M') (q : Nat) : ex_k q M M' := ⟨fun x hx => by rw [h x hx]; exact hx, fun x hx _ => h x hx⟩
abbrev z1 : Nat → Nat := fun _ => 0
abbrev id1 : Nat → Nat := fun i => i
/-- the addresses of the first 39 numbers -/
def b_ad (q dr bt : Nat) (B KR KT : Nat → Nat) (k : Nat) : Nat := if k = 0 then q else if k = 1 then dr else if k = 2 then bt else if k < 15 then B (k - 3) else if k < 27 then KR (k - 15) else KT (k - 27)
def b_D (b k : Nat) : Prop := k < 3 ∨ (3 ≤ k ∧ k < 3 + b) ∨ (15 ≤ k ∧ k < 15 + b) ∨ (27 ≤ k ∧ k < 27 + b)
section BA
variable {q dr bt : Nat} {B KR KT : Nat → Nat} {b k : Nat}
theorem b_ad3 (h : b < 12) : b_ad q dr bt B KR KT (3 + b) = B b := by
  unfold b_ad
  rw [if_neg (by omega), if_neg (by omega), if_neg (by omega), if_pos (by omega)]
  congr 1; omega
theorem b_ad15 (h : b < 12) : b_ad q dr bt B KR KT (15 + b) = KR b := by
  unfold b_ad
  rw [if_neg (by omega), if_neg (by omega), if_neg (by omega), if_neg (by omega), if_pos (by omega)]
  congr 1; omega
theorem b_ad27 (h : b < 12) : b_ad q dr bt B KR KT (27 + b) = KT b := by
  unfold b_ad
  rw [if_neg (by omega), if_neg (by omega), if_neg (by omega), if_neg (by omega), if_neg (by omega)]
  congr 1; omega
theorem b_ad_to {nb kr kt : Nat} (hb : b < 12) (h : b_D b k) : b_ad q dr bt (va_up B b nb) (va_up KR b kr) (va_up KT b kt) k = b_ad q dr bt B KR KT k := by
  rcases h with h | h | h | h
  · unfold b_ad
    by_cases e0 : k = 0
    · rw [if_pos e0, if_pos e0]
    · by_cases e1 : k = 1
      · rw [if_neg e0, if_neg e0, if_pos e1, if_pos e1]
      · rw [if_neg e0, if_neg e0, if_neg e1, if_neg e1, if_pos (by omega), if_pos (by omega)]
  · obtain ⟨i, rfl⟩ : ∃ i, k = 3 + i := ⟨k - 3, by omega⟩
    rw [b_ad3 (by omega), b_ad3 (by omega), va_up_ne _ _ (by omega)]
  · obtain ⟨i, rfl⟩ : ∃ i, k = 15 + i := ⟨k - 15, by omega⟩
    rw [b_ad15 (by omega), b_ad15 (by omega), va_up_ne _ _ (by omega)]
  · obtain ⟨i, rfl⟩ : ∃ i, k = 27 + i := ⟨k - 27, by omega⟩
    rw [b_ad27 (by omega), b_ad27 (by omega), va_up_ne _ _ (by omega)]
end BA
/-- the first b batches stand -/
def bat (c : Nat → ClassId) (M : bj_M) (q dr bt N : Nat) (fs : List Value) (b : Nat) (P : bj_M) (B KR KT : Nat → Nat) (f : Nat → Option Nat) : Prop :=
  P bt = some (.inl (c 3, 12, .inr (.inr (.inr (.inr f))))) ∧ (∀ i, i < b → f i = some (B i)) ∧ (∀ i, i < b → ba_ok c (fun k => k) P (B i) (KR i) (KT i) (nI 0) 0 (fun _ => 0) (fun _ => 0)) ∧ P q = some (.inr (4, fs)) ∧ bv_I (c 0) P dr N (fun i => nI i) ∧ ex_k q M P ∧ nu (b_ad q dr bt B KR KT) (b_D b) P ∧ ∀ k, k ≠ 0 → b_D b k → M (b_ad q dr bt B KR KT k) = none
theorem bat_step {c : Nat → ClassId} {M : bj_M} {q dr bt N : Nat} {fs : List Value} {b : Nat} {P P2 P3 : bj_M} {B KR KT : Nat → Nat} {f : Nat → Option Nat} {nb kr kt : Nat} {y : va_E} (h : bat c M q dr bt N fs b P B KR KT f) (hb : b < 12) (hn : P nb = none) (g1 : va_up P nb (some y) kr = none) (g2 : va_up P nb (some y) kt = none) (g3 : kr ≠ kt) (g4 : ba_ok c (fun k => k) P2 nb kr kt (nI 0) 0 (fun _ => 0) (fun _ => 0)) (g5 : ∀ x, x ≠ nb → x ≠ kr → x ≠ kt → P2 x = va_up P nb (some y) x)
    (g6 : P3 bt = some (.inl (c 3, 12, .inr (.inr (.inr (.inr (va_up f b (some nb)))))))) (g7 : ∀ x, x ≠ bt → P3 x = P2 x) : bat c M q dr bt N fs (b + 1) P3 (va_up B b nb) (va_up KR b kr) (va_up KT b kt) (va_up f b (some nb)) := by
  obtain ⟨h1, h2, h3, h4, h5, h6, h7, h8⟩ := h
  have nr : nb ≠ kr := fun e => by rw [e, va_up_self] at g1; cases g1
  have nt : nb ≠ kt := fun e => by rw [e, va_up_self] at g2; cases g2
  rw [va_up_ne _ _ (Ne.symm nr)] at g1
  rw [va_up_ne _ _ (Ne.symm nt)] at g2
  have k2 : ∀ x, P x ≠ none → P2 x = P x := fun x hx => by
    have e1 : x ≠ nb := fun e => hx (by rw [e]; exact hn)
    rw [g5 x e1 (fun e => hx (by rw [e]; exact g1)) (fun e => hx (by rw [e]; exact g2)), va_up_ne _ _ e1]
  have k3 : ∀ x, P x ≠ none → x ≠ bt → P3 x = P x := fun x hx e => (g7 x e).trans (k2 x hx)
  have hb0 : P bt ≠ none := bj_ne h1
  have nbt : nb ≠ bt := fun e => hb0 (by rw [← e]; exact hn)
  have rbt : kr ≠ bt := fun e => hb0 (by rw [← e]; exact g1)
  have tbt : kt ≠ bt := fun e => hb0 (by rw [← e]; exact g2)
  have hq : P q ≠ none := bj_ne h4
  have qbt : q ≠ bt := fun e => by rw [e, h1] at h4; cases h4
  have kk : ∀ x, P x ≠ none → P3 x ≠ none := fun x hx => by
    by_cases e : x = bt
    · rw [e, g6]; exact fun z => by cases z
    · rw [k3 x hx e]; exact hx
  have bm : M bt = none := by
    have := h8 2 (by decide) (Or.inl (by decide))
    exact this
  have ok3 : ba_ok c (fun k => k) P3 nb kr kt (nI 0) 0 (fun _ => 0) (fun _ => 0) := g4.in (g7 _ nbt) (g7 _ rbt) (g7 _ tbt)
  have dbt : dr ≠ bt := fun e => by
    have := h7.2 1 2 (Or.inl (by decide)) (Or.inl (by decide)) e
    cases this
  refine ⟨g6, fun i hi => ?_, fun i hi => ?_, (k3 q hq qbt).trans h4, h5.in (k3 dr h5.ne dbt), ⟨fun x hx => kk x (h6.1 x hx), fun x hx hxq => (k3 x (h6.1 x hx) (fun e => hx (by rw [e]; exact bm))).trans (h6.2 x hx hxq)⟩, ?_, fun k k0 kd => ?_⟩
  · by_cases e : i = b
    · rw [e, va_up_self, va_up_self]
    · rw [va_up_ne _ _ e, va_up_ne _ _ e]; exact h2 i (by omega)
  · by_cases e : i = b
    · rw [e, va_up_self, va_up_self, va_up_self]; exact ok3
    · rw [va_up_ne _ _ e, va_up_ne _ _ e, va_up_ne _ _ e]
      have w := h3 i (by omega)
      have n2 : ∀ k, b_D b k → k ≠ 2 → b_ad q dr bt B KR KT k ≠ bt := fun k kd k2 z => k2 (h7.2 k 2 kd (Or.inl (by decide)) z)
      have a1 := n2 (3 + i) (Or.inr (Or.inl (by omega))) (by omega)
      have a2 := n2 (15 + i) (Or.inr (Or.inr (Or.inl (by omega)))) (by omega)
      have a3 := n2 (27 + i) (Or.inr (Or.inr (Or.inr (by omega)))) (by omega)
      rw [b_ad3 (by omega)] at a1
      rw [b_ad15 (by omega)] at a2
      rw [b_ad27 (by omega)] at a3
      exact w.in (k3 _ (bj_ne w.1) a1) (k3 _ w.2.1.ne a2) (k3 _ w.2.2.ne a3)
  · have hx := h7.ex (ad' := b_ad q dr bt (va_up B b nb) (va_up KR b kr) (va_up KT b kt)) (fun x hx => b_ad_to hb hx)
    have e3 : b_ad q dr bt (va_up B b nb) (va_up KR b kr) (va_up KT b kt) (3 + b) = nb := by rw [b_ad3 hb, va_up_self]
    have e15 : b_ad q dr bt (va_up B b nb) (va_up KR b kr) (va_up KT b kt) (15 + b) = kr := by rw [b_ad15 hb, va_up_self]
    have e27 : b_ad q dr bt (va_up B b nb) (va_up KR b kr) (va_up KT b kt) (27 + b) = kt := by rw [b_ad27 hb, va_up_self]
    refine (hx.blk (P' := P3) (fun x => x = 3 + b ∨ x = 15 + b ∨ x = 27 + b) ?_ ?_ ?_ kk).to (fun x hx => ?_) (fun _ h => h)
    · rintro i (rfl | rfl | rfl)
      · rw [e3]; exact hn
      · rw [e15]; exact g1
      · rw [e27]; exact g2
    · rintro i j (rfl | rfl | rfl) (rfl | rfl | rfl) z <;> simp only [e3, e15, e27] at z
      · rfl
      · exact absurd z nr
      · exact absurd z nt
      · exact absurd z (Ne.symm nr)
      · rfl
      · exact absurd z g3
      · exact absurd z (Ne.symm nt)
      · exact absurd z (Ne.symm g3)
      · rfl
    · rintro i (rfl | rfl | rfl)
      · rw [e3]; exact bj_ne ok3.1
      · rw [e15]; exact ok3.2.1.ne
      · rw [e27]; exact ok3.2.2.ne
    · show b_D b x ∨ (x = 3 + b ∨ x = 15 + b ∨ x = 27 + b)
      unfold b_D at hx ⊢
      omega
  · have hk : b_D b k ∨ k = 3 + b ∨ k = 15 + b ∨ k = 27 + b := by
      unfold b_D at kd ⊢
      omega
    rcases hk with hk | rfl | rfl | rfl
    · rw [b_ad_to hb hk]; exact h8 k k0 hk
    · rw [b_ad3 hb, va_up_self]; exact h6.old hn
    · rw [b_ad15 hb, va_up_self]; exact h6.old g1
    · rw [b_ad27 hb, va_up_self]; exact h6.old g2
/-- a new count -/
theorem n_Co {c : Nat → ClassId} {P P2 : bj_M} {q N : Nat} {y : va_E} {r : Option Value} (hn : P q = none) (h : q_iCo c (va_up P q (some y)) q N (.inl r) P2) : r = none ∧ ∃ o, (∀ i, i ≤ N → P (o + i) = none ∧ o + i ≠ q) ∧ P2 q = some (.inr (2, [.int (nI N), .int (nI 0), .ref o])) ∧ gd_ok c P2 o N ∧ ex_a P P2 := by
  obtain ⟨h1, o, h2, h3, h4, h5⟩ := h
  have e : ∀ i, i ≤ N → P (o + i) = none ∧ o + i ≠ q := fun i hi => by
    have e1 : o + i ≠ q := fun e => by have := h2 i hi; rw [e, va_up_self] at this; cases this
    have := h2 i hi
    rw [va_up_ne _ _ e1] at this
    exact ⟨this, e1⟩
  refine ⟨h1, o, e, h3, h4, fun x hx => ?_⟩
  have e1 : x ≠ q := fun e => hx (by rw [e]; exact hn)
  rw [h5 x e1 (fun z => hx (by have := (e (x - o) (by omega)).1; rwa [show o + (x - o) = x by omega] at this)), va_up_ne _ _ e1]
theorem n_Pa {c : Nat → ClassId} {P P2 : bj_M} {q N : Nat} {y : va_E} {r : Option Value} (hn : P q = none) (h : q_iPa c (va_up P q (some y)) q N (.inl r) P2) : r = none ∧ ∃ o z, (∀ i, i ≤ N → P (o + i) = none ∧ o + i ≠ q) ∧ P z = none ∧ z ≠ q ∧ ¬ (o ≤ z ∧ z ≤ o + N) ∧ P2 q = some (.inr (1, [.int (nI N), .ref o, .ref z])) ∧ gd_ok c P2 o N ∧ bv_I (c 0) P2 z N (fun _ => 0) ∧ ex_a P P2 := by
  obtain ⟨h1, o, z, h2, hz, hzo, h3, h4, h4z, h5⟩ := h
  have e : ∀ i, i ≤ N → P (o + i) = none ∧ o + i ≠ q := fun i hi => by
    have e1 : o + i ≠ q := fun e => by have := h2 i hi; rw [e, va_up_self] at this; cases this
    have := h2 i hi
    rw [va_up_ne _ _ e1] at this
    exact ⟨this, e1⟩
  have ez : z ≠ q := fun e => by rw [e, va_up_self] at hz; cases hz
  rw [va_up_ne _ _ ez] at hz
  refine ⟨h1, o, z, e, hz, ez, hzo, h3, h4, h4z, fun x hx => ?_⟩
  have e1 : x ≠ q := fun e => hx (by rw [e]; exact hn)
  rw [h5 x e1 (fun e => hx (by rw [e]; exact hz)) (fun z => hx (by have := (e (x - o) (by omega)).1; rwa [show o + (x - o) = x by omega] at this)), va_up_ne _ _ e1]
theorem n_Lo {c : Nat → ClassId} {P P2 : bj_M} {q N : Nat} {y : va_E} {r : Option Value} (hn : P q = none) (h : q_iLo c (va_up P q (some y)) q N (.inl r) P2) : r = none ∧ ∃ a1 a2 a3 a4, (P a1 = none ∧ P a2 = none ∧ P a3 = none ∧ P a4 = none) ∧ (a1 ≠ q ∧ a2 ≠ q ∧ a3 ≠ q ∧ a4 ≠ q) ∧ (a1 ≠ a2 ∧ a1 ≠ a3 ∧ a1 ≠ a4 ∧ a2 ≠ a3 ∧ a2 ≠ a4 ∧ a3 ≠ a4) ∧ P2 q = some (.inr (3, [.int (nI N), .ref a1, .ref a2, .ref a3, .ref a4, .int (nI 0)])) ∧ bv_I (c 0) P2 a1 N (fun _ => 0) ∧ bv_I (c 0) P2 a2 N (fun _ => 0) ∧ bv_I (c 0) P2 a3 (N * N) (fun _ => 0) ∧ bv_I (c 0) P2 a4 (N * N) (fun _ => 0) ∧ ex_a P P2 := by
  obtain ⟨h1, a1, a2, a3, a4, f1, f2, f3, f4, d1, d2, d3, d4, d5, d6, h3, w1, w2, w3, w4, h5⟩ := h
  have e : ∀ a, va_up P q (some y) a = none → P a = none ∧ a ≠ q := fun a ha => by
    have e1 : a ≠ q := fun e => by rw [e, va_up_self] at ha; cases ha
    rw [va_up_ne _ _ e1] at ha
    exact ⟨ha, e1⟩
  refine ⟨h1, a1, a2, a3, a4, ⟨(e _ f1).1, (e _ f2).1, (e _ f3).1, (e _ f4).1⟩, ⟨(e _ f1).2, (e _ f2).2, (e _ f3).2, (e _ f4).2⟩, ⟨d1, d2, d3, d4, d5, d6⟩, h3, w1, w2, w3, w4, fun x hx => ?_⟩
  have n1 : ∀ a, va_up P q (some y) a = none → x ≠ a := fun a ha z => hx (by rw [z]; exact (e a ha).1)
  have e1 : x ≠ q := fun e => hx (by rw [e]; exact hn)
  rw [h5 x e1 (n1 _ f1) (n1 _ f2) (n1 _ f3) (n1 _ f4), va_up_ne _ _ e1]
/-- the office's addresses -/
def of_ad (q dr bt : Nat) (B KR KT : Nat → Nat) (c1 o1 c2 o2 pa o3 z lo a1 a2 a3 a4 : Nat) (k : Nat) : Nat := if k < 39 then b_ad q dr bt B KR KT k else if k = 39 then c1 else if k < 49 then o1 + (k - 40) else if k = 49 then c2 else if k < 59 then o2 + (k - 50) else if k = 59 then pa else if k < 69 then o3 + (k - 60) else if k = 69 then z else if k = 70 then lo else if k = 71 then a1 else if k = 72 then a2 else if k = 73 then a3 else a4
def of_D (N k : Nat) : Bool := decide (k < 39 ∨ (k = 39 ∨ (40 ≤ k ∧ k ≤ 40 + N)) ∨ (k = 49 ∨ (50 ≤ k ∧ k ≤ 50 + N)) ∨ (k = 59 ∨ (60 ≤ k ∧ k ≤ 60 + N) ∨ k = 69) ∨ (k = 70 ∨ k = 71 ∨ k = 72 ∨ k = 73 ∨ k = 74))
section OA
variable {q dr bt : Nat} {B KR KT : Nat → Nat} {c1 o1 c2 o2 pa o3 z lo a1 a2 a3 a4 : Nat} {k : Nat}
theorem oa_0 (h : k < 39) : of_ad q dr bt B KR KT c1 o1 c2 o2 pa o3 z lo a1 a2 a3 a4 k = b_ad q dr bt B KR KT k := by
  unfold of_ad
  rw [if_pos (by omega)]
theorem oa_39 : of_ad q dr bt B KR KT c1 o1 c2 o2 pa o3 z lo a1 a2 a3 a4 39 = c1 := by
  unfold of_ad
  rw [if_neg (by omega), if_pos (by omega)]
theorem oa_40 (h : k < 9) : of_ad q dr bt B KR KT c1 o1 c2 o2 pa o3 z lo a1 a2 a3 a4 (40 + k) = o1 + k := by
  unfold of_ad
  rw [if_neg (by omega), if_neg (by omega), if_pos (by omega)]
  congr 1; omega
theorem oa_49 : of_ad q dr bt B KR KT c1 o1 c2 o2 pa o3 z lo a1 a2 a3 a4 49 = c2 := by
  unfold of_ad
  rw [if_neg (by omega), if_neg (by omega), if_neg (by omega), if_pos (by omega)]
theorem oa_50 (h : k < 9) : of_ad q dr bt B KR KT c1 o1 c2 o2 pa o3 z lo a1 a2 a3 a4 (50 + k) = o2 + k := by
  unfold of_ad
  rw [if_neg (by omega), if_neg (by omega), if_neg (by omega), if_neg (by omega), if_pos (by omega)]
  congr 1; omega
theorem oa_59 : of_ad q dr bt B KR KT c1 o1 c2 o2 pa o3 z lo a1 a2 a3 a4 59 = pa := by
  unfold of_ad
  rw [if_neg (by omega), if_neg (by omega), if_neg (by omega), if_neg (by omega), if_neg (by omega), if_pos (by omega)]
theorem oa_60 (h : k < 9) : of_ad q dr bt B KR KT c1 o1 c2 o2 pa o3 z lo a1 a2 a3 a4 (60 + k) = o3 + k := by
  unfold of_ad
  rw [if_neg (by omega), if_neg (by omega), if_neg (by omega), if_neg (by omega), if_neg (by omega), if_neg (by omega), if_pos (by omega)]
  congr 1; omega
theorem oa_69 : of_ad q dr bt B KR KT c1 o1 c2 o2 pa o3 z lo a1 a2 a3 a4 69 = z := by
  unfold of_ad
  rw [if_neg (by omega), if_neg (by omega), if_neg (by omega), if_neg (by omega), if_neg (by omega), if_neg (by omega), if_neg (by omega), if_pos (by omega)]
theorem oa_70 : of_ad q dr bt B KR KT c1 o1 c2 o2 pa o3 z lo a1 a2 a3 a4 70 = lo := by
  unfold of_ad
  rw [if_neg (by omega), if_neg (by omega), if_neg (by omega), if_neg (by omega), if_neg (by omega), if_neg (by omega), if_neg (by omega), if_neg (by omega), if_pos (by omega)]
theorem oa_71 : of_ad q dr bt B KR KT c1 o1 c2 o2 pa o3 z lo a1 a2 a3 a4 71 = a1 := by
  unfold of_ad
  rw [if_neg (by omega), if_neg (by omega), if_neg (by omega), if_neg (by omega), if_neg (by omega), if_neg (by omega), if_neg (by omega), if_neg (by omega), if_neg (by omega), if_pos (by omega)]
theorem oa_72 : of_ad q dr bt B KR KT c1 o1 c2 o2 pa o3 z lo a1 a2 a3 a4 72 = a2 := by
  unfold of_ad
  rw [if_neg (by omega), if_neg (by omega), if_neg (by omega), if_neg (by omega), if_neg (by omega), if_neg (by omega), if_neg (by omega), if_neg (by omega), if_neg (by omega), if_neg (by omega), if_pos (by omega)]
theorem oa_73 : of_ad q dr bt B KR KT c1 o1 c2 o2 pa o3 z lo a1 a2 a3 a4 73 = a3 := by
  unfold of_ad
  rw [if_neg (by omega), if_neg (by omega), if_neg (by omega), if_neg (by omega), if_neg (by omega), if_neg (by omega), if_neg (by omega), if_neg (by omega), if_neg (by omega), if_neg (by omega), if_neg (by omega), if_pos (by omega)]
theorem oa_74 : of_ad q dr bt B KR KT c1 o1 c2 o2 pa o3 z lo a1 a2 a3 a4 74 = a4 := by
  unfold of_ad
  rw [if_neg (by omega), if_neg (by omega), if_neg (by omega), if_neg (by omega), if_neg (by omega), if_neg (by omega), if_neg (by omega), if_neg (by omega), if_neg (by omega), if_neg (by omega), if_neg (by omega), if_neg (by omega)]
end OA

theorem n_Ba {c : Nat → ClassId} {P P2 : bj_M} {q : Nat} {y : va_E} {r : Option Value} (hn : P q = none) (h : q_iBa c (va_up P q (some y)) q (.inl r) P2) : ex_a P P2 := by
  obtain ⟨h1, kr, kt, f1, f2, d1, h3, h5⟩ := h
  have e : ∀ a, va_up P q (some y) a = none → P a = none := fun a ha => by
    have e1 : a ≠ q := fun e => by rw [e, va_up_self] at ha; cases ha
    rwa [va_up_ne _ _ e1] at ha
  intro x hx
  have n1 : ∀ a, va_up P q (some y) a = none → x ≠ a := fun a ha z => hx (by rw [z]; exact e a ha)
  have e1 : x ≠ q := fun e => hx (by rw [e]; exact hn)
  rw [h5 x e1 (n1 _ f1) (n1 _ f2), va_up_ne _ _ e1]
theorem hfs_Ba : ∀ j, j < 4 → defaultValue (ty_Ba j) = vp_V [.int (nI 0), .int (nI 0), .null, .null] j := fun j hj => match j, hj with
  | 0, _ => rfl | 1, _ => rfl | 2, _ => rfl | 3, _ => rfl
theorem hfs_Co : ∀ j, j < 3 → defaultValue (ty_Co j) = vp_V [.int (nI 0), .int (nI 0), .null] j := fun j hj => match j, hj with
  | 0, _ => rfl | 1, _ => rfl | 2, _ => rfl
theorem hfs_Pa : ∀ j, j < 3 → defaultValue (ty_Pa j) = vp_V [.int (nI 0), .null, .null] j := fun j hj => match j, hj with
  | 0, _ => rfl | 1, _ => rfl | 2, _ => rfl
theorem hfs_Lo : ∀ j, j < 6 → defaultValue (ty_Lo j) = vp_V [.int (nI 0), .null, .null, .null, .null, .int (nI 0)] j := fun j hj => match j, hj with
  | 0, _ => rfl | 1, _ => rfl | 2, _ => rfl | 3, _ => rfl | 4, _ => rfl | 5, _ => rfl


theorem co_new {c : Nat → ClassId} {ad : Nat → Nat} {D : Nat → Bool} {P : bj_M} {k a o N : Nat} {vs : Int32} {p : Nat → Nat → Int32} (e0 : ad k = a) (e1 : ad (k + 1) = o) (e2 : ∀ i, i < N → ad (k + 2 + i) = o + 1 + i) (d0 : D k = true) (d1 : D (k + 1) = true) (d2 : ∀ i, i < N → D (k + 2 + i) = true) (hq : P a = some (.inr (2, [.int (nI N), .int vs, .ref o]))) (hg : gd_ok c P o N) (hp : ∀ a b, p a b = 0) : co_ok c ad (pic D ad P) k N vs p := by
  refine ⟨?_, ?_, fun i hi => ?_⟩
  · rw [pic_at d0, e0, e1]; exact hq
  · obtain ⟨f, h1, h2⟩ := hg.1
    exact ⟨f, by rw [pic_at d1, e1]; exact h1, fun j hj => by rw [h2 j hj]; show _ = some (ad (k + 2 + j)); rw [e2 j hj]⟩
  · exact (((hg.2 i hi).to (g' := p i) (fun j _ => (hp i j).symm))).elim (fun f h => ⟨f, by rw [pic_at (d2 i hi), e2 i hi]; exact h.1, h.2⟩)
theorem pa_new {c : Nat → ClassId} {ad : Nat → Nat} {D : Nat → Bool} {P : bj_M} {k a o z N : Nat} (e0 : ad k = a) (e1 : ad (k + 1) = o) (e2 : ∀ i, i < N → ad (k + 2 + i) = o + 1 + i) (e3 : ad (k + 10) = z) (d0 : D k = true) (d1 : D (k + 1) = true) (d2 : ∀ i, i < N → D (k + 2 + i) = true) (hq : P a = some (.inr (1, [.int (nI N), .ref o, .ref z]))) (hg : gd_ok c P o N) : pa_ok c ad (pic D ad P) k N (fun _ _ => 0) := by
  refine ⟨?_, ?_, fun i hi => ?_, fun _ _ _ _ => by show (0 : Nat) < 2 ^ 31; decide⟩
  · rw [pic_at d0, e0, e1, e3]; exact hq
  · obtain ⟨f, h1, h2⟩ := hg.1
    exact ⟨f, by rw [pic_at d1, e1]; exact h1, fun j hj => by rw [h2 j hj]; show _ = some (ad (k + 2 + j)); rw [e2 j hj]⟩
  · exact (hg.2 i hi).elim (fun f h => ⟨f, by rw [pic_at (d2 i hi), e2 i hi]; exact h.1, h.2⟩)
theorem bv_pic {cI : ClassId} {ad : Nat → Nat} {D : Nat → Bool} {P : bj_M} {k a N : Nat} {g : Nat → Int32} (e0 : ad k = a) (d0 : D k = true) (h : bv_I cI P a N g) : bv_I cI (pic D ad P) k N g := h.elim (fun f h => ⟨f, (pic_at d0).trans (by rw [e0]; exact h.1), h.2⟩)
theorem nu.cb {ad : Nat → Nat} {D : Nat → Prop} {P P' : bj_M} {k a o N : Nat} (h : nu ad D P) (e0 : ad k = a) (e1 : ∀ j, j ≤ N → ad (k + 1 + j) = o + j) (ha : P a = none) (ho : ∀ i, i ≤ N → P (o + i) = none ∧ o + i ≠ a) (a' : P' a ≠ none) (o' : ∀ i, i ≤ N → P' (o + i) ≠ none) (hP : ∀ x, P x ≠ none → P' x ≠ none) : nu ad (fun x => D x ∨ (x = k ∨ (k + 1 ≤ x ∧ x ≤ k + 1 + N))) P' := by
  have cs : ∀ x, (x = k ∨ (k + 1 ≤ x ∧ x ≤ k + 1 + N)) → x = k ∨ ∃ j, j ≤ N ∧ x = k + 1 + j := fun x hx => hx.imp id (fun h => ⟨x - (k + 1), by omega, by omega⟩)
  refine h.blk _ (fun i hi => ?_) (fun i j hi hj z => ?_) (fun i hi => ?_) hP
  · rcases cs i hi with rfl | ⟨j, hj, rfl⟩
    · rw [e0]; exact ha
    · rw [e1 j hj]; exact (ho j hj).1
  · rcases cs i hi with rfl | ⟨i', hi', rfl⟩ <;> rcases cs j hj with rfl | ⟨j', hj', rfl⟩
    · rfl
    · rw [e0, e1 j' hj'] at z; exact absurd z.symm (ho j' hj').2
    · rw [e0, e1 i' hi'] at z; exact absurd z (ho i' hi').2
    · rw [e1 i' hi', e1 j' hj'] at z; omega
  · rcases cs i hi with rfl | ⟨j, hj, rfl⟩
    · rw [e0]; exact a'
    · rw [e1 j hj]; exact o' j hj
theorem gd_ok.ne {c : Nat → ClassId} {M : bj_M} {o N : Nat} (h : gd_ok c M o N) : ∀ i, i ≤ N → M (o + i) ≠ none := fun i hi => by
  rcases Nat.eq_zero_or_pos i with rfl | hp
  · obtain ⟨f, h1, -⟩ := h.1
    exact bj_ne h1
  · have := (h.2 (i - 1) (by omega)).ne
    rwa [show o + 1 + (i - 1) = o + i by omega] at this
def q_iOf (c : Nat → ClassId) (M : bj_M) (q N : Nat) : bj_R → bj_M → Prop := bj_ret (fun r M' => r = none ∧ ∃ ad, ad 0 = q ∧ nu ad (fun k => of_D N k = true) M' ∧ (∀ k, k ≠ 0 → of_D N k = true → M (ad k) = none) ∧ of_all c ad (pic (of_D N) ad M') N 0 false (fun i => i) (fun _ => 0) (fun _ => 0) (fun _ _ => 0) (fun _ _ => 0) ∧ ex_k q M M')
theorem of_new {c : Nat → ClassId} {M P0 P1 P2 P3 P4 P5 P6 P7 P8 P9 : bj_M} {q dr bt N : Nat} {fs : List Value} {B KR KT : Nat → Nat} {f : Nat → Option Nat} {c1 o1 c2 o2 pa o3 z lo a1 a2 a3 a4 : Nat} (h1N : 1 ≤ N) (hN : N ≤ 8)
    (hb : bat c M q dr bt N fs 12 P0 B KR KT f) (x1 : ex_k q P0 P1) (hc1 : P1 c1 = none) (ho1 : ∀ i, i ≤ N → P1 (o1 + i) = none ∧ o1 + i ≠ c1) (w1 : P2 c1 = some (.inr (2, [.int (nI N), .int (nI 0), .ref o1]))) (g1 : gd_ok c P2 o1 N) (x2 : ex_a P1 P2)
    (x3 : ex_k q P2 P3) (hc2 : P3 c2 = none) (ho2 : ∀ i, i ≤ N → P3 (o2 + i) = none ∧ o2 + i ≠ c2) (w2 : P4 c2 = some (.inr (2, [.int (nI N), .int (nI 0), .ref o2]))) (g2 : gd_ok c P4 o2 N) (x4 : ex_a P3 P4)
    (x5 : ex_k q P4 P5) (hpa : P5 pa = none) (ho3 : ∀ i, i ≤ N → P5 (o3 + i) = none ∧ o3 + i ≠ pa) (hz : P5 z = none) (zp : z ≠ pa) (zo : ¬ (o3 ≤ z ∧ z ≤ o3 + N)) (w3 : P6 pa = some (.inr (1, [.int (nI N), .ref o3, .ref z]))) (g3 : gd_ok c P6 o3 N) (gz : bv_I (c 0) P6 z N (fun _ => 0)) (x6 : ex_a P5 P6)
    (x7 : ex_k q P6 P7) (hlo : P7 lo = none) (ha : P7 a1 = none ∧ P7 a2 = none ∧ P7 a3 = none ∧ P7 a4 = none) (hal : a1 ≠ lo ∧ a2 ≠ lo ∧ a3 ≠ lo ∧ a4 ≠ lo) (haa : a1 ≠ a2 ∧ a1 ≠ a3 ∧ a1 ≠ a4 ∧ a2 ≠ a3 ∧ a2 ≠ a4 ∧ a3 ≠ a4) (w4 : P8 lo = some (.inr (3, [.int (nI N), .ref a1, .ref a2, .ref a3, .ref a4, .int (nI 0)]))) (v1 : bv_I (c 0) P8 a1 N (fun _ => 0)) (v2 : bv_I (c 0) P8 a2 N (fun _ => 0)) (v3 : bv_I (c 0) P8 a3 (N * N) (fun _ => 0)) (v4 : bv_I (c 0) P8 a4 (N * N) (fun _ => 0)) (x8 : ex_a P7 P8)
    (x9 : ex_k q P8 P9) (hq : P9 q = some (.inr (4, [.int (nI N), .ref dr, .ref bt, .int (nI 0), .int (nI 0), .ref c1, .ref c2, .ref pa, .ref lo]))) : q_iOf c M q N (.inl none) P9 := by
  obtain ⟨b1, b2, b3, b4, b5, b6, b7, b8⟩ := hb
  have X8 : ex_k q P8 P9 := x9
  have X7 : ex_k q P7 P9 := (x8.k q).tr X8
  have X6 : ex_k q P6 P9 := x7.tr X7
  have X5 : ex_k q P5 P9 := (x6.k q).tr X6
  have X4 : ex_k q P4 P9 := x5.tr X5
  have X3 : ex_k q P3 P9 := (x4.k q).tr X4
  have X2 : ex_k q P2 P9 := x3.tr X3
  have X1 : ex_k q P1 P9 := (x2.k q).tr X2
  have X0 : ex_k q P0 P9 := x1.tr X1
  have q0 : P0 q ≠ none := bj_ne b4
  have q1 : P1 q ≠ none := x1.1 q q0
  have q3 : P3 q ≠ none := x3.1 q ((x2.k q).1 q q1)
  have q5 : P5 q ≠ none := x5.1 q ((x4.k q).1 q q3)
  have q7 : P7 q ≠ none := x7.1 q ((x6.k q).1 q q5)
  have nq : ∀ {P : bj_M} {x : Nat}, P q ≠ none → P x = none → x ≠ q := fun hP hx e => hP (by rw [← e]; exact hx)
  have E2 : ex_k q M P1 := b6.tr x1
  have E3 : ex_k q M P3 := (E2.tr (x2.k q)).tr x3
  have E5 : ex_k q M P5 := (E3.tr (x4.k q)).tr x5
  have E7 : ex_k q M P7 := (E5.tr (x6.k q)).tr x7
  have E9 : ex_k q M P9 := (E7.tr (x8.k q)).tr x9
  generalize hAD : of_ad q dr bt B KR KT c1 o1 c2 o2 pa o3 z lo a1 a2 a3 a4 = ad
  have e0 : ∀ k, k < 39 → ad k = b_ad q dr bt B KR KT k := fun k hk => by rw [← hAD]; exact oa_0 hk
  have e39 : ad 39 = c1 := by rw [← hAD]; exact oa_39
  have e40 : ∀ j, j ≤ N → ad (39 + 1 + j) = o1 + j := fun j hj => by rw [← hAD]; exact oa_40 (by omega)
  have e49 : ad 49 = c2 := by rw [← hAD]; exact oa_49
  have e50 : ∀ j, j ≤ N → ad (49 + 1 + j) = o2 + j := fun j hj => by rw [← hAD]; exact oa_50 (by omega)
  have e59 : ad 59 = pa := by rw [← hAD]; exact oa_59
  have e60 : ∀ j, j ≤ N → ad (59 + 1 + j) = o3 + j := fun j hj => by rw [← hAD]; exact oa_60 (by omega)
  have e69 : ad 69 = z := by rw [← hAD]; exact oa_69
  have e70 : ad 70 = lo := by rw [← hAD]; exact oa_70
  have e71 : ad 71 = a1 := by rw [← hAD]; exact oa_71
  have e72 : ad 72 = a2 := by rw [← hAD]; exact oa_72
  have e73 : ad 73 = a3 := by rw [← hAD]; exact oa_73
  have e74 : ad 74 = a4 := by rw [← hAD]; exact oa_74
  clear hAD
  have bD : ∀ x, b_D 12 x ↔ x < 39 := fun x => by unfold b_D; omega
  -- numbers
  have s0 : nu ad (b_D 12) P0 := b7.ex (fun x hx => e0 x ((bD x).mp hx))
  have s1 := (s0.to (fun _ h => h) x1.1).cb e39 e40 hc1 ho1 (bj_ne w1) g1.ne (x2.k q).1
  have s2 := (s1.to (fun _ h => h) x3.1).cb e49 e50 hc2 ho2 (bj_ne w2) g2.ne (x4.k q).1
  have s3 := (s2.to (fun _ h => h) x5.1).blk (P' := P6) (fun x => x = 59 ∨ (60 ≤ x ∧ x ≤ 60 + N) ∨ x = 69) (by
    rintro i (rfl | hi | rfl)
    · rw [e59]; exact hpa
    · obtain ⟨j, rfl⟩ : ∃ j, i = 59 + 1 + j := ⟨i - 60, by omega⟩
      rw [e60 j (by omega)]; exact (ho3 j (by omega)).1
    · rw [e69]; exact hz) (by
    rintro i j (rfl | hi | rfl) (rfl | hj | rfl) h
    · rfl
    · obtain ⟨j', rfl⟩ : ∃ j', j = 59 + 1 + j' := ⟨j - 60, by omega⟩
      rw [e59, e60 j' (by omega)] at h; exact absurd h.symm (ho3 j' (by omega)).2
    · rw [e59, e69] at h; exact absurd h.symm zp
    · obtain ⟨j', rfl⟩ : ∃ j', i = 59 + 1 + j' := ⟨i - 60, by omega⟩
      rw [e59, e60 j' (by omega)] at h; exact absurd h (ho3 j' (by omega)).2
    · obtain ⟨i', rfl⟩ : ∃ j', i = 59 + 1 + j' := ⟨i - 60, by omega⟩
      obtain ⟨j', rfl⟩ : ∃ j', j = 59 + 1 + j' := ⟨j - 60, by omega⟩
      rw [e60 i' (by omega), e60 j' (by omega)] at h; omega
    · obtain ⟨i', rfl⟩ : ∃ j', i = 59 + 1 + j' := ⟨i - 60, by omega⟩
      rw [e60 i' (by omega), e69] at h; exact absurd ⟨by omega, by omega⟩ zo
    · rw [e59, e69] at h; exact absurd h zp
    · obtain ⟨j', rfl⟩ : ∃ j', j = 59 + 1 + j' := ⟨j - 60, by omega⟩
      rw [e60 j' (by omega), e69] at h; exact absurd ⟨by omega, by omega⟩ zo
    · rfl) (by
    rintro i (rfl | hi | rfl)
    · rw [e59]; exact bj_ne w3
    · obtain ⟨j, rfl⟩ : ∃ j, i = 59 + 1 + j := ⟨i - 60, by omega⟩
      rw [e60 j (by omega)]; exact g3.ne j (by omega)
    · rw [e69]; exact gz.ne) (x6.k q).1
  obtain ⟨ha1, ha2, ha3, ha4⟩ := ha
  obtain ⟨l1, l2, l3, l4⟩ := hal
  obtain ⟨m1, m2, m3, m4, m5, m6⟩ := haa
  have s4 := (s3.to (fun _ h => h) x7.1).blk (P' := P8) (fun x => x = 70 ∨ x = 71 ∨ x = 72 ∨ x = 73 ∨ x = 74) (by
    rintro i (rfl | rfl | rfl | rfl | rfl)
    · rw [e70]; exact hlo
    · rw [e71]; exact ha1
    · rw [e72]; exact ha2
    · rw [e73]; exact ha3
    · rw [e74]; exact ha4) (by
    rintro i j (rfl | rfl | rfl | rfl | rfl) (rfl | rfl | rfl | rfl | rfl) h <;> simp only [e70, e71, e72, e73, e74] at h <;> first | rfl | exact absurd h (by assumption) | exact absurd h.symm (by assumption)) (by
    rintro i (rfl | rfl | rfl | rfl | rfl)
    · rw [e70]; exact bj_ne w4
    · rw [e71]; exact v1.ne
    · rw [e72]; exact v2.ne
    · rw [e73]; exact v3.ne
    · rw [e74]; exact v4.ne) (x8.k q).1
  have sE : nu ad (fun k => of_D N k = true) P9 := s4.to (fun x hx => by
    have h := of_decide_eq_true hx
    show (((b_D 12 x ∨ (x = 39 ∨ (39 + 1 ≤ x ∧ x ≤ 39 + 1 + N))) ∨ (x = 49 ∨ (49 + 1 ≤ x ∧ x ≤ 49 + 1 + N))) ∨ (x = 59 ∨ (60 ≤ x ∧ x ≤ 60 + N) ∨ x = 69)) ∨ (x = 70 ∨ x = 71 ∨ x = 72 ∨ x = 73 ∨ x = 74)
    rw [bD]
    omega) x9.1
  have dD : ∀ k, (k < 39 ∨ (k = 39 ∨ (40 ≤ k ∧ k ≤ 40 + N)) ∨ (k = 49 ∨ (50 ≤ k ∧ k ≤ 50 + N)) ∨ (k = 59 ∨ (60 ≤ k ∧ k ≤ 60 + N) ∨ k = 69) ∨ (k = 70 ∨ k = 71 ∨ k = 72 ∨ k = 73 ∨ k = 74)) → of_D N k = true := fun k hk => decide_eq_true hk
  -- contents
  have kp : ∀ {P : bj_M} {o : Nat}, ex_k q P P9 → gd_ok c P o N → (∀ i, i ≤ N → o + i ≠ q) → gd_ok c P9 o N := fun {P o} X g hn => g.in (fun x h1 h2 => by
    have e := hn (x - o) (by omega)
    have e2 := g.ne (x - o) (by omega)
    rw [show o + (x - o) = x by omega] at e e2
    exact X.2 x e2 e)
  have W1 : P9 c1 = _ := (X2.2 c1 (bj_ne w1) (nq q1 hc1)).trans w1
  have W2 : P9 c2 = _ := (X4.2 c2 (bj_ne w2) (nq q3 hc2)).trans w2
  have W3 : P9 pa = _ := (X6.2 pa (bj_ne w3) (nq q5 hpa)).trans w3
  have W4 : P9 lo = _ := (X8.2 lo (bj_ne w4) (nq q7 hlo)).trans w4
  have G1 := kp X2 g1 (fun i hi => nq q1 (ho1 i hi).1)
  have G2 := kp X4 g2 (fun i hi => nq q3 (ho2 i hi).1)
  have G3 := kp X6 g3 (fun i hi => nq q5 (ho3 i hi).1)
  have GZ : bv_I (c 0) P9 z N (fun _ => 0) := gz.in (X6.2 z gz.ne (nq q5 hz))
  have V1 : bv_I (c 0) P9 a1 N (fun _ => 0) := v1.in (X8.2 a1 v1.ne (nq q7 ha1))
  have V2 : bv_I (c 0) P9 a2 N (fun _ => 0) := v2.in (X8.2 a2 v2.ne (nq q7 ha2))
  have V3 : bv_I (c 0) P9 a3 (N * N) (fun _ => 0) := v3.in (X8.2 a3 v3.ne (nq q7 ha3))
  have V4 : bv_I (c 0) P9 a4 (N * N) (fun _ => 0) := v4.in (X8.2 a4 v4.ne (nq q7 ha4))
  have nb : ∀ k, k ≠ 0 → k < 39 → b_ad q dr bt B KR KT k ≠ q := fun k k0 k1 h => k0 (b7.2 k 0 ((bD k).mpr k1) ((bD 0).mpr (by decide)) h)
  have kb : ∀ k, k ≠ 0 → k < 39 → P9 (ad k) = P0 (ad k) := fun k k0 k1 => by
    rw [e0 k k1]
    exact X0.2 _ (b7.1 k ((bD k).mpr k1)) (nb k k0 k1)
  refine ⟨rfl, ad, e0 0 (by decide), sE, fun k k0 kd => ?_, ⟨⟨h1N, hN, by decide, ⟨fun i => i, fun i hi => ⟨hi, rfl⟩, fun a ha => ⟨ha, rfl⟩⟩, fun b hb => ⟨Nat.zero_le _, Nat.zero_le _, fun i hi => absurd hi (Nat.not_lt_zero i)⟩, fun b _ _ => ⟨rfl, rfl⟩⟩, ⟨?_, ?_, ?_, fun b hb => ⟨?_, ?_, ?_⟩, ?_⟩, ⟨⟨nI 0, fun _ _ => 0, ?_⟩, ⟨fun _ _ => 0, ?_⟩, ⟨fun _ => 0, ?_⟩, ⟨fun _ => 0, fun _ => 0, fun _ => 0, fun _ => 0, 0, ?_, ?_, ?_, ?_, ?_⟩⟩⟩, E9⟩
  · rcases of_decide_eq_true kd with h | h | h | h | h
    · rw [e0 k h]; exact b8 k k0 ((bD k).mpr h)
    · rcases h with rfl | h
      · rw [e39]; exact E2.old hc1
      · obtain ⟨j, rfl⟩ : ∃ j, k = 39 + 1 + j := ⟨k - 40, by omega⟩
        rw [e40 j (by omega)]; exact E2.old (ho1 j (by omega)).1
    · rcases h with rfl | h
      · rw [e49]; exact E3.old hc2
      · obtain ⟨j, rfl⟩ : ∃ j, k = 49 + 1 + j := ⟨k - 50, by omega⟩
        rw [e50 j (by omega)]; exact E3.old (ho2 j (by omega)).1
    · rcases h with rfl | h | rfl
      · rw [e59]; exact E5.old hpa
      · obtain ⟨j, rfl⟩ : ∃ j, k = 59 + 1 + j := ⟨k - 60, by omega⟩
        rw [e60 j (by omega)]; exact E5.old (ho3 j (by omega)).1
      · rw [e69]; exact E5.old hz
    · rcases h with rfl | rfl | rfl | rfl | rfl
      · rw [e70]; exact E7.old hlo
      · rw [e71]; exact E7.old ha1
      · rw [e72]; exact E7.old ha2
      · rw [e73]; exact E7.old ha3
      · rw [e74]; exact E7.old ha4
  · rw [pic_at (dD 0 (by omega)), e0 0 (by decide)]
    unfold of_F
    rw [e39, e49, e59, e70, e0 1 (by decide), e0 2 (by decide)]
    exact hq
  · refine bv_pic (e0 1 (by decide)) (dD 1 (by omega)) (b5.in ?_)
    have := kb 1 (by decide) (by decide)
    rwa [e0 1 (by decide)] at this
  · refine ⟨f, ?_, fun j hj => ?_⟩
    · rw [pic_at (dD 2 (by omega)), kb 2 (by decide) (by decide), e0 2 (by decide)]; exact b1
    · rw [b2 j hj]; show _ = some (ad (3 + j)); rw [e0 (3 + j) (by omega), b_ad3 hj]
  · have w := b3 b hb
    rw [pic_at (dD (3 + b) (by omega)), kb (3 + b) (by omega) (by omega), e0 (3 + b) (by omega), b_ad3 hb, e0 (15 + b) (by omega), b_ad15 hb, e0 (27 + b) (by omega), b_ad27 hb]
    exact w.1
  · have w := (b3 b hb).2.1
    have k1 := kb (15 + b) (by omega) (by omega)
    have e15 : ad (15 + b) = KR b := (e0 (15 + b) (by omega)).trans (b_ad15 hb)
    rw [e15] at k1
    exact bv_pic e15 (dD (15 + b) (by omega)) (w.in k1)
  · have w := (b3 b hb).2.2
    have k1 := kb (27 + b) (by omega) (by omega)
    have e27 : ad (27 + b) = KT b := (e0 (27 + b) (by omega)).trans (b_ad27 hb)
    rw [e27] at k1
    exact bv_pic e27 (dD (27 + b) (by omega)) (w.in k1)
  · exact co_new e39 (e40 0 (by omega)) (fun i hi => by have := e40 (1 + i) (by omega); rw [show o1 + 1 + i = o1 + (1 + i) by omega, ← this]; congr 1; omega) (dD _ (by omega)) (dD _ (by omega)) (fun i hi => dD _ (by omega)) W1 G1 (fun a b => rfl)
  · exact co_new e49 (e50 0 (by omega)) (fun i hi => by have := e50 (1 + i) (by omega); rw [show o2 + 1 + i = o2 + (1 + i) by omega, ← this]; congr 1; omega) (dD _ (by omega)) (dD _ (by omega)) (fun i hi => dD _ (by omega)) W2 G2 (fun a b => rfl)
  · exact pa_new e59 (e60 0 (by omega)) (fun i hi => by have := e60 (1 + i) (by omega); rw [show o3 + 1 + i = o3 + (1 + i) by omega, ← this]; congr 1; omega) e69 (dD _ (by omega)) (dD _ (by omega)) (fun i hi => dD _ (by omega)) W3 G3
  · exact bv_pic e69 (dD _ (by omega)) GZ
  · rw [pic_at (dD 70 (by omega)), e70]
    show P9 lo = some (.inr (3, [.int (nI N), .ref (ad 71), .ref (ad 72), .ref (ad 73), .ref (ad 74), .int (nI 0)]))
    rw [e71, e72, e73, e74]
    exact W4
  · exact bv_pic e71 (dD _ (by omega)) V1
  · exact bv_pic e72 (dD _ (by omega)) V2
  · exact bv_pic e73 (dD _ (by omega)) V3
  · exact bv_pic e74 (dD _ (by omega)) V4
variable (l : Launch) (D : va_G) (c : Nat → ClassId) (M : bj_M)
set_option maxRecDepth 100000 in
set_option maxHeartbeats 4000000 in
/-- new BeatPathOffice -/
theorem t_Of_init {q : Nat} {xn : Int32} (h0 : M q = some (.inr (4, [.int (nI 0), .null, .null, .int (nI 0), .int (nI 0), .null, .null, .null, .null]))) : bj_T (bw_G l D c) Y_Of_init 2 (74, 600, 0, 0) (fun k => k) (q_iOf c M q (nc xn)) [.ref q, .int xn] M := by
  show bj_S _ _ _ _ _ _ 0 0 0 [some (.ref q), some (.int xn), none] [] M
  have hJ : ∀ v : Int32, v = nI (nc xn) → bj_S (bw_G l D c) Y_Of_init 2 (74, 600, 0, 0) (fun k => k) (q_iOf c M q (nc xn)) 0 0 21 [some (.ref q), some (.int xn), none] [.int v, .ref q] M := by
    intro v hv
    subst hv
    obtain ⟨h1N, hN⟩ := nc_b xn
    generalize nc xn = N at h1N hN ⊢
    have hnn := nn_le hN
    refine bj_putF d_Of_init_21 in_Of ok_Of nm_Of rfl (by decide : 0 < 9) wf_Of_9 rfl rfl rfl rfl rfl rfl rfl (Nat.le_of_ble_eq_true rfl) h0 ?_
    have hq1 : (va_up M q (some (.inr (4, [.int (nI N), .null, .null, .int (nI 0), .int (nI 0), .null, .null, .null, .null])))) q = some (.inr (4, [.int (nI N), .null, .null, .int (nI 0), .int (nI 0), .null, .null, .null, .null])) := va_up_self _ _ _
    have hf1 : ∀ x, x ≠ q → (va_up M q (some (.inr (4, [.int (nI N), .null, .null, .int (nI 0), .int (nI 0), .null, .null, .null, .null])))) x = M x := fun x hx => va_up_ne _ _ hx
    show bj_S _ _ _ _ _ _ _ _ _ _ [] (va_up M q (some (.inr (4, [.int (nI N), .null, .null, .int (nI 0), .int (nI 0), .null, .null, .null, .null]))))
    generalize va_up M q (some (.inr (4, [.int (nI N), .null, .null, .int (nI 0), .int (nI 0), .null, .null, .null, .null]))) = P1 at hq1 hf1 ⊢
    have ek1 : ex_k q M P1 := ex_k.put hq1 hf1
    refine bj_aload_n d_Of_init_24 rfl rfl ?_
    refine bj_aload_n d_Of_init_25 rfl rfl ?_
    refine bj_get d_Of_init_26 in_Of rfl (by decide : 0 < 9) wf_Of_9 rfl hq1 rfl ?_
    refine bj_newa (a0 := (N, .inl (fun _ => 0))) d_Of_init_29 0 rfl wz_52 (fun cA => arrV_zero cA (N)) rfl (by omega) (by show (N) * 4 ≤ _; omega) (by show 0 + 1 ≤ 74 + 0; omega) (by show 0 + N ≤ 600 + 0; omega) (fun dr hdr => ?_)
    have hndr : dr ≠ q := fun e => by rw [e, hq1] at hdr; cases hdr
    have hq2 : (va_up P1 dr (some (.inl (c 0, N, .inl (fun _ => 0))))) q = some (.inr (4, [.int (nI N), .null, .null, .int (nI 0), .int (nI 0), .null, .null, .null, .null])) := (va_up_ne _ _ (Ne.symm hndr)).trans hq1
    have hadr : (va_up P1 dr (some (.inl (c 0, N, .inl (fun _ => 0))))) dr = some (.inl (c 0, N, .inl (fun _ => 0))) := va_up_self _ _ _
    have hf2 : ∀ x, x ≠ dr → (va_up P1 dr (some (.inl (c 0, N, .inl (fun _ => 0))))) x = P1 x := fun x hx => va_up_ne _ _ hx
    show bj_S _ _ _ _ _ _ _ _ _ _ [.ref dr, .ref q] (va_up P1 dr (some (.inl (c 0, N, .inl (fun _ => 0)))))
    generalize va_up P1 dr (some (.inl (c 0, N, .inl (fun _ => 0)))) = P2 at hq2 hadr hf2 ⊢
    refine bj_putF d_Of_init_31 in_Of ok_Of nm_Of rfl (by decide : 1 < 9) wf_Of_13 rfl rfl rfl rfl rfl rfl rfl (Nat.le_of_ble_eq_true rfl) hq2 ?_
    have hq3 : (va_up P2 q (some (.inr (4, [.int (nI N), .ref dr, .null, .int (nI 0), .int (nI 0), .null, .null, .null, .null])))) q = some (.inr (4, [.int (nI N), .ref dr, .null, .int (nI 0), .int (nI 0), .null, .null, .null, .null])) := va_up_self _ _ _
    have hf3 : ∀ x, x ≠ q → (va_up P2 q (some (.inr (4, [.int (nI N), .ref dr, .null, .int (nI 0), .int (nI 0), .null, .null, .null, .null])))) x = P2 x := fun x hx => va_up_ne _ _ hx
    show bj_S _ _ _ _ _ _ _ _ _ _ [] (va_up P2 q (some (.inr (4, [.int (nI N), .ref dr, .null, .int (nI 0), .int (nI 0), .null, .null, .null, .null]))))
    generalize va_up P2 q (some (.inr (4, [.int (nI N), .ref dr, .null, .int (nI 0), .int (nI 0), .null, .null, .null, .null]))) = P3 at hq3 hf3 ⊢
    have ek3 : ex_k q P2 P3 := ex_k.put hq3 hf3
    have hMdr : M dr = none := ek1.old hdr
    have k3 : ex_k q M P3 := (ek1.tr (ex_k.new hdr hf2)).tr ek3
    have hB : ∀ P : bj_M, P q = some (.inr (4, [.int (nI N), .ref dr, .null, .int (nI 0), .int (nI 0), .null, .null, .null, .null])) → bv_I (c 0) P dr N (fun i => nI i) → ex_k q M P → bj_S (bw_G l D c) Y_Of_init 2 (74, 600, 0, 0) (fun k => k) (q_iOf c M q N) (0 + 1) (0 + N) 57 [some (.ref q), some (.int xn), some (.int (nI N))] [] P := by
      intro P hPq hPd hPx
      refine bj_aload_n d_Of_init_57 rfl rfl ?_
      refine bj_bipush (v := (nI 12)) d_Of_init_58 (by decide) ?_
      refine bj_newq d_Of_init_60 3 rfl wc_Of_17 wz_26 (N := 12) rfl (by decide) (by decide) (by show 0 + 1 + 1 ≤ 74 + 0; omega) (by show 0 + N + 12 ≤ 600 + 0; omega) (fun bt hbt => ?_)
      have hnbt : bt ≠ q := fun e => by rw [e, hPq] at hbt; cases hbt
      have hndr2 : dr ≠ bt := fun e => by rw [← e] at hbt; exact hPd.ne hbt
      have hq4 : (va_up P bt (some (.inl (c 3, 12, .inr (.inr (.inr (.inr (fun _ => none)))))))) q = some (.inr (4, [.int (nI N), .ref dr, .null, .int (nI 0), .int (nI 0), .null, .null, .null, .null])) := (va_up_ne _ _ (Ne.symm hnbt)).trans hPq
      have habt : (va_up P bt (some (.inl (c 3, 12, .inr (.inr (.inr (.inr (fun _ => none)))))))) bt = some (.inl (c 3, 12, .inr (.inr (.inr (.inr (fun _ => none)))))) := va_up_self _ _ _
      have hf4 : ∀ x, x ≠ bt → (va_up P bt (some (.inl (c 3, 12, .inr (.inr (.inr (.inr (fun _ => none)))))))) x = P x := fun x hx => va_up_ne _ _ hx
      show bj_S _ _ _ _ _ _ _ _ _ _ [.ref bt, .ref q] (va_up P bt (some (.inl (c 3, 12, .inr (.inr (.inr (.inr (fun _ => none))))))))
      generalize va_up P bt (some (.inl (c 3, 12, .inr (.inr (.inr (.inr (fun _ => none))))))) = P4 at hq4 habt hf4 ⊢
      refine bj_putF d_Of_init_63 in_Of ok_Of nm_Of rfl (by decide : 2 < 9) wf_Of_19 rfl rfl rfl rfl rfl rfl rfl (Nat.le_of_ble_eq_true rfl) hq4 ?_
      have hq5 : (va_up P4 q (some (.inr (4, [.int (nI N), .ref dr, .ref bt, .int (nI 0), .int (nI 0), .null, .null, .null, .null])))) q = some (.inr (4, [.int (nI N), .ref dr, .ref bt, .int (nI 0), .int (nI 0), .null, .null, .null, .null])) := va_up_self _ _ _
      have hf5 : ∀ x, x ≠ q → (va_up P4 q (some (.inr (4, [.int (nI N), .ref dr, .ref bt, .int (nI 0), .int (nI 0), .null, .null, .null, .null])))) x = P4 x := fun x hx => va_up_ne _ _ hx
      show bj_S _ _ _ _ _ _ _ _ _ _ [] (va_up P4 q (some (.inr (4, [.int (nI N), .ref dr, .ref bt, .int (nI 0), .int (nI 0), .null, .null, .null, .null]))))
      generalize va_up P4 q (some (.inr (4, [.int (nI N), .ref dr, .ref bt, .int (nI 0), .int (nI 0), .null, .null, .null, .null]))) = P5 at hq5 hf5 ⊢
      have ek5 : ex_k q P4 P5 := ex_k.put hq5 hf5
      have k5 : ex_k q M P5 := (hPx.tr (ex_k.new hbt hf4)).tr ek5
      have hbt5 : P5 bt = some (.inl (c 3, 12, .inr (.inr (.inr (.inr (fun _ => none)))))) := (hf5 bt hnbt).trans habt
      have hdr5 : bv_I (c 0) P5 dr N (fun i => nI i) := (hPd.in (hf4 dr hndr2)).in (hf5 dr hndr)
      have hT : ∀ (P : bj_M) (B KR KT : Nat → Nat) (f : Nat → Option Nat) (cs sl : Nat), bat c M q dr bt N [.int (nI N), .ref dr, .ref bt, .int (nI 0), .int (nI 0), .null, .null, .null, .null] 12 P B KR KT f → cs ≤ 38 → sl ≤ 212 → bj_S (bw_G l D c) Y_Of_init 2 (74, 600, 0, 0) (fun k => k) (q_iOf c M q N) cs sl 93 [some (.ref q), some (.int xn), some (.int (nI 12))] [] P := by
        intro P0 B KR KT f cs sl hb hcs hsl
        have hb0 := hb.2.2.2.1
        refine bj_aload_n d_Of_init_93 rfl rfl ?_
        refine bj_iconst (v := (nI 0)) d_Of_init_94 (by decide) ?_
        refine bj_put d_Of_init_95 in_Of ok_Of nm_Of rfl (by decide : 3 < 9) wf_Of_24 rfl rfl rfl rfl rfl (Nat.le_of_ble_eq_true rfl) hb0 ?_
        have hq6 : (va_up P0 q (some (.inr (4, [.int (nI N), .ref dr, .ref bt, .int (nI 0), .int (nI 0), .null, .null, .null, .null])))) q = some (.inr (4, [.int (nI N), .ref dr, .ref bt, .int (nI 0), .int (nI 0), .null, .null, .null, .null])) := va_up_self _ _ _
        have hf6 : ∀ x, x ≠ q → (va_up P0 q (some (.inr (4, [.int (nI N), .ref dr, .ref bt, .int (nI 0), .int (nI 0), .null, .null, .null, .null])))) x = P0 x := fun x hx => va_up_ne _ _ hx
        show bj_S _ _ _ _ _ _ _ _ _ _ [] (va_up P0 q (some (.inr (4, [.int (nI N), .ref dr, .ref bt, .int (nI 0), .int (nI 0), .null, .null, .null, .null]))))
        generalize va_up P0 q (some (.inr (4, [.int (nI N), .ref dr, .ref bt, .int (nI 0), .int (nI 0), .null, .null, .null, .null]))) = P6 at hq6 hf6 ⊢
        have ek6 : ex_k q P0 P6 := ex_k.put hq6 hf6
        refine bj_aload_n d_Of_init_98 rfl rfl ?_
        refine bj_iconst (v := (nI 0)) d_Of_init_99 (by decide) ?_
        refine bj_put d_Of_init_100 in_Of ok_Of nm_Of rfl (by decide : 4 < 9) wf_Of_27 rfl rfl rfl rfl rfl (Nat.le_of_ble_eq_true rfl) hq6 ?_
        have hq7 : (va_up P6 q (some (.inr (4, [.int (nI N), .ref dr, .ref bt, .int (nI 0), .int (nI 0), .null, .null, .null, .null])))) q = some (.inr (4, [.int (nI N), .ref dr, .ref bt, .int (nI 0), .int (nI 0), .null, .null, .null, .null])) := va_up_self _ _ _
        have hf7 : ∀ x, x ≠ q → (va_up P6 q (some (.inr (4, [.int (nI N), .ref dr, .ref bt, .int (nI 0), .int (nI 0), .null, .null, .null, .null])))) x = P6 x := fun x hx => va_up_ne _ _ hx
        show bj_S _ _ _ _ _ _ _ _ _ _ [] (va_up P6 q (some (.inr (4, [.int (nI N), .ref dr, .ref bt, .int (nI 0), .int (nI 0), .null, .null, .null, .null]))))
        generalize va_up P6 q (some (.inr (4, [.int (nI N), .ref dr, .ref bt, .int (nI 0), .int (nI 0), .null, .null, .null, .null]))) = P7 at hq7 hf7 ⊢
        have ek7 : ex_k q P6 P7 := ex_k.put hq7 hf7
        refine bj_aload_n d_Of_init_103 rfl rfl ?_
        refine bj_new (ci := 2) (fs := [.int (nI 0), .int (nI 0), .null]) d_Of_init_104 in_Co ok_Co rfl wc_Of_31 wn_Co wi_Co hfs_Co (by show cs + 1 ≤ 74 + 0; omega) (by show sl + 3 ≤ 600 + 0; omega) (fun c1 hc1 => ?_)
        have hnc1 : q ≠ c1 := fun e => by rw [← e, hq7] at hc1; cases hc1
        have hzc1 : (va_up P7 c1 (some (.inr (2, [.int (nI 0), .int (nI 0), .null])))) q = some (.inr (4, [.int (nI N), .ref dr, .ref bt, .int (nI 0), .int (nI 0), .null, .null, .null, .null])) := (va_up_ne _ _ hnc1).trans hq7
        refine bj_dup d_Of_init_107 rfl ?_
        refine bj_aload_n d_Of_init_108 rfl rfl ?_
        refine bj_get d_Of_init_109 in_Of rfl (by decide : 0 < 9) wf_Of_9 rfl hzc1 rfl ?_
        refine bj_ci si_Of_33 d_Of_init_112 (t_Co_init l D c _ hN (va_up_self _ _ _)) rfl rfl (by decide) (by show cs + 1 + ((1 + N) + 0) ≤ 74 + 0; omega) (by show sl + 3 + ((N + N * N) + 0) ≤ 600 + 0; omega) (Nat.le_of_ble_eq_true rfl) rfl (fun v P8 hi8 => ?_) (fun _ _ h => h.elim)
        obtain ⟨rfl, o1, ho1, w1, g1, xac1⟩ := n_Co hc1 hi8
        show bj_S _ _ _ _ _ _ _ _ _ _ [.ref c1, .ref q] P8
        have hq8 : P8 q = some (.inr (4, [.int (nI N), .ref dr, .ref bt, .int (nI 0), .int (nI 0), .null, .null, .null, .null])) := (xac1 q (bj_ne hq7)).trans hq7
        refine bj_putF d_Of_init_115 in_Of ok_Of nm_Of rfl (by decide : 5 < 9) wf_Of_36 rfl rfl rfl rfl rfl rfl rfl (Nat.le_of_ble_eq_true rfl) hq8 ?_
        have hq9 : (va_up P8 q (some (.inr (4, [.int (nI N), .ref dr, .ref bt, .int (nI 0), .int (nI 0), .ref c1, .null, .null, .null])))) q = some (.inr (4, [.int (nI N), .ref dr, .ref bt, .int (nI 0), .int (nI 0), .ref c1, .null, .null, .null])) := va_up_self _ _ _
        have hf9 : ∀ x, x ≠ q → (va_up P8 q (some (.inr (4, [.int (nI N), .ref dr, .ref bt, .int (nI 0), .int (nI 0), .ref c1, .null, .null, .null])))) x = P8 x := fun x hx => va_up_ne _ _ hx
        show bj_S _ _ _ _ _ _ _ _ _ _ [] (va_up P8 q (some (.inr (4, [.int (nI N), .ref dr, .ref bt, .int (nI 0), .int (nI 0), .ref c1, .null, .null, .null]))))
        generalize va_up P8 q (some (.inr (4, [.int (nI N), .ref dr, .ref bt, .int (nI 0), .int (nI 0), .ref c1, .null, .null, .null]))) = P9 at hq9 hf9 ⊢
        have ek9 : ex_k q P8 P9 := ex_k.put hq9 hf9
        refine bj_aload_n d_Of_init_118 rfl rfl ?_
        refine bj_new (ci := 2) (fs := [.int (nI 0), .int (nI 0), .null]) d_Of_init_119 in_Co ok_Co rfl wc_Of_31 wn_Co wi_Co hfs_Co (by show cs + 1 + (1 + N) + 1 ≤ 74 + 0; omega) (by show sl + 3 + (N + N * N) + 3 ≤ 600 + 0; omega) (fun c2 hc2 => ?_)
        have hnc2 : q ≠ c2 := fun e => by rw [← e, hq9] at hc2; cases hc2
        have hzc2 : (va_up P9 c2 (some (.inr (2, [.int (nI 0), .int (nI 0), .null])))) q = some (.inr (4, [.int (nI N), .ref dr, .ref bt, .int (nI 0), .int (nI 0), .ref c1, .null, .null, .null])) := (va_up_ne _ _ hnc2).trans hq9
        refine bj_dup d_Of_init_122 rfl ?_
        refine bj_aload_n d_Of_init_123 rfl rfl ?_
        refine bj_get d_Of_init_124 in_Of rfl (by decide : 0 < 9) wf_Of_9 rfl hzc2 rfl ?_
        refine bj_ci si_Of_33 d_Of_init_127 (t_Co_init l D c _ hN (va_up_self _ _ _)) rfl rfl (by decide) (by show cs + 1 + (1 + N) + 1 + ((1 + N) + 0) ≤ 74 + 0; omega) (by show sl + 3 + (N + N * N) + 3 + ((N + N * N) + 0) ≤ 600 + 0; omega) (Nat.le_of_ble_eq_true rfl) rfl (fun v P10 hi10 => ?_) (fun _ _ h => h.elim)
        obtain ⟨rfl, o2, ho2, w2, g2, xac2⟩ := n_Co hc2 hi10
        show bj_S _ _ _ _ _ _ _ _ _ _ [.ref c2, .ref q] P10
        have hq10 : P10 q = some (.inr (4, [.int (nI N), .ref dr, .ref bt, .int (nI 0), .int (nI 0), .ref c1, .null, .null, .null])) := (xac2 q (bj_ne hq9)).trans hq9
        refine bj_putF d_Of_init_130 in_Of ok_Of nm_Of rfl (by decide : 6 < 9) wf_Of_40 rfl rfl rfl rfl rfl rfl rfl (Nat.le_of_ble_eq_true rfl) hq10 ?_
        have hq11 : (va_up P10 q (some (.inr (4, [.int (nI N), .ref dr, .ref bt, .int (nI 0), .int (nI 0), .ref c1, .ref c2, .null, .null])))) q = some (.inr (4, [.int (nI N), .ref dr, .ref bt, .int (nI 0), .int (nI 0), .ref c1, .ref c2, .null, .null])) := va_up_self _ _ _
        have hf11 : ∀ x, x ≠ q → (va_up P10 q (some (.inr (4, [.int (nI N), .ref dr, .ref bt, .int (nI 0), .int (nI 0), .ref c1, .ref c2, .null, .null])))) x = P10 x := fun x hx => va_up_ne _ _ hx
        show bj_S _ _ _ _ _ _ _ _ _ _ [] (va_up P10 q (some (.inr (4, [.int (nI N), .ref dr, .ref bt, .int (nI 0), .int (nI 0), .ref c1, .ref c2, .null, .null]))))
        generalize va_up P10 q (some (.inr (4, [.int (nI N), .ref dr, .ref bt, .int (nI 0), .int (nI 0), .ref c1, .ref c2, .null, .null]))) = P11 at hq11 hf11 ⊢
        have ek11 : ex_k q P10 P11 := ex_k.put hq11 hf11
        refine bj_aload_n d_Of_init_133 rfl rfl ?_
        refine bj_new (ci := 1) (fs := [.int (nI 0), .null, .null]) d_Of_init_134 in_Pa ok_Pa rfl wc_Of_43 wn_Pa wi_Pa hfs_Pa (by show cs + 1 + (1 + N) + 1 + (1 + N) + 1 ≤ 74 + 0; omega) (by show sl + 3 + (N + N * N) + 3 + (N + N * N) + 3 ≤ 600 + 0; omega) (fun pa hpa => ?_)
        have hnpa : q ≠ pa := fun e => by rw [← e, hq11] at hpa; cases hpa
        have hzpa : (va_up P11 pa (some (.inr (1, [.int (nI 0), .null, .null])))) q = some (.inr (4, [.int (nI N), .ref dr, .ref bt, .int (nI 0), .int (nI 0), .ref c1, .ref c2, .null, .null])) := (va_up_ne _ _ hnpa).trans hq11
        refine bj_dup d_Of_init_137 rfl ?_
        refine bj_aload_n d_Of_init_138 rfl rfl ?_
        refine bj_get d_Of_init_139 in_Of rfl (by decide : 0 < 9) wf_Of_9 rfl hzpa rfl ?_
        refine bj_ci si_Of_45 d_Of_init_142 (t_Pa_init l D c _ hN (va_up_self _ _ _)) rfl rfl (by decide) (by show cs + 1 + (1 + N) + 1 + (1 + N) + 1 + ((2 + N) + 0) ≤ 74 + 0; omega) (by show sl + 3 + (N + N * N) + 3 + (N + N * N) + 3 + ((N + N * N + N) + 0) ≤ 600 + 0; omega) (Nat.le_of_ble_eq_true rfl) rfl (fun v P12 hi12 => ?_) (fun _ _ h => h.elim)
        obtain ⟨rfl, o3, z, ho3, hz, zp, zo, w3, g3, gz, xapa⟩ := n_Pa hpa hi12
        show bj_S _ _ _ _ _ _ _ _ _ _ [.ref pa, .ref q] P12
        have hq12 : P12 q = some (.inr (4, [.int (nI N), .ref dr, .ref bt, .int (nI 0), .int (nI 0), .ref c1, .ref c2, .null, .null])) := (xapa q (bj_ne hq11)).trans hq11
        refine bj_putF d_Of_init_145 in_Of ok_Of nm_Of rfl (by decide : 7 < 9) wf_Of_46 rfl rfl rfl rfl rfl rfl rfl (Nat.le_of_ble_eq_true rfl) hq12 ?_
        have hq13 : (va_up P12 q (some (.inr (4, [.int (nI N), .ref dr, .ref bt, .int (nI 0), .int (nI 0), .ref c1, .ref c2, .ref pa, .null])))) q = some (.inr (4, [.int (nI N), .ref dr, .ref bt, .int (nI 0), .int (nI 0), .ref c1, .ref c2, .ref pa, .null])) := va_up_self _ _ _
        have hf13 : ∀ x, x ≠ q → (va_up P12 q (some (.inr (4, [.int (nI N), .ref dr, .ref bt, .int (nI 0), .int (nI 0), .ref c1, .ref c2, .ref pa, .null])))) x = P12 x := fun x hx => va_up_ne _ _ hx
        show bj_S _ _ _ _ _ _ _ _ _ _ [] (va_up P12 q (some (.inr (4, [.int (nI N), .ref dr, .ref bt, .int (nI 0), .int (nI 0), .ref c1, .ref c2, .ref pa, .null]))))
        generalize va_up P12 q (some (.inr (4, [.int (nI N), .ref dr, .ref bt, .int (nI 0), .int (nI 0), .ref c1, .ref c2, .ref pa, .null]))) = P13 at hq13 hf13 ⊢
        have ek13 : ex_k q P12 P13 := ex_k.put hq13 hf13
        refine bj_aload_n d_Of_init_148 rfl rfl ?_
        refine bj_new (ci := 3) (fs := [.int (nI 0), .null, .null, .null, .null, .int (nI 0)]) d_Of_init_149 in_Lo ok_Lo rfl wc_Of_50 wn_Lo wi_Lo hfs_Lo (by show cs + 1 + (1 + N) + 1 + (1 + N) + 1 + (2 + N) + 1 ≤ 74 + 0; omega) (by show sl + 3 + (N + N * N) + 3 + (N + N * N) + 3 + (N + N * N + N) + 6 ≤ 600 + 0; omega) (fun lo hlo => ?_)
        have hnlo : q ≠ lo := fun e => by rw [← e, hq13] at hlo; cases hlo
        have hzlo : (va_up P13 lo (some (.inr (3, [.int (nI 0), .null, .null, .null, .null, .int (nI 0)])))) q = some (.inr (4, [.int (nI N), .ref dr, .ref bt, .int (nI 0), .int (nI 0), .ref c1, .ref c2, .ref pa, .null])) := (va_up_ne _ _ hnlo).trans hq13
        refine bj_dup d_Of_init_152 rfl ?_
        refine bj_aload_n d_Of_init_153 rfl rfl ?_
        refine bj_get d_Of_init_154 in_Of rfl (by decide : 0 < 9) wf_Of_9 rfl hzlo rfl ?_
        refine bj_ci si_Of_52 d_Of_init_157 (t_Lo_init l D c _ hN (va_up_self _ _ _)) rfl rfl (by decide) (by show cs + 1 + (1 + N) + 1 + (1 + N) + 1 + (2 + N) + 1 + ((4) + 0) ≤ 74 + 0; omega) (by show sl + 3 + (N + N * N) + 3 + (N + N * N) + 3 + (N + N * N + N) + 6 + ((N + N + N * N + N * N) + 0) ≤ 600 + 0; omega) (Nat.le_of_ble_eq_true rfl) rfl (fun v P14 hi14 => ?_) (fun _ _ h => h.elim)
        obtain ⟨rfl, a1, a2, a3, a4, ha, hal, haa, w4, v1, v2, v3, v4, xalo⟩ := n_Lo hlo hi14
        show bj_S _ _ _ _ _ _ _ _ _ _ [.ref lo, .ref q] P14
        have hq14 : P14 q = some (.inr (4, [.int (nI N), .ref dr, .ref bt, .int (nI 0), .int (nI 0), .ref c1, .ref c2, .ref pa, .null])) := (xalo q (bj_ne hq13)).trans hq13
        refine bj_putF d_Of_init_160 in_Of ok_Of nm_Of rfl (by decide : 8 < 9) wf_Of_53 rfl rfl rfl rfl rfl rfl rfl (Nat.le_of_ble_eq_true rfl) hq14 ?_
        have hq15 : (va_up P14 q (some (.inr (4, [.int (nI N), .ref dr, .ref bt, .int (nI 0), .int (nI 0), .ref c1, .ref c2, .ref pa, .ref lo])))) q = some (.inr (4, [.int (nI N), .ref dr, .ref bt, .int (nI 0), .int (nI 0), .ref c1, .ref c2, .ref pa, .ref lo])) := va_up_self _ _ _
        have hf15 : ∀ x, x ≠ q → (va_up P14 q (some (.inr (4, [.int (nI N), .ref dr, .ref bt, .int (nI 0), .int (nI 0), .ref c1, .ref c2, .ref pa, .ref lo])))) x = P14 x := fun x hx => va_up_ne _ _ hx
        show bj_S _ _ _ _ _ _ _ _ _ _ [] (va_up P14 q (some (.inr (4, [.int (nI N), .ref dr, .ref bt, .int (nI 0), .int (nI 0), .ref c1, .ref c2, .ref pa, .ref lo]))))
        generalize va_up P14 q (some (.inr (4, [.int (nI N), .ref dr, .ref bt, .int (nI 0), .int (nI 0), .ref c1, .ref c2, .ref pa, .ref lo]))) = P15 at hq15 hf15 ⊢
        have ek15 : ex_k q P14 P15 := ex_k.put hq15 hf15
        exact bj_vret d_Of_init_163 rfl (by show cs + 1 + (1 + N) + 1 + (1 + N) + 1 + (2 + N) + 1 + (4) ≤ 74; omega) (by show sl + 3 + (N + N * N) + 3 + (N + N * N) + 3 + (N + N * N + N) + 6 + (N + N + N * N + N * N) ≤ 600; omega) (of_new h1N hN hb (ek6.tr ek7) hc1 ho1 w1 g1 xac1 ek9 hc2 ho2 w2 g2 xac2 ek11 hpa ho3 hz zp zo w3 g3 gz xapa ek13 hlo ha hal haa w4 v1 v2 v3 v4 xalo ek15 hq15)
      have hL : ∀ (b : Nat) (P : bj_M) (B KR KT : Nat → Nat) (f : Nat → Option Nat) (cs sl : Nat), b ≤ 12 → bat c M q dr bt N [.int (nI N), .ref dr, .ref bt, .int (nI 0), .int (nI 0), .null, .null, .null, .null] b P B KR KT f → cs ≤ 2 + 3 * b → sl ≤ N + 12 + 16 * b → bj_S (bw_G l D c) Y_Of_init 2 (74, 600, 0, 0) (fun k => k) (q_iOf c M q N) cs sl 68 [some (.ref q), some (.int xn), some (.int (nI b))] [] P := by
        intro b P B KR KT f cs sl
        induction hd : 12 + 1 - b using Nat.strongRecOn generalizing b P B KR KT f cs sl with
        | ind d ih =>
          intro hb hbat hcs hsl
          have hbq := hbat.2.2.2.1
          refine bj_iload_n d_Of_init_68 rfl rfl ?_
          refine bj_bipush (v := (nI 12)) d_Of_init_69 (by decide) ?_
          refine bj_icmp_geN (tgt := 93) d_Of_init_71 (by decide) (by omega) (by omega) (fun h71 => ?_) (fun h71 => ?_)
          · have hb12 : b = 12 := by omega
            subst hb12
            exact hT P B KR KT f cs sl hbat (by omega) (by omega)
          · refine bj_aload_n d_Of_init_74 rfl rfl ?_
            refine bj_get d_Of_init_75 in_Of rfl (by decide : 2 < 9) wf_Of_19 rfl hbq rfl ?_
            refine bj_iload_n d_Of_init_78 rfl rfl ?_
            refine bj_new (ci := 0) (fs := [.int (nI 0), .int (nI 0), .null, .null]) d_Of_init_79 in_Ba ok_Ba rfl wc_Of_17 wn_Ba wi_Ba hfs_Ba (by show cs + 1 ≤ 74 + 0; omega) (by show sl + 4 ≤ 600 + 0; omega) (fun nb hnb => ?_)
            have hnnb : q ≠ nb := fun e => by rw [← e, hbq] at hnb; cases hnb
            have hznb : (va_up P nb (some (.inr (0, [.int (nI 0), .int (nI 0), .null, .null])))) q = some (.inr (4, [.int (nI N), .ref dr, .ref bt, .int (nI 0), .int (nI 0), .null, .null, .null, .null])) := (va_up_ne _ _ hnnb).trans hbq
            refine bj_dup d_Of_init_82 rfl ?_
            refine bj_ci si_Of_23 d_Of_init_83 (t_Ba_init l D c _ (va_up_self _ _ _)) rfl rfl (by decide) (by show cs + 1 + (2 + 0) ≤ 74 + 0; omega) (by show sl + 4 + (12 + 0) ≤ 600 + 0; omega) (Nat.le_of_ble_eq_true rfl) rfl (fun v P6 hi6 => ?_) (fun _ _ h => h.elim)
            have xa := n_Ba hnb hi6
            obtain ⟨rfl, kr, kt, g1, g2, g3, g4, g5⟩ := hi6
            show bj_S _ _ _ _ _ _ _ _ _ _ [.ref nb, .int (nI b), .ref bt] P6
            have hb6 := (xa bt (bj_ne hbat.1)).trans hbat.1
            refine bj_aast (k := bt) (v := nb) (j := b) d_Of_init_86 3 rfl hb6 g4.1 rfl (by omega) (by decide) ?_
            have hst := bat_step hbat (by omega) hnb g1 g2 g3 g4 g5 (P3 := va_up P6 bt (some (.inl (c 3, 12, .inr (.inr (.inr (.inr (va_up f b (some nb))))))))) (va_up_self _ _ _) (fun x hx => va_up_ne _ _ hx)
            show bj_S _ _ _ _ _ _ _ _ _ _ [] (va_up P6 bt (some (.inl (c 3, 12, .inr (.inr (.inr (.inr (va_up f b (some nb)))))))))
            generalize va_up P6 bt (some (.inl (c 3, 12, .inr (.inr (.inr (.inr (va_up f b (some nb)))))))) = P7 at hst ⊢
            refine bj_iinc (v := (nI (b + 1))) (L' := [some (.ref q), some (.int xn), some (.int (nI (b + 1)))]) d_Of_init_87 rfl (bj_inc1 _) (by decide) rfl ?_
            refine bj_goto (tgt := 68) d_Of_init_90 (by decide) ?_
            exact ih (12 + 1 - (b + 1)) (by omega) (b + 1) P7 _ _ _ _ _ _ rfl (by omega) hst (by show cs + 1 + 2 ≤ _; omega) (by show sl + 4 + 12 ≤ _; omega)
      refine bj_iconst (v := nI 0) d_Of_init_66 (by decide) ?_
      refine bj_istore_n (L' := [some (.ref q), some (.int xn), some (.int (nI 0))]) d_Of_init_67 rfl (by decide) rfl ?_
      have e0 : ∀ k, b_D 0 k → k = 0 ∨ k = 1 ∨ k = 2 := fun k hk => by unfold b_D at hk; omega
      have n3 := (nu.st (ad := b_ad q dr bt z1 z1 z1) (P := P1) 0 (bj_ne hq1)).one (P' := P2) 1 hdr (bj_ne hadr) (ex_k.new (q := q) hdr hf2).1
      have n4 : nu (b_ad q dr bt z1 z1 z1) (fun k => k = 0 ∨ k = 1) P := ⟨fun k hk => by
        rcases hk with rfl | rfl
        · exact bj_ne hPq
        · exact hPd.ne, n3.2⟩
      have n5 := n4.one (P' := P5) 2 hbt (bj_ne hbt5) (fun x hx => ek5.1 x ((ex_k.new (q := q) hbt hf4).1 x hx))
      exact hL 0 P5 z1 z1 z1 _ _ _ (by decide) ⟨hbt5, fun i hi => absurd hi (Nat.not_lt_zero i), fun i hi => absurd hi (Nat.not_lt_zero i), hq5, hdr5, k5, n5.to (fun k hk => by rcases e0 k hk with rfl | rfl | rfl <;> simp) (fun _ h => h), fun k k0 hk => by
        rcases e0 k hk with rfl | rfl | rfl
        · exact absurd rfl k0
        · exact hMdr
        · exact hPx.old hbt⟩ (by show 0 + 1 + 1 ≤ _; omega) (by show 0 + N + 12 ≤ _; omega)
    have hloop : ∀ (w : Nat) (P : bj_M) (g : Nat → Int32), w ≤ N → P dr = some (.inl (c 0, N, .inl g)) → (∀ i, i < N → g i = if i < w then nI i else 0) → (∀ x, x ≠ dr → P x = P3 x) → bj_S (bw_G l D c) Y_Of_init 2 (74, 600, 0, 0) (fun k => k) (q_iOf c M q N) (0 + 1) (0 + N) 36 [some (.ref q), some (.int xn), some (.int (nI w))] [] P := by
      intro w P g
      induction hd : N + 1 - w using Nat.strongRecOn generalizing w P g with
      | ind d ih =>
        intro hw hP hg hR
        have hPq : P q = some (.inr (4, [.int (nI N), .ref dr, .null, .int (nI 0), .int (nI 0), .null, .null, .null, .null])) := (hR q (Ne.symm hndr)).trans hq3
        refine bj_iload_n d_Of_init_36 rfl rfl ?_
        refine bj_aload_n d_Of_init_37 rfl rfl ?_
        refine bj_get d_Of_init_38 in_Of rfl (by decide : 0 < 9) wf_Of_9 rfl hPq rfl ?_
        refine bj_icmp_geN (tgt := 57) d_Of_init_41 (by decide) (by omega) (by omega) (fun h41 => ?_) (fun h41 => ?_)
        · have hwN : w = N := by omega
          rw [hwN] at hg ⊢
          exact hB P hPq ⟨g, hP, fun i hi => (hg i hi).trans (if_pos hi)⟩ ⟨fun x hx => by
            by_cases e : x = dr
            · rw [e]; exact bj_ne hP
            · rw [hR x e]; exact k3.1 x hx, fun x hx hxq => (hR x (fun e => hx (by rw [e]; exact hMdr))).trans (k3.2 x hx hxq)⟩
        · refine bj_aload_n d_Of_init_44 rfl rfl ?_
          refine bj_get d_Of_init_45 in_Of rfl (by decide : 1 < 9) wf_Of_13 rfl hPq rfl ?_
          refine bj_iload_n d_Of_init_48 rfl rfl ?_
          refine bj_iload_n d_Of_init_49 rfl rfl ?_
          refine bv_iast d_Of_init_50 0 rfl ⟨_, hP, fun _ _ => rfl⟩ (by omega) (by omega) (fun N1 hN1 hO1 => ?_)
          obtain ⟨g1, h91, h92⟩ := hN1
          refine bj_iinc (v := (nI (w + 1))) (L' := [some (.ref q), some (.int xn), some (.int (nI (w + 1)))]) d_Of_init_51 rfl (bj_inc1 _) (by decide) rfl ?_
          refine bj_goto (tgt := 36) d_Of_init_54 (by decide) ?_
          exact ih (N + 1 - (w + 1)) (by omega) (w + 1) N1 _ rfl (by omega) h91 (fun i hi => (h92 i hi).trans (dr_up hg i hi)) (fun x hx => (hO1 x hx).trans (hR x hx))
    refine bj_iconst (v := nI 0) d_Of_init_34 (by decide) ?_
    refine bj_istore_n (L' := [some (.ref q), some (.int xn), some (.int (nI 0))]) d_Of_init_35 rfl (by decide) rfl ?_
    exact hloop 0 P3 _ (Nat.zero_le _) ((hf3 dr hndr).trans hadr) (fun i _ => (if_neg (Nat.not_lt_zero i)).symm) (fun _ _ => rfl)
  refine bj_aload_n d_Of_init_0 rfl rfl ?_
  refine bj_oini d_Of_init_1 wob_Of wob_2 wob_3 (by decide) (Nat.le_of_ble_eq_true rfl) ?_
  refine bj_aload_n d_Of_init_4 rfl rfl ?_
  refine bj_iload_n d_Of_init_5 rfl rfl ?_
  refine bj_iconst (v := (nI 1)) d_Of_init_6 (by decide) ?_
  refine bj_icmp_lt (tgt := 20) d_Of_init_7 (by decide) (fun h7 => ?_) (fun h7 => ?_)
  · skip
    refine bj_iconst (v := (nI 5)) d_Of_init_20 (by decide) ?_
    exact hJ _ (by first | rw [nc_lo h7] | rw [nc_hi (fun h => absurd h13 (Int32.not_lt.mpr h))])
  · skip
    refine bj_iload_n d_Of_init_10 rfl rfl ?_
    refine bj_bipush (v := (nI 8)) d_Of_init_11 (by decide) ?_
    refine bj_icmp_gt (tgt := 20) d_Of_init_13 (by decide) (fun h13 => ?_) (fun h13 => ?_)
    · skip
      refine bj_iconst (v := (nI 5)) d_Of_init_20 (by decide) ?_
      exact hJ _ (by first | rw [nc_lo h7] | rw [nc_hi (fun h => absurd h13 (Int32.not_lt.mpr h))])
    · skip
      refine bj_iload_n d_Of_init_16 rfl rfl ?_
      refine bj_goto (tgt := 21) d_Of_init_17 (by decide) ?_
      exact hJ _ (nc_in h7 (Int32.not_lt.mp h13)).1
end I6
