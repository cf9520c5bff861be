/-! fresh cells: what is kept, and numbers for addresses that are apart -/
section NU
/-- all that is there stays, but for q -/
def ex_k (q : Nat) (M M' : bj_M) : Prop := (∀ x, M x ≠ none → M' x ≠ none) ∧ ∀ x, M x ≠ none → x ≠ q → M' x = M x
theorem ex_k.rf {q : Nat} {M : bj_M} : ex_k q M M := ⟨fun _ h => h, fun _ _ _ => rfl⟩
theorem ex_k.tr {q : Nat} {M M' M'' : bj_M} (h : ex_k q M M') (h' : ex_k q M' M'') : ex_k q M M'' := ⟨fun x hx => h'.1 x (h.1 x hx), fun x hx hq => (h'.2 x (h.1 x hx) hq).trans (h.2 x hx hq)⟩
/-- q itself is written -/
theorem ex_k.put {q : Nat} {M M' : bj_M} {y : va_E} (hq : M' q = some y) (h : ∀ x, x ≠ q → M' x = M x) : ex_k q M M' := ⟨fun x hx => by
  by_cases e : x = q
  · rw [e, hq]; exact fun z => by cases z
  · rw [h x e]; exact hx, fun x _ e => h x e⟩
/-- a fresh cell is written -/
theorem ex_k.new {q a : Nat} {M M' : bj_M} (ha : M a = none) (h : ∀ x, x ≠ a → M' x = M x) : ex_k q M M' := ⟨fun x hx => by
  have e : x ≠ a := fun e => hx (by rw [e]; exact ha)
  rw [h x e]; exact hx, fun x hx _ => h x (fun e => hx (by rw [e]; exact ha))⟩
/-- cells that were not there, and q -/
theorem ex_k.of {q : Nat} {M M' : bj_M} (S : Nat → Prop) (hS : ∀ x, S x → M x = none) (hq : M' q ≠ none) (h : ∀ x, x ≠ q → ¬ S x → M' x = M x) : ex_k q M M' := ⟨fun x hx => by
  by_cases e : x = q
  · rw [e]; exact hq
  · rw [h x e (fun s => hx (hS x s))]; exact hx, fun x hx e => h x e (fun s => hx (hS x s))⟩
/-- another object, which was not there before -/
theorem ex_k.sub {q r : Nat} {M M' M'' : bj_M} (hr : M r = none) (h : ex_k q M M') (h' : ex_k r M' M'') : ex_k q M M'' := ⟨fun x hx => h'.1 x (h.1 x hx), fun x hx hq => (h'.2 x (h.1 x hx) (fun e => hx (by rw [e]; exact hr))).trans (h.2 x hx hq)⟩
theorem ex_k.old {q a : Nat} {M M' : bj_M} (h : ex_k q M M') (ha : M' a = none) : M a = none := by
  cases hx : M a with
  | none => rfl
  | some x => exact absurd ha (h.1 a (by rw [hx]; exact fun z => by cases z))
/-- numbers D have addresses ad, all there and apart -/
def nu (ad : Nat → Nat) (D : Nat → Prop) (P : bj_M) : Prop := (∀ k, D k → P (ad k) ≠ none) ∧ ∀ i j, D i → D j → ad i = ad j → i = j
theorem nu.to {ad : Nat → Nat} {D D' : Nat → Prop} {P P' : bj_M} (h : nu ad D P) (hD : ∀ x, D' x → D x) (hP : ∀ x, P x ≠ none → P' x ≠ none) : nu ad D' P' := ⟨fun k hk => hP _ (h.1 k (hD k hk)), fun i j hi hj e => h.2 i j (hD i hi) (hD j hj) e⟩
theorem nu.ex {ad ad' : Nat → Nat} {D : Nat → Prop} {P : bj_M} (h : nu ad D P) (e : ∀ x, D x → ad' x = ad x) : nu ad' D P := ⟨fun k hk => by rw [e k hk]; exact h.1 k hk, fun i j hi hj z => h.2 i j hi hj (by rw [← e i hi, ← e j hj]; exact z)⟩
theorem nu.blk {ad : Nat → Nat} {D : Nat → Prop} {P P' : bj_M} (h : nu ad D P) (B : Nat → Prop) (ha : ∀ i, B i → P (ad i) = none) (hi : ∀ i j, B i → B j → ad i = ad j → i = j) (hp : ∀ i, B i → P' (ad i) ≠ none) (hP : ∀ x, P x ≠ none → P' x ≠ none) : nu ad (fun x => D x ∨ B x) P' := by
  refine ⟨fun k hk => ?_, fun i j hi1 hj1 e => ?_⟩
  · rcases hk with hk | hk
    · exact hP _ (h.1 k hk)
    · exact hp k hk
  · rcases hi1 with h1 | h1 <;> rcases hj1 with h2 | h2
    · exact h.2 i j h1 h2 e
    · exact absurd (e ▸ ha j h2 : P (ad i) = none) (h.1 i h1)
    · exact absurd (e ▸ ha i h1 : P (ad j) = none) (h.1 j h2)
    · exact hi i j h1 h2 e
theorem nu.one {ad : Nat → Nat} {D : Nat → Prop} {P P' : bj_M} (h : nu ad D P) (k : Nat) (ha : P (ad k) = none) (hp : P' (ad k) ≠ none) (hP : ∀ x, P x ≠ none → P' x ≠ none) : nu ad (fun x => D x ∨ x = k) P' := h.blk (fun x => x = k) (fun i e => by rw [e]; exact ha) (fun i j e1 e2 _ => e1.trans e2.symm) (fun i e => by rw [e]; exact hp) hP
theorem nu.st {ad : Nat → Nat} {P : bj_M} (k : Nat) (h : P (ad k) ≠ none) : nu ad (fun x => x = k) P := ⟨fun i e => by rw [e]; exact h, fun i j e1 e2 _ => e1.trans e2.symm⟩
end NU
