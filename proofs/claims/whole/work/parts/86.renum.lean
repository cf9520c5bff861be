/-! cells numbered anew: where a post speaks of the result alone -/
section BN
variable {G : bj_G} {Y : bj_Y} {n : Nat} {K : bj_K} {ad : Nat → Nat} {cs sl pc : Nat} {L : List (Option Value)} {st : List Value} {M M' : bj_M}
theorem bj_ren {φ : bj_R → Prop} (hM : ∀ (k : Nat) (x : va_E), M' k = some x → M (ad k) = some x) (hi : ∀ i j : Nat, M' i ≠ none → M' j ≠ none → ad i = ad j → i = j)
    (h : bj_S G Y n K ad (fun r _ => φ r) cs sl pc L st M') : bj_S G Y n K (fun k => k) (fun r _ => φ r) cs sl pc L st M := by
  intro p e s m ar be me c A H lo ls C hW hS hl T hT X
  have hne : ∀ k, M' k ≠ none → ∃ x, M' k = some x := fun k hk => by
    cases hx : M' k with
    | none => exact absurd hx hk
    | some x => exact ⟨x, rfl⟩
  have hW' : bj_W G ad M' A H := ⟨fun k x hk => hW.1 (ad k) x (hM k x hk), hi, fun k hk => by
    obtain ⟨x, hx⟩ := hne k hk
    exact hW.2.2 (ad k) (by rw [hM k x hx]; exact fun q => by cases q)⟩
  obtain ⟨t, a1, o, b1, b2, b3⟩ := h p e s m ar be me c A H lo ls C hW' hS hl T hT X
  refine ⟨t, a1, o, b1, b2, ?_⟩
  have hz : bj_W G (fun k => k) (fun _ => none) A t.heap := ⟨fun k x hk => (by cases hk), fun i j hi2 _ _ => absurd rfl hi2, fun k hk => absurd rfl hk⟩
  rcases b3 with ⟨v, M1, L1, q1, q2, -, q4⟩ | ⟨x, E, ce, M1, L1, q1, q2, -, q4⟩
  · exact Or.inl ⟨v, _, L1, q1, q2, hz, q4⟩
  · exact Or.inr ⟨x, E, ce, _, L1, q1, q2, hz, q4⟩
end BN
