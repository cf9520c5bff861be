/-! the judgement's row for an object put into an array of its class -/
section BB
variable {G : bj_G} {Y : bj_Y} {n : Nat} {K : bj_K} {ad : Nat → Nat} {Q : bj_R → bj_M → Prop} {cs sl pc : Nat} {L : List (Option Value)} {st : List Value} {M : bj_M}
theorem bj_aast {k v j N ci : Nat} {cA : ClassId} {r : vw_C} {vs : List Value} {f : Nat → Option Nat} (d : decode Y.2.2.1 pc = .ok (.aastore, 1)) (t : Nat) (ht : G.2.2.2.1[t]? = some (cA, .object r.1)) (hM : M k = some (.inl (cA, N, .inr (.inr (.inr (.inr f)))))) (hv : M v = some (.inr (ci, vs))) (hc : G.2.2.1[ci]? = some r) (hj : j < N) (hN : N < 2 ^ 31)
    (kk : bj_S G Y n K ad Q cs sl (pc + 1) L st (va_up M k (some (.inl (cA, N, .inr (.inr (.inr (.inr (va_up f j (some (ad v)))))))))))  : bj_S G Y n K ad Q cs sl pc L (.ref (ad v) :: .int (nI j) :: .ref (ad k) :: st) M := by
  intro p e s m ar be me c A H lo ls C hW hS hl
  have e9 : (nI j).toNatClampNeg = j := nI_clamp (Nat.lt_trans hj hN)
  have hcell : H[ad k]? = some (vp_cell cA (N, .inr (.inr (.inr (.inr f))))) := hW.1 k _ hM
  obtain ⟨r', hr', cellV, g1, g2, g3, -⟩ := hW.1 v _ hv
  have hcls := (C.k.1 ci r hc).2
  obtain ⟨kA, comp, k1, k2, k3, -⟩ := (C.k.2 t _ ht).2
  have hcomp : comp = G.2.1.1 ci := Option.some.inj (k3.symm.trans hcls.1)
  subst hcomp
  obtain ⟨kC, hkC, -⟩ := hcls.2
  refine W.aast C.ex C.by hcell (fun q h => by cases h) (fun h => by cases h) k1 k2 rfl hkC ⟨nI_pos (by omega), by show _ < (arrV _ _ _).slots.size; rw [arrV_size, e9]; exact hj⟩ g1 (fun q h => by rw [g3] at h; cases h) (by rw [g2]; exact hkC) (by rw [g2]; exact va_assign hcls) rfl rfl d fun H1 e1 z oq => ?_
  refine kk p e s m ar be me c A H1 _ ls C (hW.set hM ?_ oq) (hS.put z oq (hW.2.2 k (bj_ne hM))) hl
  show H1[ad k]? = some (vp_cell _ _)
  rw [e1, e9, vp_cell_q, vp_cell_q, arrV_store]
  congr 2
  funext q
  by_cases hq : q = j
  · subst hq
    simp [updV, va_up, va_rf]
  · simp [updV, va_up, hq]
end BB
