/-! the judgement's rows: new cells; here a cell's number is its address (ad is the identity) -/
section BA
variable {G : bj_G} {Y : bj_Y} {n : Nat} {K : bj_K} {Q : bj_R → bj_M → Prop} {cs sl pc : Nat} {L : List (Option Value)} {st : List Value} {M : bj_M}
theorem bj_fresh {G : bj_G} {M : bj_M} {A : Nat → Prop} {H : Heap} (h : bj_W G (fun k => k) M A H) {q : Nat} (hq : H.size ≤ q) : M q = none := by
  cases hM : M q with
  | none => rfl
  | some x =>
    have h1 := (h.1 q x hM).lt
    have h2 : q < H.size := h1
    omega
theorem bj_W.push {G : bj_G} {M : bj_M} {A : Nat → Prop} {H H' : Heap} {x : va_E} (h : bj_W G (fun k => k) M A H) (he : va_at G.2.1 G.2.2.1 (H.size, x) H') (oq : ∀ q : Nat, q < H.size → H'[q]? = H[q]?) (hA : A H.size) : bj_W G (fun k => k) (va_up M H.size (some x)) A H' := by
  refine ⟨fun k y hk => ?_, fun i j _ _ e => e, fun k hk => ?_⟩
  · by_cases e : k = H.size
    · subst e
      rw [va_up_self] at hk
      cases hk
      exact he
    · rw [va_up_ne _ _ e] at hk
      exact (h.1 k y hk).kept (oq k (h.1 k y hk).lt)
  · by_cases e : k = H.size
    · subst e
      exact hA
    · rw [va_up_ne _ _ e] at hk
      exact h.2.2 k hk
theorem bj_S_push {A : Nat → Prop} {H0 H H' : Heap} {lo : List Loc} (h : va_S A H0 H lo) (z : H.size ≤ H'.size) (oq : ∀ q : Nat, q < H.size → H'[q]? = H[q]?) : va_S A H0 H' lo :=
  ⟨Nat.le_trans h.1 z, fun q h1 h2 => (oq q (Nat.lt_of_lt_of_le h1 h.1)).trans (h.2.1 q h1 h2), h.2.2⟩
theorem bj_new {C : String} {T : u_T} {N ci index : Nat} {fs : List Value} {ty0 : Nat → FieldType} (d : decode Y.2.2.1 pc = .ok (.new index, 3)) (hin : ∀ w ∈ u_ws C T N, w ∈ G.2.2.2.2) (hty : ∀ k, k < N → parseFieldDescriptor (T k).2.2.1 = some (ty0 k)) (hc : G.2.2.1[ci]? = some (C, T, N)) (w1 : Cond.classLink Y.1 index C ∈ G.2.2.2.2) (w2 : Cond.instantiable C N ∈ G.2.2.2.2) (w3 : Cond.initialized C ∈ G.2.2.2.2)
    (hfs : ∀ j, j < N → defaultValue (ty0 j) = vp_V fs j) (h1 : cs + 1 ≤ K.1 + K.2.2.1) (h2 : sl + N ≤ K.2.1 + K.2.2.2)
    (kk : ∀ q : Nat, M q = none → bj_S G Y n K (fun k => k) Q (cs + 1) (sl + N) (pc + 3) L (.ref q :: st) (va_up M q (some (.inr (ci, fs))))) : bj_S G Y n K (fun k => k) Q cs sl pc L st M := by
  intro p e s m ar be me c A H lo ls Cx hW hS hl
  have hKn := Cx.k.1 ci _ hc
  refine W.newcK Cx.ex Cx.by Cx.ow (Cx.ts _ w1) (Cx.ts _ w2) (Cx.ts _ w3) rfl d h1 h2 hKn.2.1 rfl fun H1 kC hkC e1 z1 o1 => ?_
  exact kk H.size (bj_fresh hW (Nat.le_refl _)) p e s m ar be me c A H1 lo ls Cx (hW.push ⟨_, hc, (u_born ty0 Cx.ts hin hKn hkC e1 hty).to hfs⟩ o1 (Cx.up _ hS.1)) (bj_S_push hS (by omega) o1) hl
/-- an array class is found by its name -/
theorem bj_acls {U : State} {tys : List (ClassId × FieldType)} {D : va_G} {cl : List vw_C} (h : va_K D cl tys U) {t : Nat} {cA c' : ClassId} {ty : FieldType} (ht : tys[t]? = some (cA, ty)) (hf : U.vm.findClass ("[" ++ ty.toString) = some c') : c' = cA := by
  have h2 := (h.2 t _ ht).2
  cases ty with
  | object C =>
    obtain ⟨kA, comp, -, -, -, h4⟩ := h2
    exact Option.some.inj (hf.symm.trans h4)
  | _ => exact Option.some.inj (hf.symm.trans h2)
theorem bj_newa {atype : ArrayType} {x : Int32} {N : Nat} {cA : ClassId} {a0 : vp_A} (d : decode Y.2.2.1 pc = .ok (.newarray atype, 2)) (t : Nat) (ht : G.2.2.2.1[t]? = some (cA, newarray.typeOf atype)) (w : Cond.arrayClass (newarray.typeOf atype) ∈ G.2.2.2.2) (ha : ∀ cA : ClassId, vp_cell cA a0 = arrV cA N (fun _ => defaultValue (newarray.typeOf atype))) (hx : x = nI N) (hN : N < 2 ^ 31) (hb : N * componentBytes (newarray.typeOf atype) ≤ 536870912) (h1 : cs + 1 ≤ K.1 + K.2.2.1) (h2 : sl + N ≤ K.2.1 + K.2.2.2)
    (kk : ∀ q : Nat, M q = none → bj_S G Y n K (fun k => k) Q (cs + 1) (sl + N) (pc + 2) L (.ref q :: st) (va_up M q (some (.inl (cA, a0))))) : bj_S G Y n K (fun k => k) Q cs sl pc L (.int x :: st) M := by
  subst hx
  intro p e s m ar be me c A H lo ls Cx hW hS hl
  refine va_newaK Cx.ex Cx.by (Cx.ts _ w) rfl d rfl (nI_pos hN) (nI_clamp hN) hb h1 h2 rfl fun H1 c' e1 z1 o1 hAr hNm => ?_
  have ec : c' = cA := bj_acls Cx.k ht hNm
  subst ec
  refine kk H.size (bj_fresh hW (Nat.le_refl _)) p e s m ar be me c A H1 lo ls Cx (hW.push ?_ o1 (Cx.up _ hS.1)) (bj_S_push hS (by omega) o1) hl
  show H1[H.size]? = some (vp_cell _ _)
  rw [ha]
  exact e1
theorem bj_newq {C : String} {index : Nat} {x : Int32} {N : Nat} {cA : ClassId} (d : decode Y.2.2.1 pc = .ok (.anewarray index, 3)) (t : Nat) (ht : G.2.2.2.1[t]? = some (cA, .object C)) (w1 : Cond.classLink Y.1 index C ∈ G.2.2.2.2) (w2 : Cond.arrayOver (.object C) ∈ G.2.2.2.2) (hx : x = nI N) (hN : N < 2 ^ 31) (hb : N * 4 ≤ 536870912) (h1 : cs + 1 ≤ K.1 + K.2.2.1) (h2 : sl + N ≤ K.2.1 + K.2.2.2)
    (kk : ∀ q : Nat, M q = none → bj_S G Y n K (fun k => k) Q (cs + 1) (sl + N) (pc + 3) L (.ref q :: st) (va_up M q (some (.inl (cA, N, .inr (.inr (.inr (.inr (fun _ => none))))))))) : bj_S G Y n K (fun k => k) Q cs sl pc L (.int x :: st) M := by
  subst hx
  intro p e s m ar be me c A H lo ls Cx hW hS hl
  have e9 : (nI N).toNatClampNeg = N := nI_clamp hN
  refine W.anew Cx.ex Cx.by Cx.ow (Cx.ts _ w1) (Cx.ts _ w2) rfl d rfl (nI_pos hN) (by rw [e9]; exact hb) h1 (by rw [e9]; exact h2) fun c' kA comp f1 f2 f3 f4 => ?_
  have ec : c' = cA := bj_acls Cx.k ht f1
  subst ec
  rw [e9]
  generalize hH1 : H.push ({ cls := c', slots := Array.replicate N .null, vm := .none } : Cell) = H1
  have z1 : H1.size = H.size + 1 := by rw [← hH1, Array.size_push]
  have e1 : H1[H.size]? = some (arrV c' N (fun _ => .null)) := by rw [← hH1, Array.getElem?_push_size, ← arrV_new]
  have o1 : ∀ q : Nat, q < H.size → H1[q]? = H[q]? := fun q hq => by rw [← hH1, Array.getElem?_push, if_neg (Nat.ne_of_lt hq)]
  refine kk H.size (bj_fresh hW (Nat.le_refl _)) p e s m ar be me c A H1 lo ls Cx (hW.push ?_ o1 (Cx.up _ hS.1)) (bj_S_push hS (by omega) o1) hl
  show H1[H.size]? = some (vp_cell _ _)
  rw [vp_cell_q]
  exact e1
end BA
