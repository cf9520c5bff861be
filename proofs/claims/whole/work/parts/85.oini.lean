/-! the judgement's row for Object's constructor -/
section BO
variable {G : bj_G} {Y : bj_Y} {n : Nat} {K : bj_K} {ad : Nat → Nat} {Q : bj_R → bj_M → Prop} {cs sl pc : Nat} {L : List (Option Value)} {st : List Value} {M : bj_M}
theorem bj_oini {index a : Nat} (d : decode Y.2.2.1 pc = .ok (.invokespecial index, 3)) (w1 : Cond.methodLink Y.1 index Lib.objectInit ∈ G.2.2.2.2) (w2 : Cond.instanceMethod Lib.objectInit ∈ G.2.2.2.2) (w3 : Cond.code Lib.objectInit ⟨#[0xb1]⟩ 1 none ∈ G.2.2.2.2) (hn : 1 ≤ n) (h8 : (st.map fun v => v.category).sum ≤ 8)
    (kk : bj_S G Y n K ad Q cs sl (pc + 3) L st M) : bj_S G Y n K ad Q cs sl pc L (.ref a :: st) M :=
  fun p e s m ar be me c A H lo ls C hW hS hl => W.objInit C.ex C.by C.ow (C.ts _ w1) (C.ts _ w2) (C.ts _ w3) rfl (hl.1.1.trans C.ml.symm) rfl d hn (by show 2 * 0 + (st.map fun v => v.category).sum + 12 ≤ 36 * n; omega) (kk p e s m ar be me c A H lo ls C hW hS hl)
theorem wob_2 : Cond.instanceMethod Lib.objectInit ∈ bw_TB := bw_t (i := 23) (by decide +kernel)
theorem wob_3 : Cond.code Lib.objectInit ⟨#[0xb1]⟩ 1 none ∈ bw_TB := bw_t (i := 24) (by decide +kernel)
theorem wob_Of : Cond.methodLink "BeatPathOffice" 1 Lib.objectInit ∈ bw_TB := bw_t (i := 22) (by decide +kernel)
theorem wob_Ba : Cond.methodLink "BeatPathOffice$Batch" 3 Lib.objectInit ∈ bw_TB := bw_t (i := 31) (by decide +kernel)
theorem wob_Co : Cond.methodLink "BeatPathOffice$Count" 3 Lib.objectInit ∈ bw_TB := bw_t (i := 58) (by decide +kernel)
theorem wob_Pa : Cond.methodLink "BeatPathOffice$BeatPaths" 3 Lib.objectInit ∈ bw_TB := bw_t (i := 79) (by decide +kernel)
theorem wob_Lo : Cond.methodLink "BeatPathOffice$Locks" 3 Lib.objectInit ∈ bw_TB := bw_t (i := 97) (by decide +kernel)
theorem wob_Mo : Cond.methodLink "BeatPathOfficeModel" 1 Lib.objectInit ∈ bw_TB := bw_t (i := 588) (by decide +kernel)
end BO
