/-! Integer.bitCount, Count.topSet, System.arraycopy, Count.copy, Arrays.fill (walks by gen/m_co6.py) -/
section C6
section Rw
variable {G : bj_G} {Y : bj_Y} {n : Nat} {K : bj_K} {ad : Nat → Nat} {Q : bj_R → bj_M → Prop} {cs sl pc : Nat} {L : List (Option Value)} {st : List Value} {M : bj_M}
theorem bj_ldcw {index : Nat} {v : Int32} (d : decode Y.2.2.1 pc = .ok (.ldc_w index, 3)) (w : Cond.constant Y.1 index v ∈ G.2.2.2.2) (kk : bj_S G Y n K ad Q cs sl (pc + 3) L (.int v :: st) M) : bj_S G Y n K ad Q cs sl pc L st M :=
  fun p e s m ar be me c A H lo ls C hW hS hl => lv_ldcw C.ex C.by C.ow (C.ts _ w) d (kk p e s m ar be me c A H lo ls C hW hS hl)
/-- System.arraycopy of a whole int array to another of its length -/
theorem bv_copy {index k0 k1 N : Nat} {cA : ClassId} {f g : Nat → Int32} (d : decode Y.2.2.1 pc = .ok (.invokestatic index, 3)) (w1 : Cond.methodLink Y.1 index arraycopyName ∈ G.2.2.2.2) (w2 : Cond.native arraycopyName ∈ G.2.2.2.2) (w3 : Cond.static arraycopyName ∈ G.2.2.2.2) (w4 : Cond.initialized "java/lang/System" ∈ G.2.2.2.2) (t : Nat) (ht : G.2.2.2.1[t]? = some (cA, .int)) (h0 : bv_I cA M k0 N f) (h1 : bv_I cA M k1 N g) (hN : N < 2 ^ 31) (hn : 1 ≤ n) (hl9 : (st.map fun v => v.category).sum + (nativeFrameWords "java/lang/System" "arraycopy" 5 + 11) ≤ 36 * n)
    (kk : ∀ M' : bj_M, bv_I cA M' k1 N f → (∀ q, q ≠ k1 → M' q = M q) → bj_S G Y n K ad Q cs sl (pc + 3) L st M') : bj_S G Y n K ad Q cs sl pc L (.int (nI N) :: .int (nI 0) :: .ref (ad k1) :: .int (nI 0) :: .ref (ad k0) :: st) M := by
  intro p e s m ar be me c A H lo ls C hW hS hl T hT X
  subst hT
  obtain ⟨f0, h0, e0⟩ := h0
  obtain ⟨g0, h1, e1⟩ := h1
  have z0 : (nI 0).toNatClampNeg = 0 := nI_clamp (by decide)
  have zN : (nI N).toNatClampNeg = N := nI_clamp hN
  have hc0 : T.heap[ad k0]? = some (vp_cell cA (N, .inl f0)) := hW.1 k0 _ h0
  have hc1 : T.heap[ad k1]? = some (vp_cell cA (N, .inl g0)) := hW.1 k1 _ h1
  obtain ⟨-, kc0, hk0, cm0, hkk0⟩ := (C.k.2 t _ ht).1 N (fun j => .int (f0 j))
  have nn : ∀ z : Nat, z < 2 ^ 31 → (nI z).toInt = (z : Int) := fun z hz => nI_toInt hz
  obtain ⟨vm', X', step⟩ := X.arraycopy C.ex C.ow (C.ts _ w1) (C.ts _ w2) (C.ts _ w3) (C.ts _ w4) (src := ad k0) (dst := ad k1) (cs := vp_cell cA (N, .inl f0)) (cd := vp_cell cA (N, .inl g0)) (srcPos := nI 0) (destPos := nI 0) (n := nI N) hc0 hc1
    (fun _ h => by cases h) (fun _ h => by cases h) (fun h => by cases h) (fun h => by cases h) hk0 hk0 hkk0 hkk0 (by simp [refKind]) (nI_pos (by decide)) (nI_pos (by decide)) (nI_pos hN)
    (by rw [nn 0 (by decide), nn N hN]; show ¬ _ > ((arrV cA N (fun j => .int (f0 j))).slots.size : Int); rw [arrV_size]; omega)
    (by rw [nn 0 (by decide), nn N hN]; show ¬ _ > ((arrV cA N (fun j => .int (g0 j))).slots.size : Int); rw [arrV_size]; omega)
    (fun vm₁ _ i hi => by
      rw [zN] at hi
      have e : (vp_cell cA (N, .inl f0)).slots.getD ((nI 0).toNatClampNeg + i) .null = .int (f0 (0 + i)) := by
        show (arrV cA N (fun j => .int (f0 j))).slots.getD _ _ = _
        rw [z0, Array.getD_eq_getD_getElem?, arrV_read _ _ (by omega)]
        rfl
      rw [e]
      exact ⟨rfl, trivial⟩)
    (g := F0 m pc ls (.int (nI N) :: .int (nI 0) :: .ref (ad k1) :: .int (nI 0) :: .ref (ad k0) :: st)) rfl (hl.1.1.trans C.ml.symm) (rest := st) rfl (by rw [C.by]; exact d) hn (by show 2 * 0 + _ + _ ≤ 36 * n; omega)
  have e9 : copied (vp_cell cA (N, .inl f0)) (vp_cell cA (N, .inl g0)) (nI 0) (nI 0) (nI N) = vp_cell cA (N, .inl (va_cpy f0 g0 0 0 N)) := by
    have h := va_copied (fun z => Value.int z) cA cA (n0 := N) (n1 := N) (sp := (nI 0).toNatClampNeg) (dp := (nI 0).toNatClampNeg) (n := (nI N).toNatClampNeg) f0 g0 (by rw [z0, zN]; omega)
    rw [z0, zN] at h
    rw [copied, z0, zN]
    exact h
  rw [e9] at X' step
  have hlt : ad k1 < T.heap.size := (Array.getElem?_eq_some_iff.mp hc1).1
  have hheap : ((T.setVm vm').setCell (ad k1) (vp_cell cA (N, .inl (va_cpy f0 g0 0 0 N)))).heap = T.heap.setIfInBounds (ad k1) (vp_cell cA (N, .inl (va_cpy f0 g0 0 0 N))) := rfl
  have oq : ∀ q : Nat, q ≠ ad k1 → (T.heap.setIfInBounds (ad k1) (vp_cell cA (N, .inl (va_cpy f0 g0 0 0 N))))[q]? = T.heap[q]? := fun q hq => by simp [Array.getElem?_setIfInBounds, Ne.symm hq]
  have hin : bv_I cA (va_up M k1 (some (.inl (cA, N, .inl (va_cpy f0 g0 0 0 N))))) k1 N f := ⟨_, va_up_self _ _ _, fun j hj => by rw [sb_cpy0 hj]; exact e0 j hj⟩
  obtain ⟨t9, a1, b1⟩ := kk _ hin (fun q hq => va_up_ne _ _ hq) p e s m ar be me c A _ _ ls C (hW.set h1 (show (T.heap.setIfInBounds (ad k1) _)[ad k1]? = some _ by simp [Array.getElem?_setIfInBounds, hlt]) oq)
    ⟨by simp; exact hS.1, fun q g1 g2 => by
      rw [oq q (fun e => g2 (by rw [e]; exact hW.2.2 k1 (bj_ne h1)))]
      exact hS.2.1 q g1 g2, fun q hq => by
      rcases List.mem_append.mp hq with h | h
      · exact hS.2.2 q h
      · obtain ⟨z, -, hz⟩ := List.mem_map.mp h
        rw [← hz]
        exact hW.2.2 k1 (bj_ne h1)⟩ hl _ hheap X'
  exact ⟨t9, step t9 a1, b1⟩
end Rw
/-- Integer.bitCount, step by step -/
def jb1 (x : Int32) : Int32 := x - (ush x 1 &&& 1431655765)
def jb2 (x : Int32) : Int32 := (x &&& 858993459) + (ush x 2 &&& 858993459)
def jb3 (x : Int32) : Int32 := (x + ush x 4) &&& 252645135
def jb4 (x : Int32) : Int32 := x + ush x 8
def jb5 (x : Int32) : Int32 := x + ush x 16
def jbc (x : Int32) : Int32 := jb5 (jb4 (jb3 (jb2 (jb1 x)))) &&& 63
theorem jbc_n : ∀ m, m < 256 → jbc (nI m) = nI (mn_cnt (fun i => bt (nI m) i) 8) := by decide +kernel
theorem jbc_bm (p : Nat → Bool) {N : Nat} (hN : N ≤ 8) : jbc (bm p N) = nI (mn_cnt p N) := by
  have hb : ∀ i, i < 32 → bt (bm p N) i = (decide (i < N) && p i) := fun i hi => bm_bt p hi N (by omega)
  obtain ⟨m, hm, e⟩ : ∃ m, m < 256 ∧ bm p N = nI m := by
    have h1 : (bm p N).toBitVec.toNat < 2 ^ 8 := by
      apply Nat.lt_pow_two_of_testBit
      intro i hi
      rcases Nat.lt_or_ge i 32 with h2 | h2
      · have h3 := hb i h2
        have h4 : (bm p N).toBitVec.toNat.testBit i = bt (bm p N) i := rfl
        rw [h4, h3]
        simp
        omega
      · exact Nat.testBit_lt_two_pow (Nat.lt_of_lt_of_le (bm p N).toBitVec.isLt (Nat.pow_le_pow_right (by decide) h2))
    refine ⟨_, h1, ?_⟩
    apply Int32.toBitVec_inj.mp
    apply BitVec.eq_of_toNat_eq
    have := pk_tn (n := (bm p N).toBitVec.toNat) (by omega)
    rw [this]
  rw [e, jbc_n m hm, ← e]
  have h5 : ∀ k, k ≤ N → mn_cnt (fun i => bt (bm p N) i) k = mn_cnt p k := by
    intro k
    induction k with
    | zero => intro _; rfl
    | succ k ih =>
      intro hk
      unfold mn_cnt
      rw [ih (by omega), hb k (by omega), decide_eq_true (show k < N by omega)]
      simp
  have h6 : ∀ k, N ≤ k → k ≤ 8 → mn_cnt (fun i => bt (bm p N) i) k = mn_cnt (fun i => bt (bm p N) i) N := by
    intro k
    induction k with
    | zero => intro h _; rw [show N = 0 by omega]
    | succ k ih =>
      intro h1 h2
      by_cases e9 : N = k + 1
      · rw [e9]
      · rw [← ih (by omega) (by omega)]
        show mn_cnt (fun i => bt (bm p N) i) k + (if bt (bm p N) k = true then 1 else 0) = _
        rw [hb k (by omega), decide_eq_false (show ¬ k < N by omega)]
        simp
  rw [h6 8 hN (Nat.le_refl _), h5 N (Nat.le_refl _)]
/-- the least of the sets around a candidate -/
def q_top (M : bj_M) (N : Nat) (P : Nat → Nat → Int32) : bj_R → bj_M → Prop := bj_ret (fun v M' => ∃ c0, c0 < N ∧ v = some (.int (bm (mt_of (nbt P) N c0) N)) ∧ (∀ a, a < N → mn_cnt (mt_of (nbt P) N c0) N ≤ mn_cnt (mt_of (nbt P) N a) N) ∧ M' = M)
def q_copy (c : Nat → ClassId) (ad : Nat → Nat) (M : bj_M) (k N : Nat) (vs : Int32) (P : Nat → Nat → Int32) : bj_R → bj_M → Prop := bj_ret (fun r M' => r = none ∧ co_ok c ad M' k N vs P ∧ co_fr k N M M')
def q_fill (c : Nat → ClassId) (M : bj_M) (k N : Nat) (y : Int32) : bj_R → bj_M → Prop := bj_ret (fun r M' => r = none ∧ bv_I (c 0) M' k N (fun _ => y) ∧ ∀ q, q ≠ k → M' q = M q)
variable (l : Launch) (D : va_G) (c : Nat → ClassId) (ad : Nat → Nat) (M : bj_M)
set_option maxRecDepth 100000 in
set_option maxHeartbeats 4000000 in
/-- Integer.bitCount -/
theorem t_In_bitCount {x : Int32} : bj_T (bw_G l D c) Y_In_bitCount 0 (0, 0, 0, 0) ad (bj_fn (jbc x) M) [.int x] M := by
  show bj_S _ _ _ _ _ _ 0 0 0 [some (.int x)] [] M
  refine bj_iload_n d_In_bitCount_0 rfl rfl ?_
  refine bj_iload_n d_In_bitCount_1 rfl rfl ?_
  refine bj_iconst (v := (nI 1)) d_In_bitCount_2 (by decide) ?_
  refine bj_iushr (v := (ush x 1)) d_In_bitCount_3 rfl ?_
  refine bj_ldcw d_In_bitCount_4 wk_In_265 ?_
  refine bj_iand (v := ((ush x 1) &&& 1431655765)) d_In_bitCount_7 rfl ?_
  refine bj_isub (v := (jb1 x)) d_In_bitCount_8 rfl ?_
  refine bj_istore_n (L' := [some (.int (jb1 x))]) d_In_bitCount_9 rfl (by decide) rfl ?_
  refine bj_iload_n d_In_bitCount_10 rfl rfl ?_
  refine bj_ldcw d_In_bitCount_11 wk_In_266 ?_
  refine bj_iand (v := ((jb1 x) &&& 858993459)) d_In_bitCount_14 rfl ?_
  refine bj_iload_n d_In_bitCount_15 rfl rfl ?_
  refine bj_iconst (v := (nI 2)) d_In_bitCount_16 (by decide) ?_
  refine bj_iushr (v := (ush (jb1 x) 2)) d_In_bitCount_17 rfl ?_
  refine bj_ldcw d_In_bitCount_18 wk_In_266 ?_
  refine bj_iand (v := ((ush (jb1 x) 2) &&& 858993459)) d_In_bitCount_21 rfl ?_
  refine bj_iadd (v := (jb2 (jb1 x))) d_In_bitCount_22 rfl ?_
  refine bj_istore_n (L' := [some (.int (jb2 (jb1 x)))]) d_In_bitCount_23 rfl (by decide) rfl ?_
  refine bj_iload_n d_In_bitCount_24 rfl rfl ?_
  refine bj_iload_n d_In_bitCount_25 rfl rfl ?_
  refine bj_iconst (v := (nI 4)) d_In_bitCount_26 (by decide) ?_
  refine bj_iushr (v := (ush (jb2 (jb1 x)) 4)) d_In_bitCount_27 rfl ?_
  refine bj_iadd (v := ((jb2 (jb1 x)) + (ush (jb2 (jb1 x)) 4))) d_In_bitCount_28 rfl ?_
  refine bj_ldcw d_In_bitCount_29 wk_In_267 ?_
  refine bj_iand (v := (jb3 (jb2 (jb1 x)))) d_In_bitCount_32 rfl ?_
  refine bj_istore_n (L' := [some (.int (jb3 (jb2 (jb1 x))))]) d_In_bitCount_33 rfl (by decide) rfl ?_
  refine bj_iload_n d_In_bitCount_34 rfl rfl ?_
  refine bj_iload_n d_In_bitCount_35 rfl rfl ?_
  refine bj_bipush (v := (nI 8)) d_In_bitCount_36 (by decide) ?_
  refine bj_iushr (v := (ush (jb3 (jb2 (jb1 x))) 8)) d_In_bitCount_38 rfl ?_
  refine bj_iadd (v := (jb4 (jb3 (jb2 (jb1 x))))) d_In_bitCount_39 rfl ?_
  refine bj_istore_n (L' := [some (.int (jb4 (jb3 (jb2 (jb1 x)))))]) d_In_bitCount_40 rfl (by decide) rfl ?_
  refine bj_iload_n d_In_bitCount_41 rfl rfl ?_
  refine bj_iload_n d_In_bitCount_42 rfl rfl ?_
  refine bj_bipush (v := (nI 16)) d_In_bitCount_43 (by decide) ?_
  refine bj_iushr (v := (ush (jb4 (jb3 (jb2 (jb1 x)))) 16)) d_In_bitCount_45 rfl ?_
  refine bj_iadd (v := (jb5 (jb4 (jb3 (jb2 (jb1 x)))))) d_In_bitCount_46 rfl ?_
  refine bj_istore_n (L' := [some (.int (jb5 (jb4 (jb3 (jb2 (jb1 x))))))]) d_In_bitCount_47 rfl (by decide) rfl ?_
  refine bj_iload_n d_In_bitCount_48 rfl rfl ?_
  refine bj_bipush (v := (nI 63)) d_In_bitCount_49 (by decide) ?_
  refine bj_iand (v := (jbc x)) d_In_bitCount_51 rfl ?_
  exact bj_iret d_In_bitCount_52 rfl rfl (Nat.le_refl _) (Nat.le_refl _) ⟨rfl, rfl⟩
set_option maxRecDepth 100000 in
set_option maxHeartbeats 4000000 in
/-- topSet -/
theorem t_Co_topSet {k N : Nat} {vs : Int32} {P : Nat → Nat → Int32} (h : co_ok c ad M k N vs P) (hN : N ≤ 8) (h1 : 1 ≤ N) : bj_T (bw_G l D c) Y_Co_topSet 3 (0, 0, 0, 0) ad (q_top M N P) [.ref (ad k)] M := by
  show bj_S _ _ _ _ _ _ 0 0 0 [some (.ref (ad k)), none, none, none] [] M
  refine bj_aload_n d_Co_topSet_0 rfl rfl ?_
  refine bj_iconst (v := (nI 0)) d_Co_topSet_1 (by decide) ?_
  refine bj_cvF sv_Co_60 d_Co_topSet_2 (t_Co_beatingSetAround l D c ad M h hN (by omega)) rfl rfl (by decide) (by decide) (by decide) (Nat.le_of_ble_eq_true rfl) rfl h.1 rfl rfl ?_
  refine bj_istore_n (L' := [some (.ref (ad k)), some (.int (bm (mt_of (nbt P) N 0) N)), none, none]) d_Co_topSet_5 rfl (by decide) rfl ?_
  refine bj_iconst (v := (nI 1)) d_Co_topSet_6 (by decide) ?_
  refine bj_istore_n (L' := [some (.ref (ad k)), some (.int (bm (mt_of (nbt P) N 0) N)), some (.int (nI 1)), none]) d_Co_topSet_7 rfl (by decide) rfl ?_
  have lp : ∀ (i : Nat), ∀ (c0 : Nat), ∀ (z : Option Value), (1 ≤ i) → (i ≤ N) → (c0 < N) → (∀ a, a < i → mn_cnt (mt_of (nbt P) N c0) N ≤ mn_cnt (mt_of (nbt P) N a) N) → bj_S (bw_G l D c) Y_Co_topSet 3 (0, 0, 0, 0) ad (q_top M N P) 0 0 8 [some (.ref (ad k)), some (.int (bm (mt_of (nbt P) N c0) N)), some (.int (nI i)), z] [] M := by
    intro i c0 z
    induction hd_lp : N - i using Nat.strongRecOn generalizing i c0 z with
    | ind d_lp ih_lp =>
      intro hi hi2 hc hm
      refine bj_iload_n d_Co_topSet_8 rfl rfl ?_
      refine bj_aload_n d_Co_topSet_9 rfl rfl ?_
      refine bj_get d_Co_topSet_10 in_Co rfl (by decide : 0 < 3) wf_Co_9 rfl h.1 rfl ?_
      refine bj_icmp_geN (tgt := 41) d_Co_topSet_13 (by decide) (by have := mn_cnt_le (mt_of (nbt P) N i) N; have := mn_cnt_le (mt_of (nbt P) N c0) N; omega) (by have := mn_cnt_le (mt_of (nbt P) N i) N; have := mn_cnt_le (mt_of (nbt P) N c0) N; omega) (fun h13 => ?_) (fun h13 => ?_)
      · refine bj_iload_n d_Co_topSet_41 rfl rfl ?_
        exact bj_iret d_Co_topSet_42 rfl rfl (Nat.le_refl _) (Nat.le_refl _) ⟨c0, hc, rfl, fun a ha => hm a (by omega), rfl⟩
      · refine bj_aload_n d_Co_topSet_16 rfl rfl ?_
        refine bj_iload_n d_Co_topSet_17 rfl rfl ?_
        refine bj_cvF sv_Co_60 d_Co_topSet_18 (t_Co_beatingSetAround l D c ad M h hN (by omega)) rfl rfl (by decide) (by decide) (by decide) (Nat.le_of_ble_eq_true rfl) rfl h.1 rfl rfl ?_
        refine bj_istore_n (L' := [some (.ref (ad k)), some (.int (bm (mt_of (nbt P) N c0) N)), some (.int (nI i)), some (.int (bm (mt_of (nbt P) N i) N))]) d_Co_topSet_21 rfl (by decide) rfl ?_
        refine bj_iload_n d_Co_topSet_22 rfl rfl ?_
        refine bj_csF ss_Co_64 d_Co_topSet_23 (t_In_bitCount l D c ad M (x := bm (mt_of (nbt P) N i) N)) rfl rfl (by decide) (by decide) (by decide) (Nat.le_of_ble_eq_true rfl) rfl ?_
        rw [jbc_bm _ hN]
        refine bj_iload_n d_Co_topSet_26 rfl rfl ?_
        refine bj_csF ss_Co_64 d_Co_topSet_27 (t_In_bitCount l D c ad M (x := bm (mt_of (nbt P) N c0) N)) rfl rfl (by decide) (by decide) (by decide) (Nat.le_of_ble_eq_true rfl) rfl ?_
        rw [jbc_bm _ hN]
        refine bj_icmp_geN (tgt := 35) d_Co_topSet_30 (by decide) (by have := mn_cnt_le (mt_of (nbt P) N i) N; have := mn_cnt_le (mt_of (nbt P) N c0) N; omega) (by have := mn_cnt_le (mt_of (nbt P) N i) N; have := mn_cnt_le (mt_of (nbt P) N c0) N; omega) (fun h30 => ?_) (fun h30 => ?_)
        · refine bj_iinc (v := (nI (i + 1))) (L' := [some (.ref (ad k)), some (.int (bm (mt_of (nbt P) N c0) N)), some (.int (nI (i + 1))), some (.int (bm (mt_of (nbt P) N i) N))]) d_Co_topSet_35 rfl (bj_inc1 _) (by decide) rfl ?_
          refine bj_goto (tgt := 8) d_Co_topSet_38 (by decide) ?_
          exact ih_lp (N - (i + 1)) (by omega) (i + 1) c0 _ rfl (by omega) (by omega) (by omega) (fun a ha => by
            rcases Nat.lt_or_ge a i with q | q
            · have := hm a q; omega
            · have e : a = i := by omega
              subst e; omega)
        · refine bj_iload_n d_Co_topSet_33 rfl rfl ?_
          refine bj_istore_n (L' := [some (.ref (ad k)), some (.int (bm (mt_of (nbt P) N i) N)), some (.int (nI i)), some (.int (bm (mt_of (nbt P) N i) N))]) d_Co_topSet_34 rfl (by decide) rfl ?_
          refine bj_iinc (v := (nI (i + 1))) (L' := [some (.ref (ad k)), some (.int (bm (mt_of (nbt P) N i) N)), some (.int (nI (i + 1))), some (.int (bm (mt_of (nbt P) N i) N))]) d_Co_topSet_35 rfl (bj_inc1 _) (by decide) rfl ?_
          refine bj_goto (tgt := 8) d_Co_topSet_38 (by decide) ?_
          exact ih_lp (N - (i + 1)) (by omega) (i + 1) i _ rfl (by omega) (by omega) (by omega) (fun a ha => by
            rcases Nat.lt_or_ge a i with q | q
            · have := hm a q; omega
            · have e : a = i := by omega
              subst e; omega)
  exact lp 1 0 none (Nat.le_refl _) h1 (by omega) (fun a ha => Nat.le_of_eq (by rw [show a = 0 by omega]))
set_option maxRecDepth 100000 in
set_option maxHeartbeats 4000000 in
/-- Arrays.fill -/
theorem t_Ar_fill {k N : Nat} {y : Int32} {g : Nat → Int32} (h : bv_I (c 0) M k N g) (hN : N < 1000) : bj_T (bw_G l D c) Y_Ar_fill 0 (0, 0, 0, 0) ad (q_fill c M k N y) [.ref (ad k), .int y] M := by
  show bj_S _ _ _ _ _ _ 0 0 0 [some (.ref (ad k)), some (.int y), none, none] [] M
  refine bj_iconst (v := (nI 0)) d_Ar_fill_0 (by decide) ?_
  refine bj_istore_n (L' := [some (.ref (ad k)), some (.int y), some (.int (nI 0)), none]) d_Ar_fill_1 rfl (by decide) rfl ?_
  refine bj_aload_n d_Ar_fill_2 rfl rfl ?_
  obtain ⟨f0, hf0, -⟩ := id h
  refine bj_alen (v := nI N) d_Ar_fill_3 0 rfl hf0 rfl ?_
  refine bj_istore_n (L' := [some (.ref (ad k)), some (.int y), some (.int (nI 0)), some (.int (nI N))]) d_Ar_fill_4 rfl (by decide) rfl ?_
  have lp : ∀ (i : Nat), ∀ (M2 : bj_M), ∀ (g2 : Nat → Int32), (i ≤ N) → (bv_I (c 0) M2 k N g2) → (∀ j, j < i → g2 j = y) → (∀ q, q ≠ k → M2 q = M q) → bj_S (bw_G l D c) Y_Ar_fill 0 (0, 0, 0, 0) ad (q_fill c M k N y) 0 0 5 [some (.ref (ad k)), some (.int y), some (.int (nI i)), some (.int (nI N))] [] M2 := by
    intro i M2 g2
    induction hd_lp : N - i using Nat.strongRecOn generalizing i M2 g2 with
    | ind d_lp ih_lp =>
      intro hi hg he ho
      refine bj_iload_n d_Ar_fill_5 rfl rfl ?_
      refine bj_iload_n d_Ar_fill_6 rfl rfl ?_
      refine bj_icmp_geN (tgt := 20) d_Ar_fill_7 (by decide) (by omega) (by omega) (fun h7 => ?_) (fun h7 => ?_)
      · exact bj_vret d_Ar_fill_20 rfl (Nat.le_refl _) (Nat.le_refl _) ⟨rfl, hg.to (fun j hj => he j (by omega)), ho⟩
      · refine bj_aload_n d_Ar_fill_10 rfl rfl ?_
        refine bj_iload_n d_Ar_fill_11 rfl rfl ?_
        refine bj_iload_n d_Ar_fill_12 rfl rfl ?_
        refine bv_iast d_Ar_fill_13 0 rfl hg (by omega) (by omega) (fun N1 hN1 hO1 => ?_)
        refine bj_iinc (v := (nI (i + 1))) (L' := [some (.ref (ad k)), some (.int y), some (.int (nI (i + 1))), some (.int (nI N))]) d_Ar_fill_14 rfl (bj_inc1 _) (by decide) rfl ?_
        refine bj_goto (tgt := 5) d_Ar_fill_17 (by decide) ?_
        exact ih_lp (N - (i + 1)) (by omega) (i + 1) N1 _ rfl (by omega) hN1 (fun j hj => by
          by_cases e : j = i
          · subst e; exact va_up_self _ _ _
          · rw [va_up_ne _ _ e]; exact he j (by omega)) (fun q hq => (hO1 q hq).trans (ho q hq))
  exact lp 0 M g (Nat.zero_le _) h (fun j hj => absurd hj (Nat.not_lt_zero _)) (fun _ _ => rfl)
theorem wcp_1 : Cond.methodLink "BeatPathOffice$Count" 23 arraycopyName ∈ bw_TB := bw_t (i := 580) (by decide +kernel)
theorem wcp_2 : Cond.native arraycopyName ∈ bw_TB := bw_t (i := 582) (by decide +kernel)
theorem wcp_3 : Cond.static arraycopyName ∈ bw_TB := bw_t (i := 581) (by decide +kernel)
set_option maxRecDepth 100000 in
set_option maxHeartbeats 4000000 in
/-- copy -/
theorem t_Co_copy {k k2 N : Nat} {vs vs2 : Int32} {P P2 : Nat → Nat → Int32} (h : co_ok c ad M k N vs P) (h2 : co_ok c ad M k2 N vs2 P2) (hN : N ≤ 8) (hk : k2 + 10 ≤ k ∨ k + 10 ≤ k2) : bj_T (bw_G l D c) Y_Co_copy 3 (0, 0, 0, 0) ad (q_copy c ad M k N vs2 P2) [.ref (ad k), .ref (ad k2)] M := by
  show bj_S _ _ _ _ _ _ 0 0 0 [some (.ref (ad k)), some (.ref (ad k2)), none] [] M
  refine bj_aload_n d_Co_copy_0 rfl rfl ?_
  refine bj_aload_n d_Co_copy_1 rfl rfl ?_
  refine bj_get d_Co_copy_2 in_Co rfl (by decide : 1 < 3) wf_Co_15 rfl h2.1 rfl ?_
  refine bj_put d_Co_copy_5 in_Co ok_Co nm_Co rfl (by decide : 1 < 3) wf_Co_15 rfl rfl rfl rfl rfl (Nat.le_of_ble_eq_true rfl) h.1 ?_
  have h1 := h.vs (vs' := vs2)
  have hf1 : co_fr k N M (va_up M k (some (.inr (2, [.int (nI N), .int vs2, .ref (ad (k + 1))])))) := fun q hq => va_up_ne _ _ (by omega)
  show bj_S _ _ _ _ _ _ 0 0 _ _ [] (va_up M k (some (.inr (2, [.int (nI N), .int vs2, .ref (ad (k + 1))]))))
  generalize va_up M k (some (.inr (2, [.int (nI N), .int vs2, .ref (ad (k + 1))]))) = M1 at h1 hf1 ⊢
  refine bj_iconst (v := (nI 0)) d_Co_copy_8 (by decide) ?_
  refine bj_istore_n (L' := [some (.ref (ad k)), some (.ref (ad k2)), some (.int (nI 0))]) d_Co_copy_9 rfl (by decide) rfl ?_
  have lp : ∀ (i : Nat), ∀ (M2 : bj_M), (i ≤ N) → (co_ok c ad M2 k N vs2 (fun a b => if a < i then P2 a b else P a b)) → (co_fr k N M M2) → bj_S (bw_G l D c) Y_Co_copy 3 (0, 0, 0, 0) ad (q_copy c ad M k N vs2 P2) 0 0 10 [some (.ref (ad k)), some (.ref (ad k2)), some (.int (nI i))] [] M2 := by
    intro i M2
    induction hd_lp : N - i using Nat.strongRecOn generalizing i M2 with
    | ind d_lp ih_lp =>
      intro hi hc hf
      have h3 : co_ok c ad M2 k2 N vs2 P2 := h2.in (fun q q1 q2 => hf q (by omega))
      refine bj_iload_n d_Co_copy_10 rfl rfl ?_
      refine bj_aload_n d_Co_copy_11 rfl rfl ?_
      refine bj_get d_Co_copy_12 in_Co rfl (by decide : 0 < 3) wf_Co_9 rfl hc.1 rfl ?_
      refine bj_icmp_geN (tgt := 45) d_Co_copy_15 (by decide) (by omega) (by omega) (fun h15 => ?_) (fun h15 => ?_)
      · exact bj_vret d_Co_copy_45 rfl (Nat.le_refl _) (Nat.le_refl _) ⟨rfl, hc.to (fun a b ha hb => if_pos (by omega)), hf⟩
      · refine bj_aload_n d_Co_copy_18 rfl rfl ?_
        refine bj_get d_Co_copy_19 in_Co rfl (by decide : 2 < 3) wf_Co_20 rfl h3.1 rfl ?_
        refine bj_iload_n d_Co_copy_22 rfl rfl ?_
        refine bv_aald d_Co_copy_23 4 rfl rfl h3.2.1 (by omega) (by omega) ?_
        refine bj_iconst (v := (nI 0)) d_Co_copy_24 (by decide) ?_
        refine bj_aload_n d_Co_copy_25 rfl rfl ?_
        refine bj_get d_Co_copy_26 in_Co rfl (by decide : 2 < 3) wf_Co_20 rfl hc.1 rfl ?_
        refine bj_iload_n d_Co_copy_29 rfl rfl ?_
        refine bv_aald d_Co_copy_30 4 rfl rfl hc.2.1 (by omega) (by omega) ?_
        refine bj_iconst (v := (nI 0)) d_Co_copy_31 (by decide) ?_
        refine bj_aload_n d_Co_copy_32 rfl rfl ?_
        refine bj_get d_Co_copy_33 in_Co rfl (by decide : 0 < 3) wf_Co_9 rfl hc.1 rfl ?_
        refine bv_copy d_Co_copy_36 wcp_1 wcp_2 wcp_3 wi_System 0 rfl (h3.2.2 i (by omega)) (hc.2.2 i (by omega)) (by omega) (by decide) (by decide +kernel) (fun N1 hN1 hO1 => ?_)
        refine bj_iinc (v := (nI (i + 1))) (L' := [some (.ref (ad k)), some (.ref (ad k2)), some (.int (nI (i + 1)))]) d_Co_copy_39 rfl (bj_inc1 _) (by decide) rfl ?_
        refine bj_goto (tgt := 10) d_Co_copy_42 (by decide) ?_
        exact ih_lp (N - (i + 1)) (by omega) (i + 1) N1 rfl (by omega) ((hc.row (by omega) hN1 hO1).to (fun a b ha hb => by
          by_cases e : a = i
          · subst e; rw [va_up_self, if_pos (by omega)]
          · rw [va_up_ne _ _ e]
            by_cases e2 : a < i
            · rw [if_pos e2, if_pos (by omega)]
            · rw [if_neg e2, if_neg (by omega)])) (hf.at (by omega) hO1)
  exact lp 0 M1 (Nat.zero_le _) (h1.to (fun a b _ _ => (if_neg (Nat.not_lt_zero _)).symm)) hf1
end C6
