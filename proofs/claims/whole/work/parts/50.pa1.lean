/-! BeatPaths: widen, weigh, reachedAbove, isUnbeaten, unbeaten (walks by gen/m_pa1.py) -/
section P1
section Rw
variable {G : bj_G} {Y : bj_Y} {n : Nat} {K : bj_K} {ad : Nat → Nat} {Q : bj_R → bj_M → Prop} {cs sl pc : Nat} {L : List (Option Value)} {st : List Value} {M : bj_M}
theorem bj_mmax {index : Nat} {x y v : Int32} (d : decode Y.2.2.1 pc = .ok (.invokestatic index, 3)) (w1 : Cond.methodLink Y.1 index Lib.Math.max.name ∈ G.2.2.2.2) (w2 : Cond.static Lib.Math.max.name ∈ G.2.2.2.2) (w3 : Cond.initialized "java/lang/Math" ∈ G.2.2.2.2) (w4 : Cond.code Lib.Math.max.name Lib.Math.max.code 2 (some .int) ∈ G.2.2.2.2) (hn : 1 ≤ n) (h8 : (st.map fun v => v.category).sum ≤ 8) (hc : cs ≤ K.1 + K.2.2.1) (hs : sl ≤ K.2.1 + K.2.2.2) (hv : (if x < y then y else x) = v)
    (kk : bj_S G Y n K ad Q cs sl (pc + 3) L (.int v :: st) M) : bj_S G Y n K ad Q cs sl pc L (.int y :: .int x :: st) M := by
  subst hv
  exact fun p e s m ar be me c A H lo ls C hW hS hl => va_mmax C.ex C.by (C.ml.trans hl.1.1.symm) C.ow (C.ts _ w1) (C.ts _ w2) (C.ts _ w3) (C.ts _ w4) hn (by show _ ≤ 36 * n; omega) hc hs d (kk p e s m ar be me c A H lo ls C hW hS hl)
theorem bj_mmin {index : Nat} {x y v : Int32} (d : decode Y.2.2.1 pc = .ok (.invokestatic index, 3)) (w1 : Cond.methodLink Y.1 index Lib.Math.min.name ∈ G.2.2.2.2) (w2 : Cond.static Lib.Math.min.name ∈ G.2.2.2.2) (w3 : Cond.initialized "java/lang/Math" ∈ G.2.2.2.2) (w4 : Cond.code Lib.Math.min.name Lib.Math.min.code 2 (some .int) ∈ G.2.2.2.2) (hn : 1 ≤ n) (h8 : (st.map fun v => v.category).sum ≤ 8) (hc : cs ≤ K.1 + K.2.2.1) (hs : sl ≤ K.2.1 + K.2.2.2) (hv : (if y < x then y else x) = v)
    (kk : bj_S G Y n K ad Q cs sl (pc + 3) L (.int v :: st) M) : bj_S G Y n K ad Q cs sl pc L (.int y :: .int x :: st) M := by
  subst hv
  exact fun p e s m ar be me c A H lo ls C hW hS hl => va_mmin C.ex C.by (C.ml.trans hl.1.1.symm) C.ow (C.ts _ w1) (C.ts _ w2) (C.ts _ w3) (C.ts _ w4) hn (by show _ ≤ 36 * n; omega) hc hs d (kk p e s m ar be me c A H lo ls C hW hS hl)
end Rw
theorem nI_max {a b : Nat} (ha : a < 2 ^ 31) (hb : b < 2 ^ 31) : (if nI a < nI b then nI b else nI a) = nI (max a b) := by
  by_cases h : a < b
  · rw [if_pos ((nI_ltI ha hb).mpr h), Nat.max_eq_right (by omega)]
  · rw [if_neg (fun q => h ((nI_ltI ha hb).mp q)), Nat.max_eq_left (by omega)]
theorem nI_min {a b : Nat} (ha : a < 2 ^ 31) (hb : b < 2 ^ 31) : (if nI b < nI a then nI b else nI a) = nI (min a b) := by
  by_cases h : b < a
  · rw [if_pos ((nI_ltI hb ha).mpr h), Nat.min_eq_right (by omega)]
  · rw [if_neg (fun q => h ((nI_ltI hb ha).mp q)), Nat.min_eq_left (by omega)]
/-- the paths: the grid of strengths, the steps -/
def pa_ok (c : Nat → ClassId) (ad : Nat → Nat) (M : bj_M) (k N : Nat) (f : Nat → Nat → Nat) : Prop := M k = some (.inr (1, [.int (nI N), .ref (ad (k + 1)), .ref (ad (k + 10))])) ∧ bv_R (c 4) M (k + 1) N (fun i => ad (k + 2 + i)) ∧ (∀ a, a < N → bv_I (c 0) M (k + 2 + a) N (fun b => nI (f a b))) ∧ ∀ a b, a < N → b < N → f a b < 2 ^ 31
def pa_fr (k N : Nat) (M M' : bj_M) : Prop := ∀ q, ¬ (k + 2 ≤ q ∧ q < k + 2 + N) → M' q = M q
theorem pa_fr.rf {k N : Nat} {M : bj_M} : pa_fr k N M M := fun _ _ => rfl
theorem pa_fr.tr {k N : Nat} {M M' M'' : bj_M} (h : pa_fr k N M M') (h' : pa_fr k N M' M'') : pa_fr k N M M'' := fun q hq => (h' q hq).trans (h q hq)
theorem pa_fr.at {k N j : Nat} {M M' M'' : bj_M} (h : pa_fr k N M M') (hj : k + 2 ≤ j ∧ j < k + 2 + N) (ho : ∀ q, q ≠ j → M'' q = M' q) : pa_fr k N M M'' := fun q hq => (ho q (fun e => hq (by rw [e]; exact hj))).trans (h q hq)
theorem pa_ok.to {c : Nat → ClassId} {ad : Nat → Nat} {M : bj_M} {k N : Nat} {f f' : Nat → Nat → Nat} (h : pa_ok c ad M k N f) (e : ∀ a b, a < N → b < N → f a b = f' a b) : pa_ok c ad M k N f' := ⟨h.1, h.2.1, fun a ha => (h.2.2.1 a ha).to (fun b hb => by show nI _ = nI _; rw [e a b ha hb]), fun a b ha hb => by rw [← e a b ha hb]; exact h.2.2.2 a b ha hb⟩
theorem pa_ok.row {c : Nat → ClassId} {ad : Nat → Nat} {M M' : bj_M} {k N a : Nat} {f : Nat → Nat → Nat} {g : Nat → Nat} (h : pa_ok c ad M k N f) (ha : a < N) (hr : bv_I (c 0) M' (k + 2 + a) N (fun b => nI (g b))) (hg : ∀ b, b < N → g b < 2 ^ 31) (ho : ∀ q, q ≠ k + 2 + a → M' q = M q) : pa_ok c ad M' k N (va_up f a g) := by
  refine ⟨(ho k (by omega)).trans h.1, h.2.1.in (ho _ (by omega)), fun i hi => ?_, fun i b hi hb => ?_⟩
  · by_cases e : i = a
    · subst e
      rw [va_up_self]
      exact hr
    · rw [va_up_ne _ _ e]
      exact (h.2.2.1 i hi).in (ho _ (by omega))
  · by_cases e : i = a
    · subst e
      rw [va_up_self]
      exact hg b hb
    · rw [va_up_ne _ _ e]
      exact h.2.2.2 i b hi hb
theorem bv_I.upn {cI : ClassId} {M : bj_M} {k N j : Nat} {g : Nat → Nat} {y : Nat} (h : bv_I cI M k N (va_up (fun b => nI (g b)) j (nI y))) : bv_I cI M k N (fun b => nI (va_up g j y b)) := h.to (fun i _ => by
  unfold va_up
  split <;> rfl)
def q_widen (c : Nat → ClassId) (ad : Nat → Nat) (M : bj_M) (k N : Nat) (f : Nat → Nat → Nat) (a o : Nat) : bj_R → bj_M → Prop := bj_ret (fun r M' => r = none ∧ pa_ok c ad M' k N (va_up f a (mg_fw f o a)) ∧ pa_fr k N M M')
/-- the row as far as b0 -/
def wd_row (f : Nat → Nat → Nat) (o a b0 b : Nat) : Nat := if b < b0 then mg_fw f o a b else f a b
theorem wd_o {f : Nat → Nat → Nat} {o a b0 : Nat} : wd_row f o a b0 o = f a o := by
  unfold wd_row mg_fw
  split <;> omega
theorem dir_nI {P : Nat → Nat → Int32} {p : Nat → Nat → Nat} {N a b : Nat} (hP : ∀ a b, a < N → b < N → P a b = nI (p a b)) (hp : ∀ a b, a < N → b < N → p a b < 2 ^ 31) (ha : a < N) (hb : b < N) : dir P a b = nI (drn p a b) := by
  unfold dir drn
  rw [hP a b ha hb, hP b a hb ha]
  by_cases h : p b a < p a b
  · rw [if_pos ((nI_ltI (hp b a hb ha) (hp a b ha hb)).mpr h), if_pos h]
  · rw [if_neg (fun q => h ((nI_ltI (hp b a hb ha) (hp a b ha hb)).mp q)), if_neg h]
    rfl
theorem drn_lt {p : Nat → Nat → Nat} {N a b : Nat} (hp : ∀ a b, a < N → b < N → p a b < 2 ^ 31) (ha : a < N) (hb : b < N) : drn p a b < 2 ^ 31 := by
  have := hp a b ha hb
  unfold drn
  split <;> omega
def q_weigh (c : Nat → ClassId) (ad : Nat → Nat) (M : bj_M) (k N : Nat) (p : Nat → Nat → Nat) : bj_R → bj_M → Prop := bj_ret (fun r M' => r = none ∧ pa_ok c ad M' k N (mg_F (drn p) N) ∧ pa_fr k N M M')
def bmo (x : Int32) (p : Nat → Bool) : Nat → Int32
  | 0 => x
  | n + 1 => if p n = true then bmo x p n ||| ((nI 1) <<< ((nI n) &&& 31)) else bmo x p n
theorem bmo_s {x : Int32} {p : Nat → Bool} {n : Nat} (h : p n = true) : bmo x p n ||| ((nI 1) <<< ((nI n) &&& 31)) = bmo x p (n + 1) := by rw [bmo, if_pos h]
theorem bmo_n {x : Int32} {p : Nat → Bool} {n : Nat} (h : p n = false) : bmo x p (n + 1) = bmo x p n := by rw [bmo, if_neg (by rw [h]; decide)]
theorem bmo_bt (x : Int32) (p : Nat → Bool) {i : Nat} (hi : i < 32) : ∀ n, n ≤ 32 → bt (bmo x p n) i = (bt x i || (decide (i < n) && p i))
  | 0, _ => by simp [bmo]
  | n + 1, h => by
    have ih := bmo_bt x p hi n (by omega)
    by_cases e : p n = true
    · rw [bmo, if_pos e, b_or, ih, bt_one' (by omega) hi]
      by_cases e2 : i = n
      · subst e2; simp [e]
      · by_cases e3 : i < n
        · simp [e2, e3, show i < n + 1 by omega]
        · simp [e2, e3, show ¬ i < n + 1 by omega]
    · rw [bmo, if_neg e, ih]
      by_cases e2 : i = n
      · subst e2; simp [e]
      · by_cases e3 : i < n
        · simp [e3, show i < n + 1 by omega]
        · simp [e3, show ¬ i < n + 1 by omega]
/-- nobody's way to a is stronger than a's to them -/
def ubn (f : Nat → Nat → Nat) (N a : Nat) : Bool := decide (∀ b, b < N → f b a ≤ f a b)
variable (l : Launch) (D : va_G) (c : Nat → ClassId) (ad : Nat → Nat) (M : bj_M)
theorem wm_min1 : Cond.methodLink "BeatPathOffice$BeatPaths" 34 Lib.Math.min.name ∈ bw_TB := bw_t (i := 405) (by decide +kernel)
theorem wm_min2 : Cond.static Lib.Math.min.name ∈ bw_TB := bw_t (i := 406) (by decide +kernel)
theorem wm_min4 : Cond.code Lib.Math.min.name Lib.Math.min.code 2 (some .int) ∈ bw_TB := bw_t (i := 407) (by decide +kernel)
theorem wm_max1 : Cond.methodLink "BeatPathOffice$BeatPaths" 39 Lib.Math.max.name ∈ bw_TB := bw_t (i := 408) (by decide +kernel)
theorem wm_max2 : Cond.static Lib.Math.max.name ∈ bw_TB := bw_t (i := 409) (by decide +kernel)
theorem wm_max4 : Cond.code Lib.Math.max.name Lib.Math.max.code 2 (some .int) ∈ bw_TB := bw_t (i := 410) (by decide +kernel)
set_option maxRecDepth 100000 in
set_option maxHeartbeats 4000000 in
/-- widen -/
theorem t_Pa_widen {k N a o : Nat} {f : Nat → Nat → Nat} (h : pa_ok c ad M k N f) (hN : N ≤ 8) (ha : a < N) (ho : o < N) : bj_T (bw_G l D c) Y_Pa_widen 1 (0, 0, 0, 0) ad (q_widen c ad M k N f a o) [.ref (ad k), .int (nI a), .int (nI o)] M := by
  show bj_S _ _ _ _ _ _ 0 0 0 [some (.ref (ad k)), some (.int (nI a)), some (.int (nI o)), none, none] [] M
  refine bj_iconst (v := (nI 0)) d_Pa_widen_0 (by decide) ?_
  refine bj_istore_n (L' := [some (.ref (ad k)), some (.int (nI a)), some (.int (nI o)), some (.int (nI 0)), none]) d_Pa_widen_1 rfl (by decide) rfl ?_
  have lp : ∀ (b0 : Nat), ∀ (M2 : bj_M), ∀ (z : Option Value), (b0 ≤ N) → (pa_ok c ad M2 k N (va_up f a (wd_row f o a b0))) → (pa_fr k N M M2) → bj_S (bw_G l D c) Y_Pa_widen 1 (0, 0, 0, 0) ad (q_widen c ad M k N f a o) 0 0 2 [some (.ref (ad k)), some (.int (nI a)), some (.int (nI o)), some (.int (nI b0)), z] [] M2 := by
    intro b0 M2 z
    induction hd_lp : N - b0 using Nat.strongRecOn generalizing b0 M2 z with
    | ind d_lp ih_lp =>
      intro hb0 h2 hf
      refine bj_iload_n d_Pa_widen_2 rfl rfl ?_
      refine bj_aload_n d_Pa_widen_3 rfl rfl ?_
      refine bj_get d_Pa_widen_4 in_Pa rfl (by decide : 0 < 3) wf_Pa_9 rfl h2.1 rfl ?_
      refine bj_icmp_geN (tgt := 58) d_Pa_widen_7 (by decide) (by omega) (by omega) (fun h7 => ?_) (fun h7 => ?_)
      · exact bj_vret d_Pa_widen_58 rfl (Nat.le_refl _) (Nat.le_refl _) ⟨rfl, h2.to (fun i b hi hb => by
  by_cases e : i = a
  · subst e; rw [va_up_self, va_up_self]; exact if_pos (by omega)
  · rw [va_up_ne _ _ e, va_up_ne _ _ e]), hf⟩
      · have wd_ob : (va_up f a (wd_row f o a b0)) o b0 = f o b0 := by
          by_cases e : o = a
          · subst e; rw [va_up_self]; exact if_neg (Nat.lt_irrefl _)
          · rw [va_up_ne _ _ e]
        have hb1 := h.2.2.2 a o ha ho
        have hb2 := h.2.2.2 o b0 ho h7
        have hb3 := h.2.2.2 a b0 ha h7
        have hb4 : mg_fw f o a b0 < 2 ^ 31 := by unfold mg_fw; omega
        refine bj_aload_n d_Pa_widen_10 rfl rfl ?_
        refine bj_get d_Pa_widen_11 in_Pa rfl (by decide : 1 < 3) wf_Pa_17 rfl h2.1 rfl ?_
        refine bj_iload_n d_Pa_widen_14 rfl rfl ?_
        refine bv_aald d_Pa_widen_15 4 rfl rfl h2.2.1 (by omega) (by omega) ?_
        refine bj_iload_n d_Pa_widen_16 rfl rfl ?_
        refine bv_iald d_Pa_widen_17 0 rfl (h2.2.2.1 a ha) (by omega) (by omega) rfl ?_
        refine bj_aload_n d_Pa_widen_18 rfl rfl ?_
        refine bj_get d_Pa_widen_19 in_Pa rfl (by decide : 1 < 3) wf_Pa_17 rfl h2.1 rfl ?_
        refine bj_iload_n d_Pa_widen_22 rfl rfl ?_
        refine bv_aald d_Pa_widen_23 4 rfl rfl h2.2.1 (by omega) (by omega) ?_
        refine bj_iload_n d_Pa_widen_24 rfl rfl ?_
        refine bv_iald d_Pa_widen_25 0 rfl (h2.2.2.1 o ho) (by omega) (by omega) rfl ?_
        refine bj_mmin (v := (nI (min (f a o) (f o b0)))) d_Pa_widen_26 wm_min1 wm_min2 wi_Math wm_min4 (by decide) (Nat.le_of_ble_eq_true rfl) (Nat.zero_le _) (Nat.zero_le _) (by rw [va_up_self, wd_o, wd_ob]; exact nI_min hb1 hb2) ?_
        refine bj_istore (L' := [some (.ref (ad k)), some (.int (nI a)), some (.int (nI o)), some (.int (nI b0)), some (.int (nI (min (f a o) (f o b0))))]) d_Pa_widen_29 (by decide) rfl ?_
        refine bj_aload_n d_Pa_widen_31 rfl rfl ?_
        refine bj_get d_Pa_widen_32 in_Pa rfl (by decide : 1 < 3) wf_Pa_17 rfl h2.1 rfl ?_
        refine bj_iload_n d_Pa_widen_35 rfl rfl ?_
        refine bv_aald d_Pa_widen_36 4 rfl rfl h2.2.1 (by omega) (by omega) ?_
        refine bj_iload_n d_Pa_widen_37 rfl rfl ?_
        refine bj_aload_n d_Pa_widen_38 rfl rfl ?_
        refine bj_get d_Pa_widen_39 in_Pa rfl (by decide : 1 < 3) wf_Pa_17 rfl h2.1 rfl ?_
        refine bj_iload_n d_Pa_widen_42 rfl rfl ?_
        refine bv_aald d_Pa_widen_43 4 rfl rfl h2.2.1 (by omega) (by omega) ?_
        refine bj_iload_n d_Pa_widen_44 rfl rfl ?_
        refine bv_iald d_Pa_widen_45 0 rfl (h2.2.2.1 a ha) (by omega) (by omega) rfl ?_
        refine bj_iload d_Pa_widen_46 rfl ?_
        refine bj_mmax (v := (nI (mg_fw f o a b0))) d_Pa_widen_48 wm_max1 wm_max2 wi_Math wm_max4 (by decide) (Nat.le_of_ble_eq_true rfl) (Nat.zero_le _) (Nat.zero_le _) (by rw [va_up_self, show wd_row f o a b0 b0 = f a b0 from if_neg (Nat.lt_irrefl _)]; exact nI_max hb3 (by omega)) ?_
        refine bv_iast d_Pa_widen_51 0 rfl (h2.2.2.1 a ha) (by omega) (by omega) (fun N1 hN1 hO1 => ?_)
        have hN2 := bv_I.upn hN1
        refine bj_iinc (v := (nI (b0 + 1))) (L' := [some (.ref (ad k)), some (.int (nI a)), some (.int (nI o)), some (.int (nI (b0 + 1))), some (.int (nI (min (f a o) (f o b0))))]) d_Pa_widen_52 rfl (bj_inc1 _) (by decide) rfl ?_
        refine bj_goto (tgt := 2) d_Pa_widen_55 (by decide) ?_
        exact ih_lp (N - (b0 + 1)) (by omega) (b0 + 1) N1 _ rfl (by omega) ((h2.row ha hN2 (fun b hb => by
          have q := h2.2.2.2 a b ha hb
          unfold va_up at q ⊢
          split
          · exact hb4
          · exact q) hO1).to (fun i b hi hb => by
          by_cases e : i = a
          · subst e
            by_cases e2 : b = b0
            · subst e2
              simp only [va_up_self]
              exact (if_pos (Nat.lt_succ_self _)).symm
            · simp only [va_up_self, va_up_ne _ _ e2]
              unfold wd_row
              by_cases e3 : b < b0
              · rw [if_pos e3, if_pos (by omega)]
              · rw [if_neg e3, if_neg (by omega)]
          · rw [va_up_ne _ _ e, va_up_ne _ _ e, va_up_ne _ _ e])) (hf.at (by omega) hO1)
  exact lp 0 M none (Nat.zero_le _) (h.to (fun i b hi hb => by
    by_cases e : i = a
    · subst e; rw [va_up_self]; exact (if_neg (Nat.not_lt_zero _)).symm
    · rw [va_up_ne _ _ e])) pa_fr.rf
set_option maxRecDepth 100000 in
set_option maxHeartbeats 4000000 in
/-- reachedAbove -/
theorem t_Pa_reachedAbove {k N a s : Nat} {f : Nat → Nat → Nat} (h : pa_ok c ad M k N f) (hN : N ≤ 8) (ha : a < N) (hs : s < 2 ^ 31) : bj_T (bw_G l D c) Y_Pa_reachedAbove 0 (0, 0, 0, 0) ad (bj_fn (bmo ((nI 1) <<< ((nI a) &&& 31)) (fun i => decide (s < f a i)) N) M) [.ref (ad k), .int (nI a), .int (nI s)] M := by
  show bj_S _ _ _ _ _ _ 0 0 0 [some (.ref (ad k)), some (.int (nI a)), some (.int (nI s)), none, none] [] M
  refine bj_iconst (v := (nI 1)) d_Pa_reachedAbove_0 (by decide) ?_
  refine bj_iload_n d_Pa_reachedAbove_1 rfl rfl ?_
  refine bj_ishl (v := ((nI 1) <<< ((nI a) &&& 31))) d_Pa_reachedAbove_2 rfl ?_
  refine bj_istore_n (L' := [some (.ref (ad k)), some (.int (nI a)), some (.int (nI s)), some (.int ((nI 1) <<< ((nI a) &&& 31))), none]) d_Pa_reachedAbove_3 rfl (by decide) rfl ?_
  refine bj_iconst (v := (nI 0)) d_Pa_reachedAbove_4 (by decide) ?_
  refine bj_istore (L' := [some (.ref (ad k)), some (.int (nI a)), some (.int (nI s)), some (.int ((nI 1) <<< ((nI a) &&& 31))), some (.int (nI 0))]) d_Pa_reachedAbove_5 (by decide) rfl ?_
  have lp : ∀ (i : Nat), (i ≤ N) → bj_S (bw_G l D c) Y_Pa_reachedAbove 0 (0, 0, 0, 0) ad (bj_fn (bmo ((nI 1) <<< ((nI a) &&& 31)) (fun i => decide (s < f a i)) N) M) 0 0 7 [some (.ref (ad k)), some (.int (nI a)), some (.int (nI s)), some (.int (bmo ((nI 1) <<< ((nI a) &&& 31)) (fun i => decide (s < f a i)) i)), some (.int (nI i))] [] M := by
    intro i
    induction hd_lp : N - i using Nat.strongRecOn generalizing i with
    | ind d_lp ih_lp =>
      intro hi
      refine bj_iload d_Pa_reachedAbove_7 rfl ?_
      refine bj_aload_n d_Pa_reachedAbove_9 rfl rfl ?_
      refine bj_get d_Pa_reachedAbove_10 in_Pa rfl (by decide : 0 < 3) wf_Pa_9 rfl h.1 rfl ?_
      refine bj_icmp_geN (tgt := 42) d_Pa_reachedAbove_13 (by decide) (by first | omega | exact h.2.2.2 a i ha (by omega)) (by first | omega | exact h.2.2.2 a i ha (by omega)) (fun h13 => ?_) (fun h13 => ?_)
      · refine bj_iload_n d_Pa_reachedAbove_42 rfl rfl ?_
        exact bj_iret d_Pa_reachedAbove_43 rfl rfl (Nat.le_refl _) (Nat.le_refl _) ⟨by rw [show N = i by omega], rfl⟩
      · refine bj_aload_n d_Pa_reachedAbove_16 rfl rfl ?_
        refine bj_get d_Pa_reachedAbove_17 in_Pa rfl (by decide : 1 < 3) wf_Pa_17 rfl h.1 rfl ?_
        refine bj_iload_n d_Pa_reachedAbove_20 rfl rfl ?_
        refine bv_aald d_Pa_reachedAbove_21 4 rfl rfl h.2.1 (by omega) (by first | omega | exact h.2.2.2 a i ha (by omega)) ?_
        refine bj_iload d_Pa_reachedAbove_22 rfl ?_
        refine bv_iald d_Pa_reachedAbove_24 0 rfl (h.2.2.1 a ha) (by omega) (by first | omega | exact h.2.2.2 a i ha (by omega)) rfl ?_
        refine bj_iload_n d_Pa_reachedAbove_25 rfl rfl ?_
        refine bj_icmp_leN (tgt := 36) d_Pa_reachedAbove_26 (by decide) (by first | omega | exact h.2.2.2 a i ha (by omega)) (by first | omega | exact h.2.2.2 a i ha (by omega)) (fun h26 => ?_) (fun h26 => ?_)
        · refine bj_iinc (v := (nI (i + 1))) (L' := [some (.ref (ad k)), some (.int (nI a)), some (.int (nI s)), some (.int (bmo ((nI 1) <<< ((nI a) &&& 31)) (fun i => decide (s < f a i)) i)), some (.int (nI (i + 1)))]) d_Pa_reachedAbove_36 rfl (bj_inc1 _) (by decide) rfl ?_
          refine bj_goto (tgt := 7) d_Pa_reachedAbove_39 (by decide) ?_
          rw [← bmo_n (p := fun i => decide (s < f a i)) (n := i) (decide_eq_false (by omega))]
          exact ih_lp (N - (i + 1)) (by omega) (i + 1) rfl (by omega)
        · refine bj_iload_n d_Pa_reachedAbove_29 rfl rfl ?_
          refine bj_iconst (v := (nI 1)) d_Pa_reachedAbove_30 (by decide) ?_
          refine bj_iload d_Pa_reachedAbove_31 rfl ?_
          refine bj_ishl (v := ((nI 1) <<< ((nI i) &&& 31))) d_Pa_reachedAbove_33 rfl ?_
          refine bj_ior (v := (bmo ((nI 1) <<< ((nI a) &&& 31)) (fun i => decide (s < f a i)) (i + 1))) d_Pa_reachedAbove_34 (bmo_s (decide_eq_true h26)) ?_
          refine bj_istore_n (L' := [some (.ref (ad k)), some (.int (nI a)), some (.int (nI s)), some (.int (bmo ((nI 1) <<< ((nI a) &&& 31)) (fun i => decide (s < f a i)) (i + 1))), some (.int (nI i))]) d_Pa_reachedAbove_35 rfl (by decide) rfl ?_
          refine bj_iinc (v := (nI (i + 1))) (L' := [some (.ref (ad k)), some (.int (nI a)), some (.int (nI s)), some (.int (bmo ((nI 1) <<< ((nI a) &&& 31)) (fun i => decide (s < f a i)) (i + 1))), some (.int (nI (i + 1)))]) d_Pa_reachedAbove_36 rfl (bj_inc1 _) (by decide) rfl ?_
          refine bj_goto (tgt := 7) d_Pa_reachedAbove_39 (by decide) ?_
          exact ih_lp (N - (i + 1)) (by omega) (i + 1) rfl (by omega)
  exact lp 0 (Nat.zero_le _)
set_option maxRecDepth 100000 in
set_option maxHeartbeats 4000000 in
/-- isUnbeaten -/
theorem t_Pa_isUnbeaten {k N a : Nat} {f : Nat → Nat → Nat} (h : pa_ok c ad M k N f) (hN : N ≤ 8) (ha : a < N) : bj_T (bw_G l D c) Y_Pa_isUnbeaten 0 (0, 0, 0, 0) ad (bj_fn (bt_n (ubn f N a)) M) [.ref (ad k), .int (nI a)] M := by
  show bj_S _ _ _ _ _ _ 0 0 0 [some (.ref (ad k)), some (.int (nI a)), none] [] M
  refine bj_iconst (v := (nI 0)) d_Pa_isUnbeaten_0 (by decide) ?_
  refine bj_istore_n (L' := [some (.ref (ad k)), some (.int (nI a)), some (.int (nI 0))]) d_Pa_isUnbeaten_1 rfl (by decide) rfl ?_
  have lp : ∀ (i : Nat), (i ≤ N) → (∀ b, b < i → f b a ≤ f a b) → bj_S (bw_G l D c) Y_Pa_isUnbeaten 0 (0, 0, 0, 0) ad (bj_fn (bt_n (ubn f N a)) M) 0 0 2 [some (.ref (ad k)), some (.int (nI a)), some (.int (nI i))] [] M := by
    intro i
    induction hd_lp : N - i using Nat.strongRecOn generalizing i with
    | ind d_lp ih_lp =>
      intro hi hu
      refine bj_iload_n d_Pa_isUnbeaten_2 rfl rfl ?_
      refine bj_aload_n d_Pa_isUnbeaten_3 rfl rfl ?_
      refine bj_get d_Pa_isUnbeaten_4 in_Pa rfl (by decide : 0 < 3) wf_Pa_9 rfl h.1 rfl ?_
      refine bj_icmp_geN (tgt := 37) d_Pa_isUnbeaten_7 (by decide) (by first | omega | exact h.2.2.2 a i ha (by omega) | exact h.2.2.2 i a (by omega) ha) (by first | omega | exact h.2.2.2 a i ha (by omega) | exact h.2.2.2 i a (by omega) ha) (fun h7 => ?_) (fun h7 => ?_)
      · refine bj_iconst (v := (nI 1)) d_Pa_isUnbeaten_37 (by decide) ?_
        exact bj_iret d_Pa_isUnbeaten_38 rfl rfl (Nat.le_refl _) (Nat.le_refl _) ⟨bt_t (decide_eq_true (fun b hb => hu b (by omega))), rfl⟩
      · refine bj_aload_n d_Pa_isUnbeaten_10 rfl rfl ?_
        refine bj_get d_Pa_isUnbeaten_11 in_Pa rfl (by decide : 1 < 3) wf_Pa_17 rfl h.1 rfl ?_
        refine bj_iload_n d_Pa_isUnbeaten_14 rfl rfl ?_
        refine bv_aald d_Pa_isUnbeaten_15 4 rfl rfl h.2.1 (by omega) (by first | omega | exact h.2.2.2 a i ha (by omega) | exact h.2.2.2 i a (by omega) ha) ?_
        refine bj_iload_n d_Pa_isUnbeaten_16 rfl rfl ?_
        refine bv_iald d_Pa_isUnbeaten_17 0 rfl (h.2.2.1 a ha) (by omega) (by first | omega | exact h.2.2.2 a i ha (by omega) | exact h.2.2.2 i a (by omega) ha) rfl ?_
        refine bj_aload_n d_Pa_isUnbeaten_18 rfl rfl ?_
        refine bj_get d_Pa_isUnbeaten_19 in_Pa rfl (by decide : 1 < 3) wf_Pa_17 rfl h.1 rfl ?_
        refine bj_iload_n d_Pa_isUnbeaten_22 rfl rfl ?_
        refine bv_aald d_Pa_isUnbeaten_23 4 rfl rfl h.2.1 (by omega) (by first | omega | exact h.2.2.2 a i ha (by omega) | exact h.2.2.2 i a (by omega) ha) ?_
        refine bj_iload_n d_Pa_isUnbeaten_24 rfl rfl ?_
        refine bv_iald d_Pa_isUnbeaten_25 0 rfl (h.2.2.1 i (by omega)) (by omega) (by first | omega | exact h.2.2.2 a i ha (by omega) | exact h.2.2.2 i a (by omega) ha) rfl ?_
        refine bj_icmp_geN (tgt := 31) d_Pa_isUnbeaten_26 (by decide) (by first | omega | exact h.2.2.2 a i ha (by omega) | exact h.2.2.2 i a (by omega) ha) (by first | omega | exact h.2.2.2 a i ha (by omega) | exact h.2.2.2 i a (by omega) ha) (fun h26 => ?_) (fun h26 => ?_)
        · refine bj_iinc (v := (nI (i + 1))) (L' := [some (.ref (ad k)), some (.int (nI a)), some (.int (nI (i + 1)))]) d_Pa_isUnbeaten_31 rfl (bj_inc1 _) (by decide) rfl ?_
          refine bj_goto (tgt := 2) d_Pa_isUnbeaten_34 (by decide) ?_
          exact ih_lp (N - (i + 1)) (by omega) (i + 1) rfl (by omega) (fun b hb => by
            rcases Nat.lt_or_ge b i with q | q
            · exact hu b q
            · rw [show b = i by omega]; exact h26)
        · refine bj_iconst (v := (nI 0)) d_Pa_isUnbeaten_29 (by decide) ?_
          exact bj_iret d_Pa_isUnbeaten_30 rfl rfl (Nat.le_refl _) (Nat.le_refl _) ⟨bt_f (decide_eq_false (fun q => by have := q i (by omega); omega)), rfl⟩
  exact lp 0 (Nat.zero_le _) (fun b hb => absurd hb (Nat.not_lt_zero _))
set_option maxRecDepth 100000 in
set_option maxHeartbeats 4000000 in
/-- unbeaten -/
theorem t_Pa_unbeaten {k N : Nat} {f : Nat → Nat → Nat} (h : pa_ok c ad M k N f) (hN : N ≤ 8) : bj_T (bw_G l D c) Y_Pa_unbeaten 1 (0, 0, 0, 0) ad (bj_fn (bm (ubn f N) N) M) [.ref (ad k)] M := by
  show bj_S _ _ _ _ _ _ 0 0 0 [some (.ref (ad k)), none, none] [] M
  refine bj_iconst (v := (nI 0)) d_Pa_unbeaten_0 (by decide) ?_
  refine bj_istore_n (L' := [some (.ref (ad k)), some (.int (nI 0)), none]) d_Pa_unbeaten_1 rfl (by decide) rfl ?_
  refine bj_iconst (v := (nI 0)) d_Pa_unbeaten_2 (by decide) ?_
  refine bj_istore_n (L' := [some (.ref (ad k)), some (.int (nI 0)), some (.int (nI 0))]) d_Pa_unbeaten_3 rfl (by decide) rfl ?_
  have lp : ∀ (i : Nat), (i ≤ N) → bj_S (bw_G l D c) Y_Pa_unbeaten 1 (0, 0, 0, 0) ad (bj_fn (bm (ubn f N) N) M) 0 0 4 [some (.ref (ad k)), some (.int (bm (ubn f N) i)), some (.int (nI i))] [] M := by
    intro i
    induction hd_lp : N - i using Nat.strongRecOn generalizing i with
    | ind d_lp ih_lp =>
      intro hi
      refine bj_iload_n d_Pa_unbeaten_4 rfl rfl ?_
      refine bj_aload_n d_Pa_unbeaten_5 rfl rfl ?_
      refine bj_get d_Pa_unbeaten_6 in_Pa rfl (by decide : 0 < 3) wf_Pa_9 rfl h.1 rfl ?_
      refine bj_icmp_geN (tgt := 32) d_Pa_unbeaten_9 (by decide) (by omega) (by omega) (fun h9 => ?_) (fun h9 => ?_)
      · refine bj_iload_n d_Pa_unbeaten_32 rfl rfl ?_
        exact bj_iret d_Pa_unbeaten_33 rfl rfl (Nat.le_refl _) (Nat.le_refl _) ⟨by rw [show bm (ubn f N) i = bm (ubn f N) N by rw [show i = N by omega]], rfl⟩
      · refine bj_aload_n d_Pa_unbeaten_12 rfl rfl ?_
        refine bj_iload_n d_Pa_unbeaten_13 rfl rfl ?_
        refine bj_cvF sv_Pa_42 d_Pa_unbeaten_14 (t_Pa_isUnbeaten l D c ad M h hN (by omega)) rfl rfl (by decide) (by decide) (by decide) (Nat.le_of_ble_eq_true rfl) rfl h.1 rfl rfl ?_
        refine bj_if_eq (tgt := 26) d_Pa_unbeaten_17 (by decide) (fun h17 => ?_) (fun h17 => ?_)
        · have e := bt_n0.mp h17
          refine bj_iinc (v := (nI (i + 1))) (L' := [some (.ref (ad k)), some (.int (bm (ubn f N) i)), some (.int (nI (i + 1)))]) d_Pa_unbeaten_26 rfl (bj_inc1 _) (by decide) rfl ?_
          refine bj_goto (tgt := 4) d_Pa_unbeaten_29 (by decide) ?_
          rw [← bm_n e]
          exact ih_lp (N - (i + 1)) (by omega) (i + 1) rfl (by omega)
        · have e := bt_nn h17
          refine bj_iload_n d_Pa_unbeaten_20 rfl rfl ?_
          refine bj_iconst (v := (nI 1)) d_Pa_unbeaten_21 (by decide) ?_
          refine bj_iload_n d_Pa_unbeaten_22 rfl rfl ?_
          refine bj_ishl (v := ((nI 1) <<< ((nI i) &&& 31))) d_Pa_unbeaten_23 rfl ?_
          refine bj_ior (v := (bm (ubn f N) (i + 1))) d_Pa_unbeaten_24 (bm_s e) ?_
          refine bj_istore_n (L' := [some (.ref (ad k)), some (.int (bm (ubn f N) (i + 1))), some (.int (nI i))]) d_Pa_unbeaten_25 rfl (by decide) rfl ?_
          refine bj_iinc (v := (nI (i + 1))) (L' := [some (.ref (ad k)), some (.int (bm (ubn f N) (i + 1))), some (.int (nI (i + 1)))]) d_Pa_unbeaten_26 rfl (bj_inc1 _) (by decide) rfl ?_
          refine bj_goto (tgt := 4) d_Pa_unbeaten_29 (by decide) ?_
          exact ih_lp (N - (i + 1)) (by omega) (i + 1) rfl (by omega)
  exact lp 0 (Nat.zero_le _)
/-- the first stage as far as row a0, place b0 -/
def we_mid (p f : Nat → Nat → Nat) (a0 b0 a b : Nat) : Nat := if a < a0 ∨ (a = a0 ∧ b < b0) then drn p a b else f a b
/-- a stage as far as row a0 -/
def we_st (F : Nat → Nat → Nat) (o a0 a b : Nat) : Nat := if a < a0 then mg_fw F o a b else F a b
theorem we_step {F : Nat → Nat → Nat} {o a0 a b : Nat} : va_up (we_st F o a0) a0 (mg_fw (we_st F o a0) o a0) a b = we_st F o (a0 + 1) a b := by
  have h1 : ∀ b, we_st F o a0 a0 b = F a0 b := fun b => if_neg (Nat.lt_irrefl _)
  have h2 : ∀ b, we_st F o a0 o b = F o b := fun b => by
    unfold we_st mg_fw
    split <;> omega
  by_cases e : a = a0
  · subst e
    rw [va_up_self]
    unfold mg_fw
    rw [h1, h1, h2]
    show _ = if a < a + 1 then mg_fw F o a b else F a b
    rw [if_pos (by omega)]
    rfl
  · rw [va_up_ne _ _ e]
    unfold we_st
    by_cases e2 : a < a0
    · rw [if_pos e2, if_pos (by omega)]
    · rw [if_neg e2, if_neg (by omega)]
set_option maxRecDepth 100000 in
set_option maxHeartbeats 4000000 in
/-- weigh: the strongest ways -/
theorem t_Pa_weigh {k N k2 : Nat} {vs : Int32} {P : Nat → Nat → Int32} {p f : Nat → Nat → Nat} (h : pa_ok c ad M k N f) (hN : N ≤ 8) (h2 : co_ok c ad M k2 N vs P) (hP : ∀ a b, a < N → b < N → P a b = nI (p a b)) (hp : ∀ a b, a < N → b < N → p a b < 2 ^ 31) (hk : k2 + 10 ≤ k) : bj_T (bw_G l D c) Y_Pa_weigh 2 (0, 0, 0, 0) ad (q_weigh c ad M k N p) [.ref (ad k), .ref (ad k2)] M := by
  show bj_S _ _ _ _ _ _ 0 0 0 [some (.ref (ad k)), some (.ref (ad k2)), none, none] [] M
  refine bj_iconst (v := (nI 0)) d_Pa_weigh_0 (by decide) ?_
  refine bj_istore_n (L' := [some (.ref (ad k)), some (.ref (ad k2)), some (.int (nI 0)), none]) d_Pa_weigh_1 rfl (by decide) rfl ?_
  have o1 : ∀ (a0 : Nat), ∀ (M2 : bj_M), ∀ (z : Option Value), (a0 ≤ N) → (pa_ok c ad M2 k N (we_mid p f a0 0)) → (pa_fr k N M M2) → bj_S (bw_G l D c) Y_Pa_weigh 2 (0, 0, 0, 0) ad (q_weigh c ad M k N p) 0 0 2 [some (.ref (ad k)), some (.ref (ad k2)), some (.int (nI a0)), z] [] M2 := by
    intro a0 M2 z
    induction hd_o1 : N - a0 using Nat.strongRecOn generalizing a0 M2 z with
    | ind d_o1 ih_o1 =>
      intro ha0 ha hf
      refine bj_iload_n d_Pa_weigh_2 rfl rfl ?_
      refine bj_aload_n d_Pa_weigh_3 rfl rfl ?_
      refine bj_get d_Pa_weigh_4 in_Pa rfl (by decide : 0 < 3) wf_Pa_9 rfl ha.1 rfl ?_
      refine bj_icmp_geN (tgt := 46) d_Pa_weigh_7 (by decide) (by omega) (by omega) (fun h7 => ?_) (fun h7 => ?_)
      · refine bj_iconst (v := (nI 0)) d_Pa_weigh_46 (by decide) ?_
        refine bj_istore_n (L' := [some (.ref (ad k)), some (.ref (ad k2)), some (.int (nI 0)), z]) d_Pa_weigh_47 rfl (by decide) rfl ?_
        have o2 : ∀ (o : Nat), ∀ (M4 : bj_M), ∀ (z2 : Option Value), (o ≤ N) → (pa_ok c ad M4 k N (mg_fws (drn p) o)) → (pa_fr k N M M4) → bj_S (bw_G l D c) Y_Pa_weigh 2 (0, 0, 0, 0) ad (q_weigh c ad M k N p) 0 0 48 [some (.ref (ad k)), some (.ref (ad k2)), some (.int (nI o)), z2] [] M4 := by
          intro o M4 z2
          induction hd_o2 : N - o using Nat.strongRecOn generalizing o M4 z2 with
          | ind d_o2 ih_o2 =>
            intro ho h4 hf4
            refine bj_iload_n d_Pa_weigh_48 rfl rfl ?_
            refine bj_aload_n d_Pa_weigh_49 rfl rfl ?_
            refine bj_get d_Pa_weigh_50 in_Pa rfl (by decide : 0 < 3) wf_Pa_9 rfl h4.1 rfl ?_
            refine bj_icmp_geN (tgt := 84) d_Pa_weigh_53 (by decide) (by omega) (by omega) (fun h53 => ?_) (fun h53 => ?_)
            · exact bj_vret d_Pa_weigh_84 rfl (Nat.le_refl _) (Nat.le_refl _) ⟨rfl, by rw [show o = N by omega] at h4; exact h4, hf4⟩
            · refine bj_iconst (v := (nI 0)) d_Pa_weigh_56 (by decide) ?_
              refine bj_istore_n (L' := [some (.ref (ad k)), some (.ref (ad k2)), some (.int (nI o)), some (.int (nI 0))]) d_Pa_weigh_57 rfl (by decide) rfl ?_
              have in2 : ∀ (a0 : Nat), ∀ (M5 : bj_M), (a0 ≤ N) → (pa_ok c ad M5 k N (we_st (mg_fws (drn p) o) o a0)) → (pa_fr k N M M5) → bj_S (bw_G l D c) Y_Pa_weigh 2 (0, 0, 0, 0) ad (q_weigh c ad M k N p) 0 0 58 [some (.ref (ad k)), some (.ref (ad k2)), some (.int (nI o)), some (.int (nI a0))] [] M5 := by
                intro a0 M5
                induction hd_in2 : N - a0 using Nat.strongRecOn generalizing a0 M5 with
                | ind d_in2 ih_in2 =>
                  intro ha5 hb5 hf5
                  refine bj_iload_n d_Pa_weigh_58 rfl rfl ?_
                  refine bj_aload_n d_Pa_weigh_59 rfl rfl ?_
                  refine bj_get d_Pa_weigh_60 in_Pa rfl (by decide : 0 < 3) wf_Pa_9 rfl hb5.1 rfl ?_
                  refine bj_icmp_geN (tgt := 78) d_Pa_weigh_63 (by decide) (by omega) (by omega) (fun h63 => ?_) (fun h63 => ?_)
                  · refine bj_iinc (v := (nI (o + 1))) (L' := [some (.ref (ad k)), some (.ref (ad k2)), some (.int (nI (o + 1))), some (.int (nI a0))]) d_Pa_weigh_78 rfl (bj_inc1 _) (by decide) rfl ?_
                    refine bj_goto (tgt := 48) d_Pa_weigh_81 (by decide) ?_
                    exact ih_o2 (N - (o + 1)) (by omega) (o + 1) M5 _ rfl (by omega) (hb5.to (fun i b hi hb => if_pos (by omega))) hf5
                  · refine bj_aload_n d_Pa_weigh_66 rfl rfl ?_
                    refine bj_iload_n d_Pa_weigh_67 rfl rfl ?_
                    refine bj_iload_n d_Pa_weigh_68 rfl rfl ?_
                    refine bj_cvR sv_Pa_30 d_Pa_weigh_69 (t_Pa_widen l D c ad M5 hb5 hN (by omega) (by omega)) rfl rfl (by decide) (by decide) (by decide) (Nat.le_of_ble_eq_true rfl) rfl hb5.1 rfl rfl (fun v1 N1 hq1 => ?_)
                    obtain ⟨rfl, hc1, hg1⟩ := hq1
                    show bj_S (bw_G l D c) Y_Pa_weigh 2 (0, 0, 0, 0) ad (q_weigh c ad M k N p) 0 0 72 [some (.ref (ad k)), some (.ref (ad k2)), some (.int (nI o)), some (.int (nI a0))] [] N1
                    refine bj_iinc (v := (nI (a0 + 1))) (L' := [some (.ref (ad k)), some (.ref (ad k2)), some (.int (nI o)), some (.int (nI (a0 + 1)))]) d_Pa_weigh_72 rfl (bj_inc1 _) (by decide) rfl ?_
                    refine bj_goto (tgt := 58) d_Pa_weigh_75 (by decide) ?_
                    exact ih_in2 (N - (a0 + 1)) (by omega) (a0 + 1) N1 rfl (by omega) (hc1.to (fun i b hi hb => we_step)) (hf5.tr hg1)
              exact in2 0 M4 (Nat.zero_le _) (h4.to (fun i b hi hb => (if_neg (Nat.not_lt_zero _)).symm)) hf4
        exact o2 0 M2 z (Nat.zero_le _) (ha.to (fun i b hi hb => if_pos (by omega))) hf
      · refine bj_iconst (v := (nI 0)) d_Pa_weigh_10 (by decide) ?_
        refine bj_istore_n (L' := [some (.ref (ad k)), some (.ref (ad k2)), some (.int (nI a0)), some (.int (nI 0))]) d_Pa_weigh_11 rfl (by decide) rfl ?_
        have in1 : ∀ (b0 : Nat), ∀ (M3 : bj_M), (b0 ≤ N) → (pa_ok c ad M3 k N (we_mid p f a0 b0)) → (pa_fr k N M M3) → bj_S (bw_G l D c) Y_Pa_weigh 2 (0, 0, 0, 0) ad (q_weigh c ad M k N p) 0 0 12 [some (.ref (ad k)), some (.ref (ad k2)), some (.int (nI a0)), some (.int (nI b0))] [] M3 := by
          intro b0 M3
          induction hd_in1 : N - b0 using Nat.strongRecOn generalizing b0 M3 with
          | ind d_in1 ih_in1 =>
            intro hb0 hb hf3
            have h3 : co_ok c ad M3 k2 N vs P := h2.in (fun q q1 q2 => hf3 q (by omega))
            refine bj_iload_n d_Pa_weigh_12 rfl rfl ?_
            refine bj_aload_n d_Pa_weigh_13 rfl rfl ?_
            refine bj_get d_Pa_weigh_14 in_Pa rfl (by decide : 0 < 3) wf_Pa_9 rfl hb.1 rfl ?_
            refine bj_icmp_geN (tgt := 40) d_Pa_weigh_17 (by decide) (by omega) (by omega) (fun h17 => ?_) (fun h17 => ?_)
            · refine bj_iinc (v := (nI (a0 + 1))) (L' := [some (.ref (ad k)), some (.ref (ad k2)), some (.int (nI (a0 + 1))), some (.int (nI b0))]) d_Pa_weigh_40 rfl (bj_inc1 _) (by decide) rfl ?_
              refine bj_goto (tgt := 2) d_Pa_weigh_43 (by decide) ?_
              exact ih_o1 (N - (a0 + 1)) (by omega) (a0 + 1) M3 _ rfl (by omega) (hb.to (fun i b hi hb9 => by
                unfold we_mid
                by_cases e : i < a0 ∨ (i = a0 ∧ b < b0)
                · rw [if_pos e, if_pos (by omega)]
                · rw [if_neg e, if_neg (by omega)])) hf3
            · refine bj_aload_n d_Pa_weigh_20 rfl rfl ?_
              refine bj_get d_Pa_weigh_21 in_Pa rfl (by decide : 1 < 3) wf_Pa_17 rfl hb.1 rfl ?_
              refine bj_iload_n d_Pa_weigh_24 rfl rfl ?_
              refine bv_aald d_Pa_weigh_25 4 rfl rfl hb.2.1 (by omega) (by omega) ?_
              refine bj_iload_n d_Pa_weigh_26 rfl rfl ?_
              refine bj_aload_n d_Pa_weigh_27 rfl rfl ?_
              refine bj_iload_n d_Pa_weigh_28 rfl rfl ?_
              refine bj_iload_n d_Pa_weigh_29 rfl rfl ?_
              refine bj_cvF sv_Pa_24 d_Pa_weigh_30 (t_Co_direct l D c ad M3 h3 hN (by omega) (by omega)) rfl rfl (by decide) (by decide) (by decide) (Nat.le_of_ble_eq_true rfl) rfl h3.1 rfl rfl ?_
              rw [dir_nI hP hp (by omega) (by omega)]
              refine bv_iast d_Pa_weigh_33 0 rfl (hb.2.2.1 a0 (by omega)) (by omega) (by omega) (fun N1 hN1 hO1 => ?_)
              have hN2 := bv_I.upn hN1
              refine bj_iinc (v := (nI (b0 + 1))) (L' := [some (.ref (ad k)), some (.ref (ad k2)), some (.int (nI a0)), some (.int (nI (b0 + 1)))]) d_Pa_weigh_34 rfl (bj_inc1 _) (by decide) rfl ?_
              refine bj_goto (tgt := 12) d_Pa_weigh_37 (by decide) ?_
              exact ih_in1 (N - (b0 + 1)) (by omega) (b0 + 1) N1 rfl (by omega) ((hb.row (by omega) hN2 (fun b hb9 => by
                have q := hb.2.2.2 a0 b (by omega) hb9
                unfold va_up
                split
                · exact drn_lt hp (by omega) (by omega)
                · exact q) hO1).to (fun i b hi hb9 => by
                unfold we_mid
                by_cases e : i = a0
                · subst e
                  rw [va_up_self]
                  by_cases e2 : b = b0
                  · subst e2
                    rw [va_up_self, if_pos (by omega)]
                  · rw [va_up_ne _ _ e2]
                    by_cases e3 : b < b0
                    · rw [if_pos (by omega), if_pos (by omega)]
                    · rw [if_neg (by omega), if_neg (by omega)]
                · rw [va_up_ne _ _ e]
                  by_cases e2 : i < a0
                  · rw [if_pos (by omega), if_pos (by omega)]
                  · rw [if_neg (by omega), if_neg (by omega)])) (hf3.at (by omega) hO1)
        exact in1 0 M2 (Nat.zero_le _) ha hf
  exact o1 0 M none (Nat.zero_le _) (h.to (fun i b hi hb => (if_neg (by omega)).symm)) pa_fr.rf
end P1
