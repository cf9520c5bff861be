/-! the reference: add, count, lesser, strengthen (walks by gen/m_mo3.py) -/
section M3

def ma_md (w v : Int32) (pf : Nat → Int32) (N a0 b0 j : Nat) : Int32 := if j / 8 < N ∧ j % 8 < N ∧ (j / 8 < a0 ∨ (j / 8 = a0 ∧ j % 8 < b0)) then pf j + mav w v (j / 8) (j % 8) else pf j
theorem ma_s {w v : Int32} {pf : Nat → Int32} {N a0 b0 : Nat} (ha : a0 < N) (hb : b0 < N) (hN : N ≤ 8) (j : Nat) : va_up (ma_md w v pf N a0 b0) (8 * a0 + b0) (pf (8 * a0 + b0) + mav w v a0 b0) j = ma_md w v pf N a0 (b0 + 1) j := by
  by_cases e : j = 8 * a0 + b0
  · subst e
    rw [va_up_self]
    unfold ma_md
    rw [show (8 * a0 + b0) / 8 = a0 by omega, show (8 * a0 + b0) % 8 = b0 by omega, if_pos (by omega)]
  · rw [va_up_ne _ _ e]
    unfold ma_md
    by_cases e2 : j / 8 < N ∧ j % 8 < N ∧ (j / 8 < a0 ∨ (j / 8 = a0 ∧ j % 8 < b0))
    · rw [if_pos e2, if_pos (by omega)]
    · rw [if_neg e2, if_neg (by omega)]
theorem ma_at {w v : Int32} {pf : Nat → Int32} {N a0 b0 : Nat} (hb : b0 < 8) : ma_md w v pf N a0 b0 (8 * a0 + b0) = pf (8 * a0 + b0) := if_neg (by omega)
theorem ma_n {w v : Int32} {pf : Nat → Int32} {N a0 b0 j : Nat} (hb : N ≤ b0) : ma_md w v pf N a0 b0 j = ma_md w v pf N (a0 + 1) 0 j := by
  unfold ma_md
  by_cases e2 : j / 8 < N ∧ j % 8 < N ∧ (j / 8 < a0 ∨ (j / 8 = a0 ∧ j % 8 < b0))
  · rw [if_pos e2, if_pos (by omega)]
  · rw [if_neg e2, if_neg (by omega)]
theorem ma_e {w v : Int32} {pf : Nat → Int32} {N j : Nat} : ma_md w v pf N N 0 j = if j / 8 < N ∧ j % 8 < N then pf j + mav w v (j / 8) (j % 8) else pf j := by
  unfold ma_md
  by_cases e2 : j / 8 < N ∧ j % 8 < N
  · rw [if_pos e2, if_pos (by omega)]
  · rw [if_neg e2, if_neg (by omega)]
theorem bef_t {w : Int32} {a b : Nat} (h1 : 0 < nb w a) (h2 : nb w b = 0 ∨ nb w a < nb w b) : bef w a b = true := by
  unfold bef
  rcases h2 with h2 | h2
  · simp [h2]; omega
  · simp [h2]; omega
theorem bef_f1 {w : Int32} {a b : Nat} (h1 : nb w a = 0) : bef w a b = false := by
  unfold bef
  simp [h1]
theorem bef_f2 {w : Int32} {a b : Nat} (h2 : nb w b ≠ 0) (h3 : nb w b ≤ nb w a) : bef w a b = false := by
  unfold bef
  simp [h2]
  omega
theorem add_t {w v x : Int32} {a b : Nat} (h : bef w a b = true) : x + v = x + mav w v a b := by unfold mav; rw [if_pos h]
theorem add_f {w v x : Int32} {a b : Nat} (h : bef w a b = false) : x + nI 0 = x + mav w v a b := by unfold mav; rw [if_neg (by rw [h]; decide), nI_0]
def q_madd (c : Nat → ClassId) (M : bj_M) (N : Nat) (w v : Int32) (pf : Nat → Int32) : bj_R → bj_M → Prop := bj_ret (fun r M' => r = none ∧ bv_I (c 0) M' 86 64 (fun j => if j / 8 < N ∧ j % 8 < N then pf j + mav w v (j / 8) (j % 8) else pf j) ∧ ∀ q, q ≠ 86 → M' q = M q)
/-- counted: who prefers whom, the direct strengths -/
def cn_ok (c : Nat → ClassId) (M : bj_M) (N : Nat) (p : Nat → Nat → Nat) : Prop := bv_I (c 0) M 86 64 (fun j => nI (pz N p (j / 8) (j % 8))) ∧ bv_I (c 0) M 87 64 (fun j => nI (drn (pz N p) (j / 8) (j % 8)))
def q_count (c : Nat → ClassId) (M : bj_M) (N : Nat) (p : Nat → Nat → Nat) : bj_R → bj_M → Prop := bj_ret (fun r M' => r = none ∧ cn_ok c M' N p ∧ ∀ q, q ≠ 86 → q ≠ 87 → M' q = M q)
def q_stren (c : Nat → ClassId) (M : bj_M) (d : Nat → Nat) (B : Nat) : bj_R → bj_M → Prop := bj_ret (fun r M' => r = none ∧ (∃ e, bv_I (c 0) M' 88 64 (fun j => nI (e j)) ∧ fl_ok d e B ∧ ∀ k, k < 512 → fl_c1 d e k) ∧ ∀ q, q ≠ 88 → M' q = M q)
theorem cn_in {sg sz : Nat → Nat} {rk : Nat → Nat → Int32} {tm : Nat → Nat → Nat} {but b i a x : Nat} (h : sg b = 1 ∧ b ≠ but) : (fun a x => (fun a x => ppart sg sz rk tm but b a x + bsum i (rk b) (tm b) a x) a x + (if bef (rk b i) a x = true then tm b i else 0)) a x = ppart sg sz rk tm but b a x + bsum (i + 1) (rk b) (tm b) a x := by
  exact Nat.add_assoc _ _ _
theorem pp_s {sg sz : Nat → Nat} {rk : Nat → Nat → Int32} {tm : Nat → Nat → Nat} {but b a x : Nat} (h : sg b = 1 ∧ b ≠ but) : ppart sg sz rk tm but b a x + bsum (sz b) (rk b) (tm b) a x = ppart sg sz rk tm but (b + 1) a x := by
  unfold ppart
  rw [sm, if_pos h]
theorem pp_n {sg sz : Nat → Nat} {rk : Nat → Nat → Int32} {tm : Nat → Nat → Nat} {but b a x : Nat} (h : ¬ (sg b = 1 ∧ b ≠ but)) : ppart sg sz rk tm but b a x = ppart sg sz rk tm but (b + 1) a x := by
  unfold ppart
  rw [sm, if_neg h]
  rfl
theorem pp_e {sg sz : Nat → Nat} {rk : Nat → Nat → Int32} {tm : Nat → Nat → Nat} {but op a x : Nat} (ho : op ≤ 12) (hun : ∀ b, op ≤ b → b < 12 → sg b = 0 ∧ sz b = 0) : ppart sg sz rk tm but op a x = psum sg sz rk tm but a x := sm_ext 12 ho (fun i h1 h2 => if_neg (fun q => by rw [(hun i h1 h2).1] at q; exact absurd q.1 (by decide)))
theorem pz_to {N a b : Nat} {f g : Nat → Nat → Nat} (h : ∀ a x, f a x = g a x) : pz N f a b = pz N g a b := by
  unfold pz
  rw [h a b]
variable (l : Launch) (D : va_G) (c : Nat → ClassId) (ad : Nat → Nat) (M : bj_M)
set_option maxRecDepth 100000 in
set_option maxHeartbeats 4000000 in
/-- add -/
theorem t_Mo_add {N op : Nat} {cd li : Int32} {se : Bool} {dw sg sz : Nat → Nat} {rk : Nat → Nat → Int32} {tm : Nat → Nat → Nat} (hm0 : mo_ok c ad M N cd se op li dw sg sz rk tm) (hN : N ≤ 8) {w v : Int32} {pf : Nat → Int32} (hpf : bv_I (c 0) M 86 64 pf) : bj_T (bw_G l D c) Y_Mo_add 1 (0, 0, 0, 0) ad (q_madd c M N w v pf) [.ref (ad 80), .int w, .int v] M := by
  show bj_S _ _ _ _ _ _ 0 0 0 [some (.ref (ad 80)), some (.int w), some (.int v), none, none, none, none, none] [] M
  refine bj_iconst (v := (nI 0)) d_Mo_add_0 (by decide) ?_
  refine bj_istore_n (L' := [some (.ref (ad 80)), some (.int w), some (.int v), some (.int (nI 0)), none, none, none, none]) d_Mo_add_1 rfl (by decide) rfl ?_
  have l1 : ∀ (a0 : Nat), ∀ (M2 : bj_M), ∀ (z4 : Option Value), ∀ (z5 : Option Value), ∀ (z6 : Option Value), ∀ (z7 : Option Value), (a0 ≤ N) → (bv_I (c 0) M2 86 64 (ma_md w v pf N a0 0)) → (∀ q, q ≠ 86 → M2 q = M q) → bj_S (bw_G l D c) Y_Mo_add 1 (0, 0, 0, 0) ad (q_madd c M N w v pf) 0 0 2 [some (.ref (ad 80)), some (.int w), some (.int v), some (.int (nI a0)), z4, z5, z6, z7] [] M2 := by
    intro a0 M2 z4 z5 z6 z7
    induction hd_l1 : N - a0 using Nat.strongRecOn generalizing a0 M2 z4 z5 z6 z7 with
    | ind d_l1 ih_l1 =>
      intro ha0 h2 ho2
      have hO2 := (ho2 80 (by decide)).trans hm0.1
      refine bj_iload_n d_Mo_add_2 rfl rfl ?_
      refine bj_aload_n d_Mo_add_3 rfl rfl ?_
      refine bj_get d_Mo_add_4 in_Mo rfl (by decide : 0 < 17) wf_Mo_47 rfl hO2 rfl ?_
      refine bj_icmp_geN (tgt := 98) d_Mo_add_7 (by decide) (by first | omega | exact Nat.lt_trans (nb_lt w a0) (by decide) | exact Nat.lt_trans (nb_lt w b0) (by decide)) (by first | omega | exact Nat.lt_trans (nb_lt w a0) (by decide) | exact Nat.lt_trans (nb_lt w b0) (by decide)) (fun h7 => ?_) (fun h7 => ?_)
      · exact bj_vret d_Mo_add_98 rfl (Nat.le_refl _) (Nat.le_refl _) ⟨rfl, h2.to (fun j _ => by rw [show a0 = N by omega]; exact ma_e), ho2⟩
      · refine bj_iconst (v := (nI 0)) d_Mo_add_10 (by decide) ?_
        refine bj_istore (L' := [some (.ref (ad 80)), some (.int w), some (.int v), some (.int (nI a0)), some (.int (nI 0)), z5, z6, z7]) d_Mo_add_11 (by decide) rfl ?_
        have l2 : ∀ (b0 : Nat), ∀ (M3 : bj_M), ∀ (z5 : Option Value), ∀ (z6 : Option Value), ∀ (z7 : Option Value), (b0 ≤ N) → (bv_I (c 0) M3 86 64 (ma_md w v pf N a0 b0)) → (∀ q, q ≠ 86 → M3 q = M q) → bj_S (bw_G l D c) Y_Mo_add 1 (0, 0, 0, 0) ad (q_madd c M N w v pf) 0 0 13 [some (.ref (ad 80)), some (.int w), some (.int v), some (.int (nI a0)), some (.int (nI b0)), z5, z6, z7] [] M3 := by
          intro b0 M3 z5 z6 z7
          induction hd_l2 : N - b0 using Nat.strongRecOn generalizing b0 M3 z5 z6 z7 with
          | ind d_l2 ih_l2 =>
            intro hb0 h3 ho3
            have hO3 := (ho3 80 (by decide)).trans hm0.1
            refine bj_iload d_Mo_add_13 rfl ?_
            refine bj_aload_n d_Mo_add_15 rfl rfl ?_
            refine bj_get d_Mo_add_16 in_Mo rfl (by decide : 0 < 17) wf_Mo_47 rfl hO3 rfl ?_
            refine bj_icmp_geN (tgt := 92) d_Mo_add_19 (by decide) (by first | omega | exact Nat.lt_trans (nb_lt w a0) (by decide) | exact Nat.lt_trans (nb_lt w b0) (by decide)) (by first | omega | exact Nat.lt_trans (nb_lt w a0) (by decide) | exact Nat.lt_trans (nb_lt w b0) (by decide)) (fun h19 => ?_) (fun h19 => ?_)
            · refine bj_iinc (v := (nI (a0 + 1))) (L' := [some (.ref (ad 80)), some (.int w), some (.int v), some (.int (nI (a0 + 1))), some (.int (nI b0)), z5, z6, z7]) d_Mo_add_92 rfl (bj_inc1 _) (by decide) rfl ?_
              refine bj_goto (tgt := 2) d_Mo_add_95 (by decide) ?_
              exact ih_l1 (N - (a0 + 1)) (by omega) (a0 + 1) M3 _ _ _ _ rfl (by omega) (h3.to (fun j _ => ma_n (by omega))) ho3
            · refine bj_iload_n d_Mo_add_22 rfl rfl ?_
              refine bj_iload_n d_Mo_add_23 rfl rfl ?_
              refine bj_csF ss_Mo_69 d_Mo_add_24 (t_Mo_place l D c ad M3 (by omega)) rfl rfl (by decide) (by decide) (by decide) (Nat.le_of_ble_eq_true rfl) rfl ?_
              refine bj_istore (L' := [some (.ref (ad 80)), some (.int w), some (.int v), some (.int (nI a0)), some (.int (nI b0)), some (.int (nI (nb w a0))), z6, z7]) d_Mo_add_27 (by decide) rfl ?_
              refine bj_iload_n d_Mo_add_29 rfl rfl ?_
              refine bj_iload d_Mo_add_30 rfl ?_
              refine bj_csF ss_Mo_69 d_Mo_add_32 (t_Mo_place l D c ad M3 (by omega)) rfl rfl (by decide) (by decide) (by decide) (Nat.le_of_ble_eq_true rfl) rfl ?_
              refine bj_istore (L' := [some (.ref (ad 80)), some (.int w), some (.int v), some (.int (nI a0)), some (.int (nI b0)), some (.int (nI (nb w a0))), some (.int (nI (nb w b0))), z7]) d_Mo_add_35 (by decide) rfl ?_
              refine bj_iload d_Mo_add_37 rfl ?_
              refine bj_if_leN (tgt := 58) d_Mo_add_39 (by decide) (by first | omega | exact Nat.lt_trans (nb_lt w a0) (by decide) | exact Nat.lt_trans (nb_lt w b0) (by decide)) (fun h39 => ?_) (fun h39 => ?_)
              · have hz : bef w a0 b0 = false := bef_f1 h39
                refine bj_iconst (v := (nI 0)) d_Mo_add_58 (by decide) ?_
                refine bj_istore (L' := [some (.ref (ad 80)), some (.int w), some (.int v), some (.int (nI a0)), some (.int (nI b0)), some (.int (nI (nb w a0))), some (.int (nI (nb w b0))), some (.int (nI 0))]) d_Mo_add_59 (by decide) rfl ?_
                refine bj_aload_n d_Mo_add_61 rfl rfl ?_
                refine bj_get d_Mo_add_62 in_Mo rfl (by decide : 9 < 17) wf_Mo_25 rfl hO3 rfl ?_
                refine bj_bipush (v := (nI 8)) d_Mo_add_65 (by decide) ?_
                refine bj_iload_n d_Mo_add_67 rfl rfl ?_
                refine bj_imul (v := (nI (8 * a0))) d_Mo_add_68 (pk_mul _ _) ?_
                refine bj_iload d_Mo_add_69 rfl ?_
                refine bj_iadd (v := (nI ((8 * a0) + b0))) d_Mo_add_71 (nI_add _ _) ?_
                refine bj_dup2 d_Mo_add_72 rfl rfl ?_
                refine bv_iald (v := (pf (8 * a0 + b0))) d_Mo_add_73 0 rfl h3 (by omega) (by first | omega | exact Nat.lt_trans (nb_lt w a0) (by decide) | exact Nat.lt_trans (nb_lt w b0) (by decide)) (ma_at (by omega)) ?_
                refine bj_iload d_Mo_add_74 rfl ?_
                refine bj_if_eqN (tgt := 83) d_Mo_add_76 (by decide) (by decide) (fun _ => ?_) (fun h => absurd h (by decide))
                refine bj_iconst (v := (nI 0)) d_Mo_add_83 (by decide) ?_
                refine bj_iadd (v := (pf (8 * a0 + b0) + mav w v a0 b0)) d_Mo_add_84 (add_f hz) ?_
                refine bv_iast d_Mo_add_85 0 rfl h3 (by omega) (by first | omega | exact Nat.lt_trans (nb_lt w a0) (by decide) | exact Nat.lt_trans (nb_lt w b0) (by decide)) (fun N1 hN1 hO1 => ?_)
                refine bj_iinc (v := (nI (b0 + 1))) (L' := [some (.ref (ad 80)), some (.int w), some (.int v), some (.int (nI a0)), some (.int (nI (b0 + 1))), some (.int (nI (nb w a0))), some (.int (nI (nb w b0))), some (.int (nI 0))]) d_Mo_add_86 rfl (bj_inc1 _) (by decide) rfl ?_
                refine bj_goto (tgt := 13) d_Mo_add_89 (by decide) ?_
                exact ih_l2 (N - (b0 + 1)) (by omega) (b0 + 1) N1 _ _ _ rfl (by omega) (hN1.to (fun j _ => ma_s h7 h19 hN j)) (fun q hq => (hO1 q hq).trans (ho3 q hq))
              · refine bj_iload d_Mo_add_42 rfl ?_
                refine bj_if_eqN (tgt := 54) d_Mo_add_44 (by decide) (by first | omega | exact Nat.lt_trans (nb_lt w a0) (by decide) | exact Nat.lt_trans (nb_lt w b0) (by decide)) (fun h44 => ?_) (fun h44 => ?_)
                · have hz : bef w a0 b0 = true := bef_t h39 (Or.inl h44)
                  refine bj_iconst (v := (nI 1)) d_Mo_add_54 (by decide) ?_
                  refine bj_goto (tgt := 59) d_Mo_add_55 (by decide) ?_
                  refine bj_istore (L' := [some (.ref (ad 80)), some (.int w), some (.int v), some (.int (nI a0)), some (.int (nI b0)), some (.int (nI (nb w a0))), some (.int (nI (nb w b0))), some (.int (nI 1))]) d_Mo_add_59 (by decide) rfl ?_
                  refine bj_aload_n d_Mo_add_61 rfl rfl ?_
                  refine bj_get d_Mo_add_62 in_Mo rfl (by decide : 9 < 17) wf_Mo_25 rfl hO3 rfl ?_
                  refine bj_bipush (v := (nI 8)) d_Mo_add_65 (by decide) ?_
                  refine bj_iload_n d_Mo_add_67 rfl rfl ?_
                  refine bj_imul (v := (nI (8 * a0))) d_Mo_add_68 (pk_mul _ _) ?_
                  refine bj_iload d_Mo_add_69 rfl ?_
                  refine bj_iadd (v := (nI ((8 * a0) + b0))) d_Mo_add_71 (nI_add _ _) ?_
                  refine bj_dup2 d_Mo_add_72 rfl rfl ?_
                  refine bv_iald (v := (pf (8 * a0 + b0))) d_Mo_add_73 0 rfl h3 (by omega) (by first | omega | exact Nat.lt_trans (nb_lt w a0) (by decide) | exact Nat.lt_trans (nb_lt w b0) (by decide)) (ma_at (by omega)) ?_
                  refine bj_iload d_Mo_add_74 rfl ?_
                  refine bj_if_eqN (tgt := 83) d_Mo_add_76 (by decide) (by decide) (fun h => absurd h (by decide)) (fun _ => ?_)
                  refine bj_iload_n d_Mo_add_79 rfl rfl ?_
                  refine bj_goto (tgt := 84) d_Mo_add_80 (by decide) ?_
                  refine bj_iadd (v := (pf (8 * a0 + b0) + mav w v a0 b0)) d_Mo_add_84 (add_t hz) ?_
                  refine bv_iast d_Mo_add_85 0 rfl h3 (by omega) (by first | omega | exact Nat.lt_trans (nb_lt w a0) (by decide) | exact Nat.lt_trans (nb_lt w b0) (by decide)) (fun N1 hN1 hO1 => ?_)
                  refine bj_iinc (v := (nI (b0 + 1))) (L' := [some (.ref (ad 80)), some (.int w), some (.int v), some (.int (nI a0)), some (.int (nI (b0 + 1))), some (.int (nI (nb w a0))), some (.int (nI (nb w b0))), some (.int (nI 1))]) d_Mo_add_86 rfl (bj_inc1 _) (by decide) rfl ?_
                  refine bj_goto (tgt := 13) d_Mo_add_89 (by decide) ?_
                  exact ih_l2 (N - (b0 + 1)) (by omega) (b0 + 1) N1 _ _ _ rfl (by omega) (hN1.to (fun j _ => ma_s h7 h19 hN j)) (fun q hq => (hO1 q hq).trans (ho3 q hq))
                · refine bj_iload d_Mo_add_47 rfl ?_
                  refine bj_iload d_Mo_add_49 rfl ?_
                  refine bj_icmp_geN (tgt := 58) d_Mo_add_51 (by decide) (by first | omega | exact Nat.lt_trans (nb_lt w a0) (by decide) | exact Nat.lt_trans (nb_lt w b0) (by decide)) (by first | omega | exact Nat.lt_trans (nb_lt w a0) (by decide) | exact Nat.lt_trans (nb_lt w b0) (by decide)) (fun h51 => ?_) (fun h51 => ?_)
                  · have hz : bef w a0 b0 = false := bef_f2 h44 h51
                    refine bj_iconst (v := (nI 0)) d_Mo_add_58 (by decide) ?_
                    refine bj_istore (L' := [some (.ref (ad 80)), some (.int w), some (.int v), some (.int (nI a0)), some (.int (nI b0)), some (.int (nI (nb w a0))), some (.int (nI (nb w b0))), some (.int (nI 0))]) d_Mo_add_59 (by decide) rfl ?_
                    refine bj_aload_n d_Mo_add_61 rfl rfl ?_
                    refine bj_get d_Mo_add_62 in_Mo rfl (by decide : 9 < 17) wf_Mo_25 rfl hO3 rfl ?_
                    refine bj_bipush (v := (nI 8)) d_Mo_add_65 (by decide) ?_
                    refine bj_iload_n d_Mo_add_67 rfl rfl ?_
                    refine bj_imul (v := (nI (8 * a0))) d_Mo_add_68 (pk_mul _ _) ?_
                    refine bj_iload d_Mo_add_69 rfl ?_
                    refine bj_iadd (v := (nI ((8 * a0) + b0))) d_Mo_add_71 (nI_add _ _) ?_
                    refine bj_dup2 d_Mo_add_72 rfl rfl ?_
                    refine bv_iald (v := (pf (8 * a0 + b0))) d_Mo_add_73 0 rfl h3 (by omega) (by first | omega | exact Nat.lt_trans (nb_lt w a0) (by decide) | exact Nat.lt_trans (nb_lt w b0) (by decide)) (ma_at (by omega)) ?_
                    refine bj_iload d_Mo_add_74 rfl ?_
                    refine bj_if_eqN (tgt := 83) d_Mo_add_76 (by decide) (by decide) (fun _ => ?_) (fun h => absurd h (by decide))
                    refine bj_iconst (v := (nI 0)) d_Mo_add_83 (by decide) ?_
                    refine bj_iadd (v := (pf (8 * a0 + b0) + mav w v a0 b0)) d_Mo_add_84 (add_f hz) ?_
                    refine bv_iast d_Mo_add_85 0 rfl h3 (by omega) (by first | omega | exact Nat.lt_trans (nb_lt w a0) (by decide) | exact Nat.lt_trans (nb_lt w b0) (by decide)) (fun N1 hN1 hO1 => ?_)
                    refine bj_iinc (v := (nI (b0 + 1))) (L' := [some (.ref (ad 80)), some (.int w), some (.int v), some (.int (nI a0)), some (.int (nI (b0 + 1))), some (.int (nI (nb w a0))), some (.int (nI (nb w b0))), some (.int (nI 0))]) d_Mo_add_86 rfl (bj_inc1 _) (by decide) rfl ?_
                    refine bj_goto (tgt := 13) d_Mo_add_89 (by decide) ?_
                    exact ih_l2 (N - (b0 + 1)) (by omega) (b0 + 1) N1 _ _ _ rfl (by omega) (hN1.to (fun j _ => ma_s h7 h19 hN j)) (fun q hq => (hO1 q hq).trans (ho3 q hq))
                  · have hz : bef w a0 b0 = true := bef_t h39 (Or.inr h51)
                    refine bj_iconst (v := (nI 1)) d_Mo_add_54 (by decide) ?_
                    refine bj_goto (tgt := 59) d_Mo_add_55 (by decide) ?_
                    refine bj_istore (L' := [some (.ref (ad 80)), some (.int w), some (.int v), some (.int (nI a0)), some (.int (nI b0)), some (.int (nI (nb w a0))), some (.int (nI (nb w b0))), some (.int (nI 1))]) d_Mo_add_59 (by decide) rfl ?_
                    refine bj_aload_n d_Mo_add_61 rfl rfl ?_
                    refine bj_get d_Mo_add_62 in_Mo rfl (by decide : 9 < 17) wf_Mo_25 rfl hO3 rfl ?_
                    refine bj_bipush (v := (nI 8)) d_Mo_add_65 (by decide) ?_
                    refine bj_iload_n d_Mo_add_67 rfl rfl ?_
                    refine bj_imul (v := (nI (8 * a0))) d_Mo_add_68 (pk_mul _ _) ?_
                    refine bj_iload d_Mo_add_69 rfl ?_
                    refine bj_iadd (v := (nI ((8 * a0) + b0))) d_Mo_add_71 (nI_add _ _) ?_
                    refine bj_dup2 d_Mo_add_72 rfl rfl ?_
                    refine bv_iald (v := (pf (8 * a0 + b0))) d_Mo_add_73 0 rfl h3 (by omega) (by first | omega | exact Nat.lt_trans (nb_lt w a0) (by decide) | exact Nat.lt_trans (nb_lt w b0) (by decide)) (ma_at (by omega)) ?_
                    refine bj_iload d_Mo_add_74 rfl ?_
                    refine bj_if_eqN (tgt := 83) d_Mo_add_76 (by decide) (by decide) (fun h => absurd h (by decide)) (fun _ => ?_)
                    refine bj_iload_n d_Mo_add_79 rfl rfl ?_
                    refine bj_goto (tgt := 84) d_Mo_add_80 (by decide) ?_
                    refine bj_iadd (v := (pf (8 * a0 + b0) + mav w v a0 b0)) d_Mo_add_84 (add_t hz) ?_
                    refine bv_iast d_Mo_add_85 0 rfl h3 (by omega) (by first | omega | exact Nat.lt_trans (nb_lt w a0) (by decide) | exact Nat.lt_trans (nb_lt w b0) (by decide)) (fun N1 hN1 hO1 => ?_)
                    refine bj_iinc (v := (nI (b0 + 1))) (L' := [some (.ref (ad 80)), some (.int w), some (.int v), some (.int (nI a0)), some (.int (nI (b0 + 1))), some (.int (nI (nb w a0))), some (.int (nI (nb w b0))), some (.int (nI 1))]) d_Mo_add_86 rfl (bj_inc1 _) (by decide) rfl ?_
                    refine bj_goto (tgt := 13) d_Mo_add_89 (by decide) ?_
                    exact ih_l2 (N - (b0 + 1)) (by omega) (b0 + 1) N1 _ _ _ rfl (by omega) (hN1.to (fun j _ => ma_s h7 h19 hN j)) (fun q hq => (hO1 q hq).trans (ho3 q hq))
        exact l2 0 M2 _ _ _ (Nat.zero_le _) h2 ho2
  exact l1 0 M _ _ _ _ (Nat.zero_le _) (hpf.to (fun j _ => (if_neg (by omega)).symm)) (fun _ _ => rfl)
set_option maxRecDepth 100000 in
set_option maxHeartbeats 4000000 in
/-- count -/
theorem t_Mo_count {N op : Nat} {cd li : Int32} {se : Bool} {dw sg sz : Nat → Nat} {rk : Nat → Nat → Int32} {tm : Nat → Nat → Nat} (hm0 : mo_ok c ad M N cd se op li dw sg sz rk tm) (hN : N ≤ 8) {x : Int32} {but : Nat} (hx : ∀ b, b < 12 → (nI b = x ↔ b = but)) (hiv : of_iv N op dw sg sz tm) {pf di : Nat → Int32} (hpf : bv_I (c 0) M 86 64 pf) (hdi : bv_I (c 0) M 87 64 di) : bj_T (bw_G l D c) Y_Mo_count 2 (0, 0, 0, 0) ad (q_count c M N (psum sg sz rk tm but)) [.ref (ad 80), .int x] M := by
  show bj_S _ _ _ _ _ _ 0 0 0 [some (.ref (ad 80)), some (.int x), none, none] [] M
  obtain ⟨hN1, -, hop, -, hbt, hun⟩ := hiv
  refine bj_iconst (v := (nI 0)) d_Mo_count_0 (by decide) ?_
  refine bj_istore_n (L' := [some (.ref (ad 80)), some (.int x), some (.int (nI 0)), none]) d_Mo_count_1 rfl (by decide) rfl ?_
  have l1 : ∀ (i : Nat), ∀ (M2 : bj_M), ∀ (g2 : Nat → Int32), (i ≤ 64) → (bv_I (c 0) M2 86 64 g2) → (∀ j, j < i → g2 j = nI 0) → (∀ q, q ≠ 86 → M2 q = M q) → bj_S (bw_G l D c) Y_Mo_count 2 (0, 0, 0, 0) ad (q_count c M N (psum sg sz rk tm but)) 0 0 2 [some (.ref (ad 80)), some (.int x), some (.int (nI i)), none] [] M2 := by
    intro i M2 g2
    induction hd_l1 : 64 - i using Nat.strongRecOn generalizing i M2 g2 with
    | ind d_l1 ih_l1 =>
      intro hi h2 he2 ho2
      have hO2 := (ho2 80 (by decide)).trans hm0.1
      refine bj_iload_n d_Mo_count_2 rfl rfl ?_
      refine bj_bipush (v := (nI 64)) d_Mo_count_3 (by decide) ?_
      refine bj_icmp_geN (tgt := 21) d_Mo_count_5 (by decide) (by omega) (by omega) (fun h5 => ?_) (fun h5 => ?_)
      · refine bj_iconst (v := (nI 0)) d_Mo_count_21 (by decide) ?_
        refine bj_istore_n (L' := [some (.ref (ad 80)), some (.int x), some (.int (nI 0)), none]) d_Mo_count_22 rfl (by decide) rfl ?_
        have l2 : ∀ (b : Nat), ∀ (M3 : bj_M), ∀ (z3 : Option Value), (b ≤ op) → (bv_I (c 0) M3 86 64 (fun j => nI (pz N (ppart sg sz rk tm but b) (j / 8) (j % 8)))) → (∀ q, q ≠ 86 → M3 q = M q) → bj_S (bw_G l D c) Y_Mo_count 2 (0, 0, 0, 0) ad (q_count c M N (psum sg sz rk tm but)) 0 0 23 [some (.ref (ad 80)), some (.int x), some (.int (nI b)), z3] [] M3 := by
          intro b M3 z3
          induction hd_l2 : 12 - b using Nat.strongRecOn generalizing b M3 z3 with
          | ind d_l2 ih_l2 =>
            intro hb0 h3 ho3
            have hO3 := (ho3 80 (by decide)).trans hm0.1
            refine bj_iload_n d_Mo_count_23 rfl rfl ?_
            refine bj_aload_n d_Mo_count_24 rfl rfl ?_
            refine bj_get d_Mo_count_25 in_Mo rfl (by decide : 4 < 17) wf_Mo_54 rfl hO3 rfl ?_
            refine bj_icmp_geN (tgt := 94) d_Mo_count_28 (by decide) (by first | omega | (have := hbt b (by omega); omega)) (by first | omega | (have := hbt b (by omega); omega)) (fun h28 => ?_) (fun h28 => ?_)
            · refine bj_iconst (v := (nI 0)) d_Mo_count_94 (by decide) ?_
              refine bj_istore_n (L' := [some (.ref (ad 80)), some (.int x), some (.int (nI 0)), z3]) d_Mo_count_95 rfl (by decide) rfl ?_
              have pzb : ∀ a x, pz N (psum sg sz rk tm but) a x < 2 ^ 31 := fun a x => by
                have := psum_le (sg := sg) (sz := sz) (rk := rk) (tm := tm) (but := but) (a := a) (b := x) (fun j hj => (hbt j hj).2)
                unfold pz
                split <;> omega
              have l4 : ∀ (i : Nat), ∀ (M5 : bj_M), ∀ (z9 : Option Value), (i ≤ 64) → (bv_I (c 0) M5 86 64 (fun j => nI (pz N (psum sg sz rk tm but) (j / 8) (j % 8)))) → (bv_I (c 0) M5 87 64 (fun j => if j < i then nI (drn (pz N (psum sg sz rk tm but)) (j / 8) (j % 8)) else di j)) → (∀ q, q ≠ 86 → q ≠ 87 → M5 q = M q) → bj_S (bw_G l D c) Y_Mo_count 2 (0, 0, 0, 0) ad (q_count c M N (psum sg sz rk tm but)) 0 0 96 [some (.ref (ad 80)), some (.int x), some (.int (nI i)), z9] [] M5 := by
                intro i M5 z9
                induction hd_l4 : 64 - i using Nat.strongRecOn generalizing i M5 z9 with
                | ind d_l4 ih_l4 =>
                  intro hi h5 h6 ho5
                  have hO5 := (ho5 80 (by decide) (by decide)).trans hm0.1
                  refine bj_iload_n d_Mo_count_96 rfl rfl ?_
                  refine bj_bipush (v := (nI 64)) d_Mo_count_97 (by decide) ?_
                  refine bj_icmp_geN (tgt := 152) d_Mo_count_99 (by decide) (by first | omega | exact pzb _ _) (by first | omega | exact pzb _ _) (fun h99 => ?_) (fun h99 => ?_)
                  · exact bj_vret d_Mo_count_152 rfl (Nat.le_refl _) (Nat.le_refl _) ⟨rfl, ⟨h5, h6.to (fun j hj => if_pos (by omega))⟩, ho5⟩
                  · refine bj_bipush (v := (nI 8)) d_Mo_count_102 (by decide) ?_
                    refine bj_iload_n d_Mo_count_104 rfl rfl ?_
                    refine bj_bipush (v := (nI 8)) d_Mo_count_105 (by decide) ?_
                    refine bj_irem (v := (nI (i % 8))) d_Mo_count_107 (by decide) (pk_rem (by omega) (by decide) (by decide)) ?_
                    refine bj_imul (v := (nI (8 * (i % 8)))) d_Mo_count_108 (pk_mul _ _) ?_
                    refine bj_iload_n d_Mo_count_109 rfl rfl ?_
                    refine bj_bipush (v := (nI 8)) d_Mo_count_110 (by decide) ?_
                    refine bj_idiv (v := (nI (i / 8))) d_Mo_count_112 (by decide) (pk_div (by omega) (by decide) (by decide)) ?_
                    refine bj_iadd (v := (nI ((8 * (i % 8)) + (i / 8)))) d_Mo_count_113 (nI_add _ _) ?_
                    refine bj_istore_n (L' := [some (.ref (ad 80)), some (.int x), some (.int (nI i)), some (.int (nI ((8 * (i % 8)) + (i / 8))))]) d_Mo_count_114 rfl (by decide) rfl ?_
                    refine bj_aload_n d_Mo_count_115 rfl rfl ?_
                    refine bj_get d_Mo_count_116 in_Mo rfl (by decide : 10 < 17) wf_Mo_28 rfl hO5 rfl ?_
                    refine bj_iload_n d_Mo_count_119 rfl rfl ?_
                    refine bj_aload_n d_Mo_count_120 rfl rfl ?_
                    refine bj_get d_Mo_count_121 in_Mo rfl (by decide : 9 < 17) wf_Mo_25 rfl hO5 rfl ?_
                    refine bj_iload_n d_Mo_count_124 rfl rfl ?_
                    refine bv_iald d_Mo_count_125 0 rfl h5 (by omega) (by first | omega | exact pzb _ _) rfl ?_
                    refine bj_aload_n d_Mo_count_126 rfl rfl ?_
                    refine bj_get d_Mo_count_127 in_Mo rfl (by decide : 9 < 17) wf_Mo_25 rfl hO5 rfl ?_
                    refine bj_iload_n d_Mo_count_130 rfl rfl ?_
                    refine bv_iald (v := (nI (pz N (psum sg sz rk tm but) (i % 8) (i / 8)))) d_Mo_count_131 0 rfl h5 (by omega) (by first | omega | exact pzb _ _) (by show nI _ = nI _; rw [show (8 * (i % 8) + i / 8) / 8 = i % 8 by omega, show (8 * (i % 8) + i / 8) % 8 = i / 8 by omega]) ?_
                    refine bj_icmp_leN (tgt := 144) d_Mo_count_132 (by decide) (by first | omega | exact pzb _ _) (by first | omega | exact pzb _ _) (fun h132 => ?_) (fun h132 => ?_)
                    · have hz : nI 0 = nI (drn (pz N (psum sg sz rk tm but)) (i / 8) (i % 8)) := by unfold drn; rw [if_neg (by omega)]
                      refine bj_iconst (v := (nI 0)) d_Mo_count_144 (by decide) ?_
                      rw [hz]
                      refine bv_iast d_Mo_count_145 0 rfl h6 (by omega) (by first | omega | exact pzb _ _) (fun N1 hN1 hO1 => ?_)
                      refine bj_iinc (v := (nI (i + 1))) (L' := [some (.ref (ad 80)), some (.int x), some (.int (nI (i + 1))), some (.int (nI ((8 * (i % 8)) + (i / 8))))]) d_Mo_count_146 rfl (bj_inc1 _) (by decide) rfl ?_
                      refine bj_goto (tgt := 96) d_Mo_count_149 (by decide) ?_
                      exact ih_l4 (64 - (i + 1)) (by omega) (i + 1) N1 _ rfl (by omega) (h5.in (hO1 86 (by decide))) (hN1.to (fun j _ => by
                        by_cases e : j = i
                        · subst e; rw [va_up_self, if_pos (by omega)]
                        · rw [va_up_ne _ _ e]
                          by_cases e2 : j < i
                          · rw [if_pos e2, if_pos (by omega)]
                          · rw [if_neg e2, if_neg (by omega)])) (fun q q1 q2 => (hO1 q q2).trans (ho5 q q1 q2))
                    · have hz : nI (pz N (psum sg sz rk tm but) (i / 8) (i % 8)) = nI (drn (pz N (psum sg sz rk tm but)) (i / 8) (i % 8)) := by unfold drn; rw [if_pos h132]
                      refine bj_aload_n d_Mo_count_135 rfl rfl ?_
                      refine bj_get d_Mo_count_136 in_Mo rfl (by decide : 9 < 17) wf_Mo_25 rfl hO5 rfl ?_
                      refine bj_iload_n d_Mo_count_139 rfl rfl ?_
                      refine bv_iald d_Mo_count_140 0 rfl h5 (by omega) (by first | omega | exact pzb _ _) rfl ?_
                      refine bj_goto (tgt := 145) d_Mo_count_141 (by decide) ?_
                      rw [hz]
                      refine bv_iast d_Mo_count_145 0 rfl h6 (by omega) (by first | omega | exact pzb _ _) (fun N1 hN1 hO1 => ?_)
                      refine bj_iinc (v := (nI (i + 1))) (L' := [some (.ref (ad 80)), some (.int x), some (.int (nI (i + 1))), some (.int (nI ((8 * (i % 8)) + (i / 8))))]) d_Mo_count_146 rfl (bj_inc1 _) (by decide) rfl ?_
                      refine bj_goto (tgt := 96) d_Mo_count_149 (by decide) ?_
                      exact ih_l4 (64 - (i + 1)) (by omega) (i + 1) N1 _ rfl (by omega) (h5.in (hO1 86 (by decide))) (hN1.to (fun j _ => by
                        by_cases e : j = i
                        · subst e; rw [va_up_self, if_pos (by omega)]
                        · rw [va_up_ne _ _ e]
                          by_cases e2 : j < i
                          · rw [if_pos e2, if_pos (by omega)]
                          · rw [if_neg e2, if_neg (by omega)])) (fun q q1 q2 => (hO1 q q2).trans (ho5 q q1 q2))
              exact l4 0 M3 _ (Nat.zero_le _) (h3.to (fun j _ => by rw [show b = op by omega, pz_to (f := ppart sg sz rk tm but op) (g := psum sg sz rk tm but) (fun a x => pp_e hop hun)])) ((hdi.in (ho3 87 (by decide))).to (fun j _ => (if_neg (Nat.not_lt_zero _)).symm)) (fun q q1 _ => ho3 q q1)
            · refine bj_bipush (v := (nI 6)) d_Mo_count_31 (by decide) ?_
              refine bj_iload_n d_Mo_count_33 rfl rfl ?_
              refine bj_imul (v := (nI (6 * b))) d_Mo_count_34 (pk_mul _ _) ?_
              refine bj_istore_n (L' := [some (.ref (ad 80)), some (.int x), some (.int (nI b)), some (.int (nI (6 * b)))]) d_Mo_count_35 rfl (by decide) rfl ?_
              have hsz := (hbt b (by omega)).2.1
              have l3 : ∀ (i : Nat), ∀ (M4 : bj_M), (i ≤ sz b) → (0 < i → sg b = 1 ∧ b ≠ but) → (bv_I (c 0) M4 86 64 (fun j => nI (pz N (fun a x => ppart sg sz rk tm but b a x + bsum i (rk b) (tm b) a x) (j / 8) (j % 8)))) → (∀ q, q ≠ 86 → M4 q = M q) → bj_S (bw_G l D c) Y_Mo_count 2 (0, 0, 0, 0) ad (q_count c M N (psum sg sz rk tm but)) 0 0 36 [some (.ref (ad 80)), some (.int x), some (.int (nI b)), some (.int (nI (6 * b + i)))] [] M4 := by
                intro i M4
                induction hd_l3 : 6 - i using Nat.strongRecOn generalizing i M4 with
                | ind d_l3 ih_l3 =>
                  intro hi hi2 h4 ho4
                  have hm4 := hm0.in (M' := M4) (fun q _ _ => ho4 q (by omega))
                  refine bj_iload_n d_Mo_count_36 rfl rfl ?_
                  refine bj_bipush (v := (nI 6)) d_Mo_count_37 (by decide) ?_
                  refine bj_iload_n d_Mo_count_39 rfl rfl ?_
                  refine bj_imul (v := (nI (6 * b))) d_Mo_count_40 (pk_mul _ _) ?_
                  refine bj_aload_n d_Mo_count_41 rfl rfl ?_
                  refine bj_get d_Mo_count_42 in_Mo rfl (by decide : 6 < 17) wf_Mo_16 rfl hm4.1 rfl ?_
                  refine bj_iload_n d_Mo_count_45 rfl rfl ?_
                  refine bv_iald d_Mo_count_46 0 rfl hm4.2.2.2.1 (by omega) (by first | omega | (have := hbt b (by omega); omega)) rfl ?_
                  refine bj_iadd (v := (nI ((6 * b) + (sz b)))) d_Mo_count_47 (nI_add _ _) ?_
                  refine bj_icmp_geN (tgt := 88) d_Mo_count_48 (by decide) (by first | omega | (have := hbt b (by omega); omega)) (by first | omega | (have := hbt b (by omega); omega)) (fun h48 => ?_) (fun h48 => ?_)
                  · have hz : ∀ a x, ppart sg sz rk tm but b a x + bsum i (rk b) (tm b) a x = ppart sg sz rk tm but (b + 1) a x := fun a x => by
                      have e : i = sz b := by omega
                      by_cases q : sg b = 1 ∧ b ≠ but
                      · rw [e]; exact pp_s q
                      · rw [show i = 0 from (Nat.eq_zero_of_not_pos (fun h => q (hi2 h)))]; exact pp_n q
                    refine bj_iinc (v := (nI (b + 1))) (L' := [some (.ref (ad 80)), some (.int x), some (.int (nI (b + 1))), some (.int (nI (6 * b + i)))]) d_Mo_count_88 rfl (bj_inc1 _) (by decide) rfl ?_
                    refine bj_goto (tgt := 23) d_Mo_count_91 (by decide) ?_
                    exact ih_l2 (12 - (b + 1)) (by omega) (b + 1) M4 _ rfl (by omega) (h4.to (fun j _ => by rw [pz_to hz])) ho4
                  · have h48b : i < sz b := by omega
                    refine bj_aload_n d_Mo_count_51 rfl rfl ?_
                    refine bj_get d_Mo_count_52 in_Mo rfl (by decide : 5 < 17) wf_Mo_13 rfl hm4.1 rfl ?_
                    refine bj_iload_n d_Mo_count_55 rfl rfl ?_
                    refine bv_iald d_Mo_count_56 0 rfl hm4.2.2.1 (by omega) (by first | omega | (have := hbt b (by omega); omega)) rfl ?_
                    refine bj_iconst (v := (nI 1)) d_Mo_count_57 (by decide) ?_
                    refine bj_icmp_neN (tgt := 88) d_Mo_count_58 (by decide) (by first | omega | (have := hbt b (by omega); omega)) (by first | omega | (have := hbt b (by omega); omega)) (fun h58 => ?_) (fun h58 => ?_)
                    · have hz : ∀ a x, ppart sg sz rk tm but b a x + bsum i (rk b) (tm b) a x = ppart sg sz rk tm but (b + 1) a x := fun a x => by
                        rw [show i = 0 from (Nat.eq_zero_of_not_pos (fun h => h58 (hi2 h).1))]; exact pp_n (fun q => h58 q.1)
                      refine bj_iinc (v := (nI (b + 1))) (L' := [some (.ref (ad 80)), some (.int x), some (.int (nI (b + 1))), some (.int (nI (6 * b + i)))]) d_Mo_count_88 rfl (bj_inc1 _) (by decide) rfl ?_
                      refine bj_goto (tgt := 23) d_Mo_count_91 (by decide) ?_
                      exact ih_l2 (12 - (b + 1)) (by omega) (b + 1) M4 _ rfl (by omega) (h4.to (fun j _ => by rw [pz_to hz])) ho4
                    · refine bj_iload_n d_Mo_count_61 rfl rfl ?_
                      refine bj_iload_n d_Mo_count_62 rfl rfl ?_
                      refine bj_icmp_eq (tgt := 88) d_Mo_count_63 (by decide) (fun h63 => ?_) (fun h63 => ?_)
                      · have hz : ∀ a x, ppart sg sz rk tm but b a x + bsum i (rk b) (tm b) a x = ppart sg sz rk tm but (b + 1) a x := fun a x => by
                          have e := (hx b (by omega)).mp h63
                          rw [show i = 0 from (Nat.eq_zero_of_not_pos (fun h => (hi2 h).2 e))]; exact pp_n (fun q => q.2 e)
                        refine bj_iinc (v := (nI (b + 1))) (L' := [some (.ref (ad 80)), some (.int x), some (.int (nI (b + 1))), some (.int (nI (6 * b + i)))]) d_Mo_count_88 rfl (bj_inc1 _) (by decide) rfl ?_
                        refine bj_goto (tgt := 23) d_Mo_count_91 (by decide) ?_
                        exact ih_l2 (12 - (b + 1)) (by omega) (b + 1) M4 _ rfl (by omega) (h4.to (fun j _ => by rw [pz_to hz])) ho4
                      · have hzz : sg b = 1 ∧ b ≠ but := ⟨h58, fun e => h63 ((hx b (by omega)).mpr e)⟩
                        refine bj_aload_n d_Mo_count_66 rfl rfl ?_
                        refine bj_aload_n d_Mo_count_67 rfl rfl ?_
                        refine bj_get d_Mo_count_68 in_Mo rfl (by decide : 7 < 17) wf_Mo_19 rfl hm4.1 rfl ?_
                        refine bj_iload_n d_Mo_count_71 rfl rfl ?_
                        refine bv_iald (v := (rk b i)) d_Mo_count_72 0 rfl hm4.2.2.2.2.1 (by omega) (by first | omega | (have := hbt b (by omega); omega)) (by show rk _ _ = _; rw [show (6 * b + i) / 6 = b by omega, show (6 * b + i) % 6 = i by omega]) ?_
                        refine bj_aload_n d_Mo_count_73 rfl rfl ?_
                        refine bj_get d_Mo_count_74 in_Mo rfl (by decide : 8 < 17) wf_Mo_22 rfl hm4.1 rfl ?_
                        refine bj_iload_n d_Mo_count_77 rfl rfl ?_
                        refine bv_iald (v := (nI (tm b i))) d_Mo_count_78 0 rfl hm4.2.2.2.2.2 (by omega) (by first | omega | (have := hbt b (by omega); omega)) (by show nI _ = nI _; rw [show (6 * b + i) / 6 = b by omega, show (6 * b + i) % 6 = i by omega]) ?_
                        refine bj_cvR sv_Mo_79 d_Mo_count_79 (t_Mo_add l D c ad M4 hm4 hN h4) rfl rfl (by decide) (by decide) (by decide) (Nat.le_of_ble_eq_true rfl) rfl hm4.1 rfl rfl (fun v1 N1 hq1 => ?_)
                        obtain ⟨rfl, h5, ho5⟩ := hq1
                        show bj_S (bw_G l D c) Y_Mo_count 2 (0, 0, 0, 0) ad (q_count c M N (psum sg sz rk tm but)) 0 0 82 [some (.ref (ad 80)), some (.int x), some (.int (nI b)), some (.int (nI (6 * b + i)))] [] N1
                        refine bj_iinc (v := (nI (6 * b + (i + 1)))) (L' := [some (.ref (ad 80)), some (.int x), some (.int (nI b)), some (.int (nI (6 * b + (i + 1))))]) d_Mo_count_82 rfl (bj_inc1 _) (by decide) rfl ?_
                        refine bj_goto (tgt := 36) d_Mo_count_85 (by decide) ?_
                        exact ih_l3 (6 - (i + 1)) (by omega) (i + 1) N1 rfl (by omega) (fun _ => hzz) (h5.to (fun j _ => cn_add.trans (by rw [pz_to (fun a x => cn_in hzz)]))) (fun q hq => (ho5 q hq).trans (ho4 q hq))
              exact l3 0 M3 (Nat.zero_le _) (fun h => absurd h (Nat.lt_irrefl _)) h3 ho3
        exact l2 0 M2 _ (Nat.zero_le _) (h2.to (fun j hj => (he2 j (by omega)).trans (by unfold pz; split <;> rfl))) ho2
      · refine bj_aload_n d_Mo_count_8 rfl rfl ?_
        refine bj_get d_Mo_count_9 in_Mo rfl (by decide : 9 < 17) wf_Mo_25 rfl hO2 rfl ?_
        refine bj_iload_n d_Mo_count_12 rfl rfl ?_
        refine bj_iconst (v := (nI 0)) d_Mo_count_13 (by decide) ?_
        refine bv_iast d_Mo_count_14 0 rfl h2 (by omega) (by first | omega | (have := hbt b (by omega); omega)) (fun N1 hN1 hO1 => ?_)
        refine bj_iinc (v := (nI (i + 1))) (L' := [some (.ref (ad 80)), some (.int x), some (.int (nI (i + 1))), none]) d_Mo_count_15 rfl (bj_inc1 _) (by decide) rfl ?_
        refine bj_goto (tgt := 2) d_Mo_count_18 (by decide) ?_
        exact ih_l1 (64 - (i + 1)) (by omega) (i + 1) N1 _ rfl (by omega) hN1 (fun j hj => by
          by_cases e : j = i
          · subst e; rw [va_up_self]
          · rw [va_up_ne _ _ e]; exact he2 j (by omega)) (fun q hq => (hO1 q hq).trans (ho2 q hq))
  exact l1 0 M _ (Nat.zero_le _) hpf (fun j hj => absurd hj (Nat.not_lt_zero _)) (fun _ _ => rfl)
set_option maxRecDepth 100000 in
set_option maxHeartbeats 4000000 in
/-- lesser -/
theorem t_Mo_lesser {a b : Nat} (ha : a < 2 ^ 31) (hb : b < 2 ^ 31) : bj_T (bw_G l D c) Y_Mo_lesser 0 (0, 0, 0, 0) ad (bj_fn (nI (min a b)) M) [.int (nI a), .int (nI b)] M := by
  show bj_S _ _ _ _ _ _ 0 0 0 [some (.int (nI a)), some (.int (nI b))] [] M
  refine bj_iload_n d_Mo_lesser_0 rfl rfl ?_
  refine bj_iload_n d_Mo_lesser_1 rfl rfl ?_
  refine bj_icmp_geN (tgt := 9) d_Mo_lesser_2 (by decide) (by omega) (by omega) (fun h2 => ?_) (fun h2 => ?_)
  · refine bj_iload_n d_Mo_lesser_9 rfl rfl ?_
    exact bj_iret d_Mo_lesser_10 rfl rfl (Nat.le_refl _) (Nat.le_refl _) ⟨by rw [Nat.min_eq_right (by omega)], rfl⟩
  · refine bj_iload_n d_Mo_lesser_5 rfl rfl ?_
    refine bj_goto (tgt := 10) d_Mo_lesser_6 (by decide) ?_
    exact bj_iret d_Mo_lesser_10 rfl rfl (Nat.le_refl _) (Nat.le_refl _) ⟨by rw [Nat.min_eq_left (by omega)], rfl⟩
set_option maxRecDepth 100000 in
set_option maxHeartbeats 4000000 in
/-- strengthen -/
theorem t_Mo_strengthen {N op : Nat} {cd li : Int32} {se : Bool} {dw sg sz : Nat → Nat} {rk : Nat → Nat → Int32} {tm : Nat → Nat → Nat} (hm0 : mo_ok c ad M N cd se op li dw sg sz rk tm) (hN : N ≤ 8) {d : Nat → Nat} {B : Nat} {st : Nat → Int32} (hB : B < 2 ^ 31) (hd : bv_I (c 0) M 87 64 (fun j => nI (d j))) (hdB : ∀ j, j < 64 → d j ≤ B) (hst : bv_I (c 0) M 88 64 st) : bj_T (bw_G l D c) Y_Mo_strengthen 1 (0, 0, 0, 0) ad (q_stren c M d B) [.ref (ad 80)] M := by
  show bj_S _ _ _ _ _ _ 0 0 0 [some (.ref (ad 80)), none, none, none, none, none, none] [] M
  refine bj_iconst (v := (nI 0)) d_Mo_strengthen_0 (by decide) ?_
  refine bj_istore_n (L' := [some (.ref (ad 80)), some (.int (nI 0)), none, none, none, none, none]) d_Mo_strengthen_1 rfl (by decide) rfl ?_
  have l1 : ∀ (i : Nat), ∀ (M2 : bj_M), (i ≤ 64) → (bv_I (c 0) M2 88 64 (fun j => if j < i then nI (d j) else st j)) → (∀ q, q ≠ 88 → M2 q = M q) → bj_S (bw_G l D c) Y_Mo_strengthen 1 (0, 0, 0, 0) ad (q_stren c M d B) 0 0 2 [some (.ref (ad 80)), some (.int (nI i)), none, none, none, none, none] [] M2 := by
    intro i M2
    induction hd_l1 : 64 - i using Nat.strongRecOn generalizing i M2 with
    | ind d_l1 ih_l1 =>
      intro hi h2 ho2
      have hO2 := (ho2 80 (by decide)).trans hm0.1
      have hd2 : bv_I (c 0) M2 87 64 (fun j => nI (d j)) := hd.in (ho2 87 (by decide))
      refine bj_iload_n d_Mo_strengthen_2 rfl rfl ?_
      refine bj_bipush (v := (nI 64)) d_Mo_strengthen_3 (by decide) ?_
      refine bj_icmp_geN (tgt := 26) d_Mo_strengthen_5 (by decide) (by first | omega | exact fb2 _ (by omega) | exact fbd _ (by omega) | exact fbm _ _ (by omega)) (by first | omega | exact fb2 _ (by omega) | exact fbd _ (by omega) | exact fbm _ _ (by omega)) (fun h5 => ?_) (fun h5 => ?_)
      · refine bj_iconst (v := (nI 1)) d_Mo_strengthen_26 (by decide) ?_
        refine bj_istore_n (L' := [some (.ref (ad 80)), some (.int (nI 1)), none, none, none, none, none]) d_Mo_strengthen_27 rfl (by decide) rfl ?_
        have l2 : ∀ (M3 : bj_M), ∀ (e : Nat → Nat), ∀ (m : Bool), ∀ (z2 : Option Value), ∀ (z3 : Option Value), ∀ (z4 : Option Value), ∀ (z5 : Option Value), ∀ (z6 : Option Value), (bv_I (c 0) M3 88 64 (fun j => nI (e j))) → (∀ q, q ≠ 88 → M3 q = M q) → (fl_ok d e B) → (m = false → ∀ k, k < 512 → fl_c1 d e k) → bj_S (bw_G l D c) Y_Mo_strengthen 1 (0, 0, 0, 0) ad (q_stren c M d B) 0 0 28 [some (.ref (ad 80)), some (.int (bt_n m)), z2, z3, z4, z5, z6] [] M3 := by
          intro M3 e m z2 z3 z4 z5 z6
          induction hd_l2 : fl_mu B e + (if m = true then 1 else 0) using Nat.strongRecOn generalizing M3 e m z2 z3 z4 z5 z6 with
          | ind d_l2 ih_l2 =>
            intro h3 ho3 hf3 hc3
            have hO3 := (ho3 80 (by decide)).trans hm0.1
            refine bj_iload_n d_Mo_strengthen_28 rfl rfl ?_
            refine bj_if_eq (tgt := 141) d_Mo_strengthen_29 (by decide) (fun h29 => ?_) (fun h29 => ?_)
            · exact bj_vret d_Mo_strengthen_141 rfl (Nat.le_refl _) (Nat.le_refl _) ⟨rfl, ⟨e, h3, hf3, hc3 (bt_n0.mp h29)⟩, ho3⟩
            · have hmt := bt_nn h29
              subst hmt
              refine bj_iconst (v := (nI 0)) d_Mo_strengthen_32 (by decide) ?_
              refine bj_istore_n (L' := [some (.ref (ad 80)), some (.int (nI 0)), z2, z3, z4, z5, z6]) d_Mo_strengthen_33 rfl (by decide) rfl ?_
              refine bj_iconst (v := (nI 0)) d_Mo_strengthen_34 (by decide) ?_
              refine bj_istore_n (L' := [some (.ref (ad 80)), some (.int (nI 0)), some (.int (nI 0)), z3, z4, z5, z6]) d_Mo_strengthen_35 rfl (by decide) rfl ?_
              have l3 : ∀ (k : Nat), ∀ (M4 : bj_M), ∀ (e2 : Nat → Nat), ∀ (m2 : Bool), ∀ (z3 : Option Value), ∀ (z4 : Option Value), ∀ (z5 : Option Value), ∀ (z6 : Option Value), (k ≤ 512) → (bv_I (c 0) M4 88 64 (fun j => nI (e2 j))) → (∀ q, q ≠ 88 → M4 q = M q) → (fl_ok d e2 B) → (m2 = true → fl_mu B e2 < fl_mu B e) → (m2 = false → e2 = e ∧ ∀ j, j < k → fl_c1 d e j) → bj_S (bw_G l D c) Y_Mo_strengthen 1 (0, 0, 0, 0) ad (q_stren c M d B) 0 0 36 [some (.ref (ad 80)), some (.int (bt_n m2)), some (.int (nI k)), z3, z4, z5, z6] [] M4 := by
                intro k M4 e2 m2 z3 z4 z5 z6
                induction hd_l3 : 512 - k using Nat.strongRecOn generalizing k M4 e2 m2 z3 z4 z5 z6 with
                | ind d_l3 ih_l3 =>
                  intro hk h4 ho4 hf4 ht hff
                  have hO4 := (ho4 80 (by decide)).trans hm0.1
                  have hd4 : bv_I (c 0) M4 87 64 (fun j => nI (d j)) := hd.in (ho4 87 (by decide))
                  have fb2 : ∀ j, j < 64 → e2 j < 2 ^ 31 := fun j hj => Nat.lt_of_le_of_lt (hf4.2.2.1 j hj) hB
                  have fbd : ∀ j, j < 64 → d j < 2 ^ 31 := fun j hj => Nat.lt_of_le_of_lt (hdB j hj) hB
                  have fbm : ∀ i j, j < 64 → min (e2 i) (d j) < 2 ^ 31 := fun i j hj => Nat.lt_of_le_of_lt (Nat.min_le_right _ _) (fbd j hj)
                  refine bj_iload_n d_Mo_strengthen_36 rfl rfl ?_
                  refine bj_sipush (v := (nI 512)) d_Mo_strengthen_37 (by decide) ?_
                  refine bj_icmp_geN (tgt := 138) d_Mo_strengthen_40 (by decide) (by first | omega | exact fb2 _ (by omega) | exact fbd _ (by omega) | exact fbm _ _ (by omega)) (by first | omega | exact fb2 _ (by omega) | exact fbd _ (by omega) | exact fbm _ _ (by omega)) (fun h40 => ?_) (fun h40 => ?_)
                  · refine bj_goto (tgt := 28) d_Mo_strengthen_138 (by decide) ?_
                    exact ih_l2 (fl_mu B e2 + (if m2 = true then 1 else 0)) (by
                      rw [if_pos rfl] at hd_l2
                      cases hm : m2 with
                      | true => have := ht hm; simp; omega
                      | false => rw [(hff hm).1]; simp; omega) M4 e2 m2 _ _ _ _ _ rfl h4 ho4 hf4 (fun q j hj => by rw [(hff q).1]; exact (hff q).2 j (by omega))
                  · refine bj_iload_n d_Mo_strengthen_43 rfl rfl ?_
                    refine bj_bipush (v := (nI 64)) d_Mo_strengthen_44 (by decide) ?_
                    refine bj_idiv (v := (nI (k / 64))) d_Mo_strengthen_46 (by decide) (pk_div (by omega) (by decide) (by decide)) ?_
                    refine bj_istore_n (L' := [some (.ref (ad 80)), some (.int (bt_n m2)), some (.int (nI k)), some (.int (nI (k / 64))), z4, z5, z6]) d_Mo_strengthen_47 rfl (by decide) rfl ?_
                    refine bj_iload_n d_Mo_strengthen_48 rfl rfl ?_
                    refine bj_bipush (v := (nI 8)) d_Mo_strengthen_49 (by decide) ?_
                    refine bj_idiv (v := (nI (k / 8))) d_Mo_strengthen_51 (by decide) (pk_div (by omega) (by decide) (by decide)) ?_
                    refine bj_bipush (v := (nI 8)) d_Mo_strengthen_52 (by decide) ?_
                    refine bj_irem (v := (nI ((k / 8) % 8))) d_Mo_strengthen_54 (by decide) (pk_rem (by omega) (by decide) (by decide)) ?_
                    refine bj_istore (L' := [some (.ref (ad 80)), some (.int (bt_n m2)), some (.int (nI k)), some (.int (nI (k / 64))), some (.int (nI ((k / 8) % 8))), z5, z6]) d_Mo_strengthen_55 (by decide) rfl ?_
                    refine bj_iload_n d_Mo_strengthen_57 rfl rfl ?_
                    refine bj_bipush (v := (nI 8)) d_Mo_strengthen_58 (by decide) ?_
                    refine bj_irem (v := (nI (k % 8))) d_Mo_strengthen_60 (by decide) (pk_rem (by omega) (by decide) (by decide)) ?_
                    refine bj_istore (L' := [some (.ref (ad 80)), some (.int (bt_n m2)), some (.int (nI k)), some (.int (nI (k / 64))), some (.int (nI ((k / 8) % 8))), some (.int (nI (k % 8))), z6]) d_Mo_strengthen_61 (by decide) rfl ?_
                    refine bj_aload_n d_Mo_strengthen_63 rfl rfl ?_
                    refine bj_get d_Mo_strengthen_64 in_Mo rfl (by decide : 11 < 17) wf_Mo_31 rfl hO4 rfl ?_
                    refine bj_bipush (v := (nI 8)) d_Mo_strengthen_67 (by decide) ?_
                    refine bj_iload_n d_Mo_strengthen_69 rfl rfl ?_
                    refine bj_imul (v := (nI (8 * (k / 64)))) d_Mo_strengthen_70 (pk_mul _ _) ?_
                    refine bj_iload d_Mo_strengthen_71 rfl ?_
                    refine bj_iadd (v := (nI ((8 * (k / 64)) + ((k / 8) % 8)))) d_Mo_strengthen_73 (nI_add _ _) ?_
                    refine bv_iald d_Mo_strengthen_74 0 rfl h4 (by omega) (by first | omega | exact fb2 _ (by omega) | exact fbd _ (by omega) | exact fbm _ _ (by omega)) rfl ?_
                    refine bj_aload_n d_Mo_strengthen_75 rfl rfl ?_
                    refine bj_get d_Mo_strengthen_76 in_Mo rfl (by decide : 10 < 17) wf_Mo_28 rfl hO4 rfl ?_
                    refine bj_bipush (v := (nI 8)) d_Mo_strengthen_79 (by decide) ?_
                    refine bj_iload d_Mo_strengthen_81 rfl ?_
                    refine bj_imul (v := (nI (8 * ((k / 8) % 8)))) d_Mo_strengthen_83 (pk_mul _ _) ?_
                    refine bj_iload d_Mo_strengthen_84 rfl ?_
                    refine bj_iadd (v := (nI ((8 * ((k / 8) % 8)) + (k % 8)))) d_Mo_strengthen_86 (nI_add _ _) ?_
                    refine bv_iald d_Mo_strengthen_87 0 rfl hd4 (by omega) (by first | omega | exact fb2 _ (by omega) | exact fbd _ (by omega) | exact fbm _ _ (by omega)) rfl ?_
                    refine bj_csF ss_Mo_83 d_Mo_strengthen_88 (t_Mo_lesser l D c ad M4 (fb2 _ (by omega)) (fbd _ (by omega))) rfl rfl (by decide) (by decide) (by decide) (Nat.le_of_ble_eq_true rfl) rfl ?_
                    refine bj_istore (L' := [some (.ref (ad 80)), some (.int (bt_n m2)), some (.int (nI k)), some (.int (nI (k / 64))), some (.int (nI ((k / 8) % 8))), some (.int (nI (k % 8))), some (.int (nI (min (e2 (8 * (k / 64) + k / 8 % 8)) (d (8 * (k / 8 % 8) + k % 8)))))]) d_Mo_strengthen_91 (by decide) rfl ?_
                    refine bj_iload_n d_Mo_strengthen_93 rfl rfl ?_
                    refine bj_iload d_Mo_strengthen_94 rfl ?_
                    refine bj_icmp_eqN (tgt := 132) d_Mo_strengthen_96 (by decide) (by first | omega | exact fb2 _ (by omega) | exact fbd _ (by omega) | exact fbm _ _ (by omega)) (by first | omega | exact fb2 _ (by omega) | exact fbd _ (by omega) | exact fbm _ _ (by omega)) (fun h96 => ?_) (fun h96 => ?_)
                    · have hz : fl_c1 d e2 k := fun q => absurd h96 q
                      refine bj_iinc (v := (nI (k + 1))) (L' := [some (.ref (ad 80)), some (.int (bt_n m2)), some (.int (nI (k + 1))), some (.int (nI (k / 64))), some (.int (nI ((k / 8) % 8))), some (.int (nI (k % 8))), some (.int (nI (min (e2 (8 * (k / 64) + k / 8 % 8)) (d (8 * (k / 8 % 8) + k % 8)))))]) d_Mo_strengthen_132 rfl (bj_inc1 _) (by decide) rfl ?_
                      refine bj_goto (tgt := 36) d_Mo_strengthen_135 (by decide) ?_
                      exact ih_l3 (512 - (k + 1)) (by omega) (k + 1) M4 e2 m2 _ _ _ _ rfl (by omega) h4 ho4 hf4 ht (fun q => ⟨(hff q).1, fun j hj => by
                        rcases Nat.lt_or_ge j k with r | r
                        · exact (hff q).2 j r
                        · rw [show j = k by omega, ← (hff q).1]; exact hz⟩)
                    · refine bj_iload d_Mo_strengthen_99 rfl ?_
                      refine bj_aload_n d_Mo_strengthen_101 rfl rfl ?_
                      refine bj_get d_Mo_strengthen_102 in_Mo rfl (by decide : 11 < 17) wf_Mo_31 rfl hO4 rfl ?_
                      refine bj_bipush (v := (nI 8)) d_Mo_strengthen_105 (by decide) ?_
                      refine bj_iload_n d_Mo_strengthen_107 rfl rfl ?_
                      refine bj_imul (v := (nI (8 * (k / 64)))) d_Mo_strengthen_108 (pk_mul _ _) ?_
                      refine bj_iload d_Mo_strengthen_109 rfl ?_
                      refine bj_iadd (v := (nI ((8 * (k / 64)) + (k % 8)))) d_Mo_strengthen_111 (nI_add _ _) ?_
                      refine bv_iald d_Mo_strengthen_112 0 rfl h4 (by omega) (by first | omega | exact fb2 _ (by omega) | exact fbd _ (by omega) | exact fbm _ _ (by omega)) rfl ?_
                      refine bj_icmp_leN (tgt := 132) d_Mo_strengthen_113 (by decide) (by first | omega | exact fb2 _ (by omega) | exact fbd _ (by omega) | exact fbm _ _ (by omega)) (by first | omega | exact fb2 _ (by omega) | exact fbd _ (by omega) | exact fbm _ _ (by omega)) (fun h113 => ?_) (fun h113 => ?_)
                      · have hz : fl_c1 d e2 k := fun _ => h113
                        refine bj_iinc (v := (nI (k + 1))) (L' := [some (.ref (ad 80)), some (.int (bt_n m2)), some (.int (nI (k + 1))), some (.int (nI (k / 64))), some (.int (nI ((k / 8) % 8))), some (.int (nI (k % 8))), some (.int (nI (min (e2 (8 * (k / 64) + k / 8 % 8)) (d (8 * (k / 8 % 8) + k % 8)))))]) d_Mo_strengthen_132 rfl (bj_inc1 _) (by decide) rfl ?_
                        refine bj_goto (tgt := 36) d_Mo_strengthen_135 (by decide) ?_
                        exact ih_l3 (512 - (k + 1)) (by omega) (k + 1) M4 e2 m2 _ _ _ _ rfl (by omega) h4 ho4 hf4 ht (fun q => ⟨(hff q).1, fun j hj => by
                          rcases Nat.lt_or_ge j k with r | r
                          · exact (hff q).2 j r
                          · rw [show j = k by omega, ← (hff q).1]; exact hz⟩)
                      · have hz := fl_s hf4 h40 h113
                        refine bj_aload_n d_Mo_strengthen_116 rfl rfl ?_
                        refine bj_get d_Mo_strengthen_117 in_Mo rfl (by decide : 11 < 17) wf_Mo_31 rfl hO4 rfl ?_
                        refine bj_bipush (v := (nI 8)) d_Mo_strengthen_120 (by decide) ?_
                        refine bj_iload_n d_Mo_strengthen_122 rfl rfl ?_
                        refine bj_imul (v := (nI (8 * (k / 64)))) d_Mo_strengthen_123 (pk_mul _ _) ?_
                        refine bj_iload d_Mo_strengthen_124 rfl ?_
                        refine bj_iadd (v := (nI ((8 * (k / 64)) + (k % 8)))) d_Mo_strengthen_126 (nI_add _ _) ?_
                        refine bj_iload d_Mo_strengthen_127 rfl ?_
                        refine bv_iast d_Mo_strengthen_129 0 rfl h4 (by omega) (by first | omega | exact fb2 _ (by omega) | exact fbd _ (by omega) | exact fbm _ _ (by omega)) (fun N1 hN1 hO1 => ?_)
                        refine bj_iconst (v := (nI 1)) d_Mo_strengthen_130 (by decide) ?_
                        refine bj_istore_n (L' := [some (.ref (ad 80)), some (.int (nI 1)), some (.int (nI k)), some (.int (nI (k / 64))), some (.int (nI ((k / 8) % 8))), some (.int (nI (k % 8))), some (.int (nI (min (e2 (8 * (k / 64) + k / 8 % 8)) (d (8 * (k / 8 % 8) + k % 8)))))]) d_Mo_strengthen_131 rfl (by decide) rfl ?_
                        refine bj_iinc (v := (nI (k + 1))) (L' := [some (.ref (ad 80)), some (.int (nI 1)), some (.int (nI (k + 1))), some (.int (nI (k / 64))), some (.int (nI ((k / 8) % 8))), some (.int (nI (k % 8))), some (.int (nI (min (e2 (8 * (k / 64) + k / 8 % 8)) (d (8 * (k / 8 % 8) + k % 8)))))]) d_Mo_strengthen_132 rfl (bj_inc1 _) (by decide) rfl ?_
                        refine bj_goto (tgt := 36) d_Mo_strengthen_135 (by decide) ?_
                        exact ih_l3 (512 - (k + 1)) (by omega) (k + 1) N1 _ true _ _ _ _ rfl (by omega) (bv_I.upn hN1) (fun q hq => (hO1 q hq).trans (ho4 q hq)) hz.1 (fun _ => Nat.lt_of_lt_of_le hz.2 (by
                          cases hm : m2 with
                          | true => exact Nat.le_of_lt (ht hm)
                          | false => rw [(hff hm).1]; exact Nat.le_refl _)) (fun q => by cases q)
              exact l3 0 M3 e false _ _ _ _ (Nat.zero_le _) h3 ho3 hf3 (fun q => by cases q) (fun _ => ⟨rfl, fun j hj => absurd hj (Nat.not_lt_zero _)⟩)
        exact l2 M2 d true _ _ _ _ _ (h2.to (fun j hj => if_pos (by omega))) ho2 (fl_0 hdB) (fun q => by cases q)
      · refine bj_aload_n d_Mo_strengthen_8 rfl rfl ?_
        refine bj_get d_Mo_strengthen_9 in_Mo rfl (by decide : 11 < 17) wf_Mo_31 rfl hO2 rfl ?_
        refine bj_iload_n d_Mo_strengthen_12 rfl rfl ?_
        refine bj_aload_n d_Mo_strengthen_13 rfl rfl ?_
        refine bj_get d_Mo_strengthen_14 in_Mo rfl (by decide : 10 < 17) wf_Mo_28 rfl hO2 rfl ?_
        refine bj_iload_n d_Mo_strengthen_17 rfl rfl ?_
        refine bv_iald d_Mo_strengthen_18 0 rfl hd2 (by omega) (by first | omega | exact fb2 _ (by omega) | exact fbd _ (by omega) | exact fbm _ _ (by omega)) rfl ?_
        refine bv_iast d_Mo_strengthen_19 0 rfl h2 (by omega) (by first | omega | exact fb2 _ (by omega) | exact fbd _ (by omega) | exact fbm _ _ (by omega)) (fun N1 hN1 hO1 => ?_)
        refine bj_iinc (v := (nI (i + 1))) (L' := [some (.ref (ad 80)), some (.int (nI (i + 1))), none, none, none, none, none]) d_Mo_strengthen_20 rfl (bj_inc1 _) (by decide) rfl ?_
        refine bj_goto (tgt := 2) d_Mo_strengthen_23 (by decide) ?_
        exact ih_l1 (64 - (i + 1)) (by omega) (i + 1) N1 rfl (by omega) (hN1.to (fun j _ => by
          by_cases e : j = i
          · subst e; rw [va_up_self, if_pos (by omega)]
          · rw [va_up_ne _ _ e]
            by_cases e2 : j < i
            · rw [if_pos e2, if_pos (by omega)]
            · rw [if_neg e2, if_neg (by omega)])) (fun q hq => (hO1 q hq).trans (ho2 q hq))
  exact l1 0 M (Nat.zero_le _) (hst.to (fun j _ => (if_neg (Nat.not_lt_zero _)).symm)) (fun _ _ => rfl)
end M3
