/-! the reference: winners, orderAll (walks by gen/m_mo8.py) -/
section M8

/-- the list of those that do, as far as a -/
def wl_ok (c : Nat → ClassId) (M : bj_M) (W : Nat → Bool) (a : Nat) : Prop := ∃ ls, bv_I (c 0) M 92 8 ls ∧ ∀ d, d < a → W d = true → ls (mn_cnt W d) = nI d
def li_ok (c : Nat → ClassId) (M : bj_M) (f : Nat → Nat) (n : Nat) : Prop := ∃ ls, bv_I (c 0) M 92 8 ls ∧ ∀ j, j < n → ls j = nI (f j)
theorem wl_y {W : Nat → Bool} {a : Nat} {ls : Nat → Int32} (h : ∀ d, d < a → W d = true → ls (mn_cnt W d) = nI d) : ∀ d, d < a + 1 → W d = true → va_up ls (mn_cnt W a) (nI a) (mn_cnt W d) = nI d := by
  intro d hd hW
  by_cases e : d = a
  · rw [e, va_up_self]
  · have h1 : mn_cnt W d < mn_cnt W a := by
      have h2 := mn_cnt_t hW
      have h3 : mn_cnt W (d + 1) ≤ mn_cnt W a := by
        have : ∀ n, d + 1 ≤ n → mn_cnt W (d + 1) ≤ mn_cnt W n := by
          intro n
          induction n with
          | zero => intro h; omega
          | succ n ih =>
            intro h
            by_cases q : d + 1 = n + 1
            · rw [q]; exact Nat.le_refl _
            · exact Nat.le_trans (ih (by omega)) (Nat.le_add_right _ _)
        exact this a (by omega)
      omega
    rw [va_up_ne _ _ (by omega)]
    exact h d (by omega) hW
theorem wl_n {W : Nat → Bool} {a : Nat} {ls : Nat → Int32} (h : ∀ d, d < a → W d = true → ls (mn_cnt W d) = nI d) (hn : W a = false) : ∀ d, d < a + 1 → W d = true → ls (mn_cnt W d) = nI d := by
  intro d hd hW
  by_cases e : d = a
  · rw [e, hn] at hW; cases hW
  · exact h d (by omega) hW
/-- after a list was made: the number listed, the list -/
def q_list (c : Nat → ClassId) (ad : Nat → Nat) (M : bj_M) (N : Nat) (cd : Int32) (se : Bool) (op : Nat) (dw sg sz : Nat → Nat) (rk : Nat → Nat → Int32) (tm : Nat → Nat → Nat) (R : Nat → bj_M → Prop) : bj_R → bj_M → Prop := bj_ret (fun r M' => r = none ∧ mo_fr M M' ∧ mo_sc c M' ∧ ∃ n, n ≤ 8 ∧ mo_ok c ad M' N cd se op (nI n) dw sg sz rk tm ∧ R n M')
theorem mo_sc.l8 {c : Nat → ClassId} {M M' : bj_M} {g : Nat → Int32} (h : mo_sc c M) (h1 : bv_I (c 0) M' 92 8 g) (e : ∀ q, q ≠ 80 → q ≠ 92 → M' q = M q) : mo_sc c M' := by
  obtain ⟨pf, di, st, lk, ld, fa, ls, h1', h2, h3, h4, h5, h6, h7⟩ := h
  exact ⟨pf, di, st, lk, ld, fa, g, h1'.in (e _ (by omega) (by omega)), h2.in (e _ (by omega) (by omega)), h3.in (e _ (by omega) (by omega)), h4.in (e _ (by omega) (by omega)), h5.in (e _ (by omega) (by omega)), h6.in (e _ (by omega) (by omega)), h1⟩
theorem mo_sc.k8 {c : Nat → ClassId} {M M' : bj_M} {g1 g2 : Nat → Int32} (h : mo_sc c M) (h1 : bv_I (c 1) M' 89 64 g1) (h1b : bv_I (c 1) M' 90 64 g2) (e : ∀ q, q ≠ 89 → q ≠ 90 → M' q = M q) : mo_sc c M' := by
  obtain ⟨pf, di, st, lk, ld, fa, ls, h1', h2, h3, h4, h5, h6, h7⟩ := h
  exact ⟨pf, di, st, g1, g2, fa, ls, h1'.in (e _ (by omega) (by omega)), h2.in (e _ (by omega) (by omega)), h3.in (e _ (by omega) (by omega)), h1, h1b, h6.in (e _ (by omega) (by omega)), h7.in (e _ (by omega) (by omega))⟩
theorem ub_t {f : Nat → Nat → Nat} {N a : Nat} (h : ∀ b, b < N → f b a ≤ f a b) : ubn f N a = true := decide_eq_true h
theorem ub_f {f : Nat → Nat → Nat} {N a : Nat} (h : ¬ ∀ b, b < N → f b a ≤ f a b) : ubn f N a = false := decide_eq_false h
/-- sought from above, told by f -/
def dm_ok (q : Nat → Bool) (f : Nat → Nat) (n c : Nat) (x : Int32) : Prop := (x = -1 ∧ ∀ j, c ≤ j → j < n → q j = false) ∨ ∃ d, x = nI (f d) ∧ c ≤ d ∧ d < n ∧ q d = true ∧ ∀ j, c ≤ j → j < d → q j = false
theorem dm_y {q : Nat → Bool} {f : Nat → Nat} {n c : Nat} (hc : 0 < c) (hc8 : c ≤ n) (h1 : q (c - 1) = true) : dm_ok q f n (c - 1) (nI (f (c - 1))) := Or.inr ⟨c - 1, rfl, Nat.le_refl _, by omega, h1, fun j h2 h3 => by omega⟩
theorem dm_n {q : Nat → Bool} {f : Nat → Nat} {n c : Nat} {x : Int32} (h : dm_ok q f n c x) (hc : 0 < c) (h1 : q (c - 1) = false) : dm_ok q f n (c - 1) x := by
  rcases h with ⟨e, h2⟩ | ⟨d, e, h2, h3, h4, h5⟩
  · exact Or.inl ⟨e, fun j h3 h4 => by
      by_cases e2 : j = c - 1
      · rw [e2]; exact h1
      · exact h2 j (by omega) h4⟩
  · exact Or.inr ⟨d, e, by omega, h3, h4, fun j h6 h7 => by
      by_cases e2 : j = c - 1
      · rw [e2]; exact h1
      · exact h5 j (by omega) h7⟩
theorem dm_e {q : Nat → Bool} {f : Nat → Nat} {n d : Nat} {x : Int32} (h : dm_ok q f n 0 x) (hf : ft q n = some d) : x = nI (f d) := by
  obtain ⟨g1, g2, g3⟩ := ft_eq.mp hf
  rcases h with ⟨-, h2⟩ | ⟨d', e, h2, h3, h4, h5⟩
  · rw [h2 d (Nat.zero_le _) g1] at g2; cases g2
  · have : d' = d := by
      rcases Nat.lt_trichotomy d' d with q | q | q
      · rw [g3 d' q] at h4; cases h4
      · exact q
      · rw [h5 d (Nat.zero_le _) q] at g2; cases g2
    rw [e, this]
/-- those gone -/
def gn_ok (L : Nat → Bool) (N : Nat) (x : Int32) : Prop := ∀ y, y < N → bt x y = !(L y)
theorem gn_0 {lk : Nat → Nat → Bool} {dw : Nat → Nat} {N : Nat} : gn_ok (ln_left lk dw N 0) N (nI 0) := fun y hy => by
  rw [bt_nI0]
  show false = !(decide (y < N))
  rw [decide_eq_true hy]
  rfl
theorem gn_s {lk : Nat → Nat → Bool} {dw : Nat → Nat} {N j : Nat} {x : Int32} (hN : N ≤ 8) (h : gn_ok (ln_left lk dw N j) N x) (ha : ln_at lk dw N j < N) : gn_ok (ln_left lk dw N (j + 1)) N (x ||| ((nI 1) <<< ((nI (ln_at lk dw N j)) &&& 31))) := fun y hy => by
  rw [b_or, h y hy, bt_one' (by omega) (by omega)]
  show _ = !(ln_left lk dw N j y && !(y == ln_nx lk dw N (ln_left lk dw N j)))
  rw [Bool.not_and, Bool.not_not]
  rfl
theorem gq_t {lk : Nat → Nat → Bool} {dw : Nat → Nat} {N i : Nat} {L : Nat → Bool} (h1 : L (dw i) = true) (h2 : ∀ b, b < N → ¬ (L b = true ∧ lk b (dw i) = true)) : ln_q lk dw N L i = true := by
  unfold ln_q
  rw [h1, decide_eq_true (fun b hb hL => by
    cases e : lk b (dw i) with
    | false => rfl
    | true => exact absurd ⟨hL, e⟩ (h2 b hb))]
  rfl
theorem gq_f {lk : Nat → Nat → Bool} {dw : Nat → Nat} {N i : Nat} {L : Nat → Bool} (h : ¬ (L (dw i) = true ∧ ∀ b, b < N → ¬ (L b = true ∧ lk b (dw i) = true))) : ln_q lk dw N L i = false := by
  rw [Bool.eq_false_iff]
  intro q
  unfold ln_q at q
  rw [Bool.and_eq_true] at q
  exact h ⟨q.1, fun b hb r => by
    have := of_decide_eq_true q.2 b hb r.1
    rw [r.2] at this
    cases this⟩
variable (l : Launch) (D : va_G) (c : Nat → ClassId) (ad : Nat → Nat) (M : bj_M)
set_option maxRecDepth 100000 in
set_option maxHeartbeats 4000000 in
/-- winners -/
theorem t_Mo_winners {N op : Nat} {cd li : Int32} {se : Bool} {dw sg sz : Nat → Nat} {rk : Nat → Nat → Int32} {tm : Nat → Nat → Nat} (hm0 : mo_ok c ad M N cd se op li dw sg sz rk tm) (hN : N ≤ 8) {p : Nat → Nat → Nat} (hcn : cn_ok c M N p) (hz72 : ∀ a b, drn (pz N p) a b ≤ 720000) (hsc : mo_sc c M) : bj_T (bw_G l D c) Y_Mo_winners 2 (0, 0, 0, 0) ad (q_list c ad M N cd se op dw sg sz rk tm (fun n M' => n = mn_cnt (ubn (mg_F (drn p) N) N) N ∧ wl_ok c M' (ubn (mg_F (drn p) N) N) N)) [.ref (ad 80)] M := by
  show bj_S _ _ _ _ _ _ 0 0 0 [some (.ref (ad 80)), none, none, none] [] M
  obtain ⟨pf, di, st0, lk0, ld0, fa0, ls0, g1, g2, g3, g4, g5, g6, g7⟩ := id hsc
  refine bj_aload_n d_Mo_winners_0 rfl rfl ?_
  refine bj_cvR sv_Mo_90 d_Mo_winners_1 (t_Mo_strengthen l D c ad M hm0 hN (B := 720000) (by decide) hcn.2 (fun j _ => hz72 _ _) g3) rfl rfl (by decide) (by decide) (by decide) (Nat.le_of_ble_eq_true rfl) rfl hm0.1 rfl rfl (fun v1 N1 hq1 => ?_)
  obtain ⟨rfl, ⟨e, he, hfl, hcl⟩, hE⟩ := hq1
  show bj_S (bw_G l D c) Y_Mo_winners 2 (0, 0, 0, 0) ad (q_list c ad M N cd se op dw sg sz rk tm (fun n M' => n = mn_cnt (ubn (mg_F (drn p) N) N) N ∧ wl_ok c M' (ubn (mg_F (drn p) N) N) N)) 0 0 4 [some (.ref (ad 80)), none, none, none] [] N1
  have hm1 := hm0.in (M' := N1) (fun q q1 q2 => hE q (by omega))
  have eb : ∀ j, j < 64 → e j < 2 ^ 31 := fun j hj => Nat.lt_of_le_of_lt (hfl.2.2.1 j hj) (by decide)
  have hes : ∀ a b, a < N → b < N → a ≠ b → e (8 * a + b) = mg_F (drn p) N a b := fun a b ha hb hab => fl_str hN (fun _ _ => rfl) hfl hcl ha hb hab
  refine bj_aload_n d_Mo_winners_4 rfl rfl ?_
  refine bj_iconst (v := (nI 0)) d_Mo_winners_5 (by decide) ?_
  refine bj_put d_Mo_winners_6 in_Mo ok_Mo nm_Mo rfl (by decide : 15 < 17) wf_Mo_101 rfl rfl rfl rfl rfl (Nat.le_of_ble_eq_true rfl) hm1.1 ?_
  have hm2 := hm1.hd (cd' := cd) (se' := se) (op' := op) (li' := (nI 0))
  have hx2 : mo_fx N1 (va_up N1 80 (some (.inr (5, mo_F ad N cd se op (nI 0))))) := mo_fx.rf.at (j := 80) (by omega) (fun q hq => va_up_ne _ _ hq)
  have hw2 : ∀ q, q ≠ 80 → (va_up N1 80 (some (.inr (5, mo_F ad N cd se op (nI 0))))) q = N1 q := fun q hq => va_up_ne _ _ hq
  show bj_S _ _ _ _ _ _ 0 0 _ _ [] (va_up N1 80 (some (.inr (5, mo_F ad N cd se op (nI 0)))))
  generalize va_up N1 80 (some (.inr (5, mo_F ad N cd se op (nI 0)))) = P2 at hm2 hx2 hw2 ⊢
  refine bj_iconst (v := (nI 0)) d_Mo_winners_9 (by decide) ?_
  refine bj_istore_n (L' := [some (.ref (ad 80)), some (.int (nI 0)), none, none]) d_Mo_winners_10 rfl (by decide) rfl ?_
  have l1 : ∀ (a : Nat), ∀ (M2 : bj_M), ∀ (ls : Nat → Int32), ∀ (z2 : Option Value), ∀ (z3 : Option Value), (a ≤ N) → (mo_ok c ad M2 N cd se op (nI (mn_cnt (ubn (mg_F (drn p) N) N) a)) dw sg sz rk tm) → (bv_I (c 0) M2 92 8 ls) → (∀ d, d < a → (ubn (mg_F (drn p) N) N) d = true → ls (mn_cnt (ubn (mg_F (drn p) N) N) d) = nI d) → (∀ q, q ≠ 80 → q ≠ 92 → M2 q = N1 q) → bj_S (bw_G l D c) Y_Mo_winners 2 (0, 0, 0, 0) ad (q_list c ad M N cd se op dw sg sz rk tm (fun n M' => n = mn_cnt (ubn (mg_F (drn p) N) N) N ∧ wl_ok c M' (ubn (mg_F (drn p) N) N) N)) 0 0 11 [some (.ref (ad 80)), some (.int (nI a)), z2, z3] [] M2 := by
    intro a M2 ls z2 z3
    induction hd_l1 : N - a using Nat.strongRecOn generalizing a M2 ls z2 z3 with
    | ind d_l1 ih_l1 =>
      intro ha h2 hls hw hf
      have he2 := he.in (hf 88 (by decide) (by decide))
      refine bj_iload_n d_Mo_winners_11 rfl rfl ?_
      refine bj_aload_n d_Mo_winners_12 rfl rfl ?_
      refine bj_get d_Mo_winners_13 in_Mo rfl (by decide : 0 < 17) wf_Mo_47 rfl h2.1 rfl ?_
      refine bj_icmp_geN (tgt := 107) d_Mo_winners_16 (by decide) (by first | omega | exact eb _ (by omega)) (by first | omega | exact eb _ (by omega)) (fun h16 => ?_) (fun h16 => ?_)
      · exact bj_vret d_Mo_winners_107 rfl (Nat.le_refl _) (Nat.le_refl _) ⟨rfl, fun q hq => (hf q (by omega) (by omega)).trans (hE q (by omega)), (hsc.s8 he hE).l8 hls hf, mn_cnt (ubn (mg_F (drn p) N) N) N, (by have := mn_cnt_le (ubn (mg_F (drn p) N) N) N; omega), (show a = N by omega) ▸ h2, rfl, ls, hls, fun d hd hW => hw d (by omega) hW⟩
      · refine bj_iconst (v := (nI 1)) d_Mo_winners_19 (by decide) ?_
        refine bj_istore_n (L' := [some (.ref (ad 80)), some (.int (nI a)), some (.int (nI 1)), z3]) d_Mo_winners_20 rfl (by decide) rfl ?_
        refine bj_iconst (v := (nI 0)) d_Mo_winners_21 (by decide) ?_
        refine bj_istore_n (L' := [some (.ref (ad 80)), some (.int (nI a)), some (.int (nI 1)), some (.int (nI 0))]) d_Mo_winners_22 rfl (by decide) rfl ?_
        have l2 : ∀ (b : Nat), ∀ (g : Bool), (b ≤ N) → (g = true ↔ ∀ x, x < b → mg_F (drn p) N x a ≤ mg_F (drn p) N a x) → bj_S (bw_G l D c) Y_Mo_winners 2 (0, 0, 0, 0) ad (q_list c ad M N cd se op dw sg sz rk tm (fun n M' => n = mn_cnt (ubn (mg_F (drn p) N) N) N ∧ wl_ok c M' (ubn (mg_F (drn p) N) N) N)) 0 0 23 [some (.ref (ad 80)), some (.int (nI a)), some (.int (bt_n g)), some (.int (nI b))] [] M2 := by
          intro b g
          induction hd_l2 : N - b using Nat.strongRecOn generalizing b g with
          | ind d_l2 ih_l2 =>
            intro hb hg
            refine bj_iload_n d_Mo_winners_23 rfl rfl ?_
            refine bj_aload_n d_Mo_winners_24 rfl rfl ?_
            refine bj_get d_Mo_winners_25 in_Mo rfl (by decide : 0 < 17) wf_Mo_47 rfl h2.1 rfl ?_
            refine bj_icmp_geN (tgt := 77) d_Mo_winners_28 (by decide) (by first | omega | exact eb _ (by omega)) (by first | omega | exact eb _ (by omega)) (fun h28 => ?_) (fun h28 => ?_)
            · have hbN : b = N := by omega
              subst hbN
              refine bj_iload_n d_Mo_winners_77 rfl rfl ?_
              refine bj_if_eq (tgt := 101) d_Mo_winners_78 (by decide) (fun h78 => ?_) (fun h78 => ?_)
              · have hWf : (ubn (mg_F (drn p) b) b) a = false := ub_f (fun q => by rw [hg.mpr q] at h78; exact absurd h78 (by decide))
                refine bj_iinc (v := (nI (a + 1))) (L' := [some (.ref (ad 80)), some (.int (nI (a + 1))), some (.int (bt_n g)), some (.int (nI b))]) d_Mo_winners_101 rfl (bj_inc1 _) (by decide) rfl ?_
                refine bj_goto (tgt := 11) d_Mo_winners_104 (by decide) ?_
                exact ih_l1 (b - (a + 1)) (by omega) (a + 1) M2 ls _ _ rfl (by omega) (by rw [← mn_cnt_f hWf]; exact h2) hls (wl_n hw hWf) hf
              · have hWt : (ubn (mg_F (drn p) b) b) a = true := ub_t (hg.mp (bt_nn h78))
                have hlt : mn_cnt (ubn (mg_F (drn p) b) b) a ≤ a := mn_cnt_le _ _
                refine bj_aload_n d_Mo_winners_81 rfl rfl ?_
                refine bj_get d_Mo_winners_82 in_Mo rfl (by decide : 16 < 17) wf_Mo_44 rfl h2.1 rfl ?_
                refine bj_aload_n d_Mo_winners_85 rfl rfl ?_
                refine bj_get d_Mo_winners_86 in_Mo rfl (by decide : 15 < 17) wf_Mo_101 rfl h2.1 rfl ?_
                refine bj_iload_n d_Mo_winners_89 rfl rfl ?_
                refine bv_iast d_Mo_winners_90 0 rfl hls (by omega) (by first | omega | exact eb _ (by omega)) (fun N2 hN2 hO2 => ?_)
                have h3 := h2.in (M' := N2) (fun q q1 q2 => hO2 q (by omega))
                refine bj_aload_n d_Mo_winners_91 rfl rfl ?_
                refine bj_dup d_Mo_winners_92 rfl ?_
                refine bj_get d_Mo_winners_93 in_Mo rfl (by decide : 15 < 17) wf_Mo_101 rfl h3.1 rfl ?_
                refine bj_iconst (v := (nI 1)) d_Mo_winners_96 (by decide) ?_
                refine bj_iadd (v := (nI ((mn_cnt (ubn (mg_F (drn p) b) b) a) + 1))) d_Mo_winners_97 (nI_add _ _) ?_
                refine bj_put d_Mo_winners_98 in_Mo ok_Mo nm_Mo rfl (by decide : 15 < 17) wf_Mo_101 rfl rfl rfl rfl rfl (Nat.le_of_ble_eq_true rfl) h3.1 ?_
                have h5 := h3.hd (cd' := cd) (se' := se) (op' := op) (li' := nI (mn_cnt (ubn (mg_F (drn p) b) b) a + 1))
                have h5l : bv_I (c 0) (va_up N2 80 (some (.inr (5, mo_F ad b cd se op (nI (mn_cnt (ubn (mg_F (drn p) b) b) a + 1)))))) 92 8 (va_up ls (mn_cnt (ubn (mg_F (drn p) b) b) a) (nI a)) := hN2.in (va_up_ne _ _ (by decide))
                have h5f : ∀ q, q ≠ 80 → q ≠ 92 → (va_up N2 80 (some (.inr (5, mo_F ad b cd se op (nI (mn_cnt (ubn (mg_F (drn p) b) b) a + 1)))))) q = N1 q := fun q q1 q2 => (va_up_ne _ _ q1).trans ((hO2 q q2).trans (hf q q1 q2))
                show bj_S _ _ _ _ _ _ 0 0 _ _ [] (va_up N2 80 (some (.inr (5, mo_F ad b cd se op (nI (mn_cnt (ubn (mg_F (drn p) b) b) a + 1))))))
                generalize va_up N2 80 (some (.inr (5, mo_F ad b cd se op (nI (mn_cnt (ubn (mg_F (drn p) b) b) a + 1))))) = P5 at h5 h5l h5f ⊢
                refine bj_iinc (v := (nI (a + 1))) (L' := [some (.ref (ad 80)), some (.int (nI (a + 1))), some (.int (bt_n g)), some (.int (nI b))]) d_Mo_winners_101 rfl (bj_inc1 _) (by decide) rfl ?_
                refine bj_goto (tgt := 11) d_Mo_winners_104 (by decide) ?_
                exact ih_l1 (b - (a + 1)) (by omega) (a + 1) P5 _ _ _ rfl (by omega) (by rw [← mn_cnt_t hWt]; exact h5) h5l (wl_y hw) h5f
            · refine bj_iload_n d_Mo_winners_31 rfl rfl ?_
              refine bj_if_eq (tgt := 69) d_Mo_winners_32 (by decide) (fun h32 => ?_) (fun h32 => ?_)
              · refine bj_iconst (v := (nI 0)) d_Mo_winners_69 (by decide) ?_
                refine bj_istore_n (L' := [some (.ref (ad 80)), some (.int (nI a)), some (.int (nI 0)), some (.int (nI b))]) d_Mo_winners_70 rfl (by decide) rfl ?_
                refine bj_iinc (v := (nI (b + 1))) (L' := [some (.ref (ad 80)), some (.int (nI a)), some (.int (nI 0)), some (.int (nI (b + 1)))]) d_Mo_winners_71 rfl (bj_inc1 _) (by decide) rfl ?_
                refine bj_goto (tgt := 23) d_Mo_winners_74 (by decide) ?_
                exact ih_l2 (N - (b + 1)) (by omega) (b + 1) false rfl (by omega) ⟨fun q => (by cases q), fun q => by
                  first | (have := hg.mpr (fun x hx => q x (by omega)); rw [this] at h32; exact absurd h32 (by decide)) | (have q2 := q b (by omega); rw [hes a b (by omega) (by omega) h37, hes b a (by omega) (by omega) (Ne.symm h37)] at h62; omega)⟩
              · refine bj_iload_n d_Mo_winners_35 rfl rfl ?_
                refine bj_iload_n d_Mo_winners_36 rfl rfl ?_
                refine bj_icmp_eqN (tgt := 65) d_Mo_winners_37 (by decide) (by first | omega | exact eb _ (by omega)) (by first | omega | exact eb _ (by omega)) (fun h37 => ?_) (fun h37 => ?_)
                · refine bj_iconst (v := (nI 1)) d_Mo_winners_65 (by decide) ?_
                  refine bj_goto (tgt := 70) d_Mo_winners_66 (by decide) ?_
                  refine bj_istore_n (L' := [some (.ref (ad 80)), some (.int (nI a)), some (.int (nI 1)), some (.int (nI b))]) d_Mo_winners_70 rfl (by decide) rfl ?_
                  refine bj_iinc (v := (nI (b + 1))) (L' := [some (.ref (ad 80)), some (.int (nI a)), some (.int (nI 1)), some (.int (nI (b + 1)))]) d_Mo_winners_71 rfl (bj_inc1 _) (by decide) rfl ?_
                  refine bj_goto (tgt := 23) d_Mo_winners_74 (by decide) ?_
                  exact ih_l2 (N - (b + 1)) (by omega) (b + 1) true rfl (by omega) ⟨fun _ x hx => by
                    rcases Nat.lt_or_ge x b with q | q
                    · exact hg.mp (bt_nn h32) x q
                    · rw [show x = b by omega]
                      first | (rw [h37]; exact Nat.le_refl _) | (rw [hes a b (by omega) (by omega) h37, hes b a (by omega) (by omega) (Ne.symm h37)] at h62; exact h62), fun _ => rfl⟩
                · refine bj_aload_n d_Mo_winners_40 rfl rfl ?_
                  refine bj_get d_Mo_winners_41 in_Mo rfl (by decide : 11 < 17) wf_Mo_31 rfl h2.1 rfl ?_
                  refine bj_bipush (v := (nI 8)) d_Mo_winners_44 (by decide) ?_
                  refine bj_iload_n d_Mo_winners_46 rfl rfl ?_
                  refine bj_imul (v := (nI (8 * a))) d_Mo_winners_47 (pk_mul _ _) ?_
                  refine bj_iload_n d_Mo_winners_48 rfl rfl ?_
                  refine bj_iadd (v := (nI ((8 * a) + b))) d_Mo_winners_49 (nI_add _ _) ?_
                  refine bv_iald d_Mo_winners_50 0 rfl he2 (by omega) (by first | omega | exact eb _ (by omega)) rfl ?_
                  refine bj_aload_n d_Mo_winners_51 rfl rfl ?_
                  refine bj_get d_Mo_winners_52 in_Mo rfl (by decide : 11 < 17) wf_Mo_31 rfl h2.1 rfl ?_
                  refine bj_bipush (v := (nI 8)) d_Mo_winners_55 (by decide) ?_
                  refine bj_iload_n d_Mo_winners_57 rfl rfl ?_
                  refine bj_imul (v := (nI (8 * b))) d_Mo_winners_58 (pk_mul _ _) ?_
                  refine bj_iload_n d_Mo_winners_59 rfl rfl ?_
                  refine bj_iadd (v := (nI ((8 * b) + a))) d_Mo_winners_60 (nI_add _ _) ?_
                  refine bv_iald d_Mo_winners_61 0 rfl he2 (by omega) (by first | omega | exact eb _ (by omega)) rfl ?_
                  refine bj_icmp_ltN (tgt := 69) d_Mo_winners_62 (by decide) (by first | omega | exact eb _ (by omega)) (by first | omega | exact eb _ (by omega)) (fun h62 => ?_) (fun h62 => ?_)
                  · refine bj_iconst (v := (nI 0)) d_Mo_winners_69 (by decide) ?_
                    refine bj_istore_n (L' := [some (.ref (ad 80)), some (.int (nI a)), some (.int (nI 0)), some (.int (nI b))]) d_Mo_winners_70 rfl (by decide) rfl ?_
                    refine bj_iinc (v := (nI (b + 1))) (L' := [some (.ref (ad 80)), some (.int (nI a)), some (.int (nI 0)), some (.int (nI (b + 1)))]) d_Mo_winners_71 rfl (bj_inc1 _) (by decide) rfl ?_
                    refine bj_goto (tgt := 23) d_Mo_winners_74 (by decide) ?_
                    exact ih_l2 (N - (b + 1)) (by omega) (b + 1) false rfl (by omega) ⟨fun q => (by cases q), fun q => by
                      first | (have := hg.mpr (fun x hx => q x (by omega)); rw [this] at h32; exact absurd h32 (by decide)) | (have q2 := q b (by omega); rw [hes a b (by omega) (by omega) h37, hes b a (by omega) (by omega) (Ne.symm h37)] at h62; omega)⟩
                  · refine bj_iconst (v := (nI 1)) d_Mo_winners_65 (by decide) ?_
                    refine bj_goto (tgt := 70) d_Mo_winners_66 (by decide) ?_
                    refine bj_istore_n (L' := [some (.ref (ad 80)), some (.int (nI a)), some (.int (nI 1)), some (.int (nI b))]) d_Mo_winners_70 rfl (by decide) rfl ?_
                    refine bj_iinc (v := (nI (b + 1))) (L' := [some (.ref (ad 80)), some (.int (nI a)), some (.int (nI 1)), some (.int (nI (b + 1)))]) d_Mo_winners_71 rfl (bj_inc1 _) (by decide) rfl ?_
                    refine bj_goto (tgt := 23) d_Mo_winners_74 (by decide) ?_
                    exact ih_l2 (N - (b + 1)) (by omega) (b + 1) true rfl (by omega) ⟨fun _ x hx => by
                      rcases Nat.lt_or_ge x b with q | q
                      · exact hg.mp (bt_nn h32) x q
                      · rw [show x = b by omega]
                        first | (rw [h37]; exact Nat.le_refl _) | (rw [hes a b (by omega) (by omega) h37, hes b a (by omega) (by omega) (Ne.symm h37)] at h62; exact h62), fun _ => rfl⟩
        exact l2 0 true (Nat.zero_le _) ⟨fun _ x hx => absurd hx (Nat.not_lt_zero _), fun _ => rfl⟩
  exact l1 0 P2 _ _ _ (Nat.zero_le _) hm2 ((g7.in (hE 92 (by decide))).in (hw2 92 (by decide))) (fun d hd => absurd hd (Nat.not_lt_zero _)) (fun q q1 q2 => hw2 q q1)
end M8
