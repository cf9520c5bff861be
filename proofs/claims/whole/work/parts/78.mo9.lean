/-! the reference: orderAll (walks by gen/m_mo9.py) -/
section M9
variable (l : Launch) (D : va_G) (c : Nat → ClassId) (ad : Nat → Nat) (M : bj_M)
set_option maxRecDepth 100000 in
set_option maxHeartbeats 4000000 in
/-- orderAll -/
theorem t_Mo_orderAll {N op : Nat} {cd li : Int32} {se : Bool} {dw sg sz : Nat → Nat} {rk : Nat → Nat → Int32} {tm : Nat → Nat → Nat} (hm0 : mo_ok c ad M N cd se op li dw sg sz rk tm) (hN : N ≤ 8) {p : Nat → Nat → Nat} {ps : Nat → Nat} (hcn : cn_ok c M N p) (hz31 : ∀ a b, pz N p a b < 2 ^ 31) (hpm : pm_ok N dw ps) (hsc : mo_sc c M) : bj_T (bw_G l D c) Y_Mo_orderAll 3 (0, 0, 0, 0) ad (q_list c ad M N cd se op dw sg sz rk tm (fun n M' => n = N ∧ ∃ lk, ord_is p N dw lk ∧ li_ok c M' (ln_at lk dw N) N)) [.ref (ad 80)] M := by
  show bj_S _ _ _ _ _ _ 0 0 0 [some (.ref (ad 80)), none, none, none, none, none, none] [] M
  obtain ⟨pf, di, st0, lk0, ld0, fa0, ls0, g1, g2, g3, g4, g5, g6, g7⟩ := id hsc
  refine bj_aload_n d_Mo_orderAll_0 rfl rfl ?_
  refine bj_cvR sv_Mo_110 d_Mo_orderAll_1 (t_Mo_lockAll l D c ad M hm0 hN hcn hz31 hpm g4 g5) rfl rfl (by decide) (by decide) (by decide) (Nat.le_of_ble_eq_true rfl) rfl hm0.1 rfl rfl (fun v1 N1 hq1 => ?_)
  obtain ⟨rfl, ⟨e, pn, hso, hk8, hk9⟩, hE⟩ := hq1
  show bj_S (bw_G l D c) Y_Mo_orderAll 3 (0, 0, 0, 0) ad (q_list c ad M N cd se op dw sg sz rk tm (fun n M' => n = N ∧ ∃ lk, ord_is p N dw lk ∧ li_ok c M' (ln_at lk dw N) N)) 0 0 4 [some (.ref (ad 80)), none, none, none, none, none, none] [] N1
  have hm1 := hm0.in (M' := N1) (fun q q1 q2 => hE q (by omega) (by omega))
  have hfree := so_free hpm hso
  refine bj_iconst (v := (nI 0)) d_Mo_orderAll_4 (by decide) ?_
  refine bj_istore_n (L' := [some (.ref (ad 80)), some (.int (nI 0)), none, none, none, none, none]) d_Mo_orderAll_5 rfl (by decide) rfl ?_
  refine bj_aload_n d_Mo_orderAll_6 rfl rfl ?_
  refine bj_iconst (v := (nI 0)) d_Mo_orderAll_7 (by decide) ?_
  refine bj_put d_Mo_orderAll_8 in_Mo ok_Mo nm_Mo rfl (by decide : 15 < 17) wf_Mo_101 rfl rfl rfl rfl rfl (Nat.le_of_ble_eq_true rfl) hm1.1 ?_
  have hm2 := hm1.hd (cd' := cd) (se' := se) (op' := op) (li' := (nI 0))
  have hx2 : mo_fx N1 (va_up N1 80 (some (.inr (5, mo_F ad N cd se op (nI 0))))) := mo_fx.rf.at (j := 80) (by omega) (fun q hq => va_up_ne _ _ hq)
  have hw2 : ∀ q, q ≠ 80 → (va_up N1 80 (some (.inr (5, mo_F ad N cd se op (nI 0))))) q = N1 q := fun q hq => va_up_ne _ _ hq
  show bj_S _ _ _ _ _ _ 0 0 _ _ [] (va_up N1 80 (some (.inr (5, mo_F ad N cd se op (nI 0)))))
  generalize va_up N1 80 (some (.inr (5, mo_F ad N cd se op (nI 0)))) = P2 at hm2 hx2 hw2 ⊢
  have l1 : ∀ (j : Nat), ∀ (M2 : bj_M), ∀ (x : Int32), ∀ (ls : Nat → Int32), ∀ (z2 : Option Value), ∀ (z3 : Option Value), ∀ (z4 : Option Value), ∀ (z5 : Option Value), ∀ (z6 : Option Value), (j ≤ N) → (mo_ok c ad M2 N cd se op (nI j) dw sg sz rk tm) → (bv_I (c 0) M2 92 8 ls) → (∀ t, t < j → ls t = nI (ln_at (so_lk e pn) dw N t)) → (gn_ok (ln_left (so_lk e pn) dw N j) N x) → (∀ q, q ≠ 80 → q ≠ 92 → M2 q = N1 q) → bj_S (bw_G l D c) Y_Mo_orderAll 3 (0, 0, 0, 0) ad (q_list c ad M N cd se op dw sg sz rk tm (fun n M' => n = N ∧ ∃ lk, ord_is p N dw lk ∧ li_ok c M' (ln_at lk dw N) N)) 0 0 11 [some (.ref (ad 80)), some (.int x), z2, z3, z4, z5, z6] [] M2 := by
    intro j M2 x ls z2 z3 z4 z5 z6
    induction hd_l1 : N - j using Nat.strongRecOn generalizing j M2 x ls z2 z3 z4 z5 z6 with
    | ind d_l1 ih_l1 =>
      intro hj h2 hls hl hgn hf
      have hk2 := hk8.in (hf 89 (by decide) (by decide))
      refine bj_aload_n d_Mo_orderAll_11 rfl rfl ?_
      refine bj_get d_Mo_orderAll_12 in_Mo rfl (by decide : 15 < 17) wf_Mo_101 rfl h2.1 rfl ?_
      refine bj_aload_n d_Mo_orderAll_15 rfl rfl ?_
      refine bj_get d_Mo_orderAll_16 in_Mo rfl (by decide : 0 < 17) wf_Mo_47 rfl h2.1 rfl ?_
      refine bj_icmp_geN (tgt := 161) d_Mo_orderAll_19 (by decide) (by omega) (by omega) (fun h19 => ?_) (fun h19 => ?_)
      · exact bj_vret d_Mo_orderAll_161 rfl (Nat.le_refl _) (Nat.le_refl _) ⟨rfl, fun q hq => (hf q (by omega) (by omega)).trans (hE q (by omega) (by omega)), (hsc.k8 hk8 hk9 hE).l8 hls hf, N, hN, (show j = N by omega) ▸ h2, rfl, (so_lk e pn), ⟨ps, e, pn, hpm, hso, rfl⟩, ls, hls, fun t ht => hl t (by omega)⟩
      · refine bj_iconst (v := (-1)) d_Mo_orderAll_22 (by decide) ?_
        refine bj_istore_n (L' := [some (.ref (ad 80)), some (.int x), some (.int (-1)), z3, z4, z5, z6]) d_Mo_orderAll_23 rfl (by decide) rfl ?_
        refine bj_aload_n d_Mo_orderAll_24 rfl rfl ?_
        refine bj_get d_Mo_orderAll_25 in_Mo rfl (by decide : 0 < 17) wf_Mo_47 rfl h2.1 rfl ?_
        refine bj_iconst (v := (nI 1)) d_Mo_orderAll_28 (by decide) ?_
        refine bj_isub (v := (dc N)) d_Mo_orderAll_29 rfl ?_
        refine bj_istore_n (L' := [some (.ref (ad 80)), some (.int x), some (.int (-1)), some (.int (dc N)), z4, z5, z6]) d_Mo_orderAll_30 rfl (by decide) rfl ?_
        obtain ⟨d9, hd9, hft, hat⟩ := hfree j h19
        have l2 : ∀ (c0 : Nat), ∀ (y : Int32), ∀ (z4 : Option Value), ∀ (z5 : Option Value), ∀ (z6 : Option Value), (c0 ≤ N) → (dm_ok (ln_q (so_lk e pn) dw N (ln_left (so_lk e pn) dw N j)) dw N c0 y) → bj_S (bw_G l D c) Y_Mo_orderAll 3 (0, 0, 0, 0) ad (q_list c ad M N cd se op dw sg sz rk tm (fun n M' => n = N ∧ ∃ lk, ord_is p N dw lk ∧ li_ok c M' (ln_at lk dw N) N)) 0 0 31 [some (.ref (ad 80)), some (.int x), some (.int y), some (.int (dc c0)), z4, z5, z6] [] M2 := by
          intro c0 y z4 z5 z6
          induction hd_l2 : c0 + 1 using Nat.strongRecOn generalizing c0 y z4 z5 z6 with
          | ind d_l2 ih_l2 =>
            intro hc8 hdm
            refine bj_iload_n d_Mo_orderAll_31 rfl rfl ?_
            refine bj_if_lt (tgt := 132) d_Mo_orderAll_32 (by decide) (fun h32 => ?_) (fun h32 => ?_)
            · have hc0 : c0 = 0 := by
                rcases Nat.eq_zero_or_pos c0 with q | q
                · exact q
                · rw [dc_p q] at h32; exact absurd h32 (nI_pos (by omega))
              subst hc0
              have hy9 := dm_e hdm hft
              rw [← hat] at hy9
              subst hy9
              have hatN : ln_at (so_lk e pn) dw N j < N := by rw [hat]; exact (hpm.1 d9 hd9).1
              refine bj_aload_n d_Mo_orderAll_132 rfl rfl ?_
              refine bj_get d_Mo_orderAll_133 in_Mo rfl (by decide : 16 < 17) wf_Mo_44 rfl h2.1 rfl ?_
              refine bj_aload_n d_Mo_orderAll_136 rfl rfl ?_
              refine bj_get d_Mo_orderAll_137 in_Mo rfl (by decide : 15 < 17) wf_Mo_101 rfl h2.1 rfl ?_
              refine bj_iload_n d_Mo_orderAll_140 rfl rfl ?_
              refine bv_iast d_Mo_orderAll_141 0 rfl hls (by omega) (by omega) (fun N2 hN2 hO2 => ?_)
              have h3 := h2.in (M' := N2) (fun q q1 q2 => hO2 q (by omega))
              refine bj_aload_n d_Mo_orderAll_142 rfl rfl ?_
              refine bj_dup d_Mo_orderAll_143 rfl ?_
              refine bj_get d_Mo_orderAll_144 in_Mo rfl (by decide : 15 < 17) wf_Mo_101 rfl h3.1 rfl ?_
              refine bj_iconst (v := (nI 1)) d_Mo_orderAll_147 (by decide) ?_
              refine bj_iadd (v := (nI (j + 1))) d_Mo_orderAll_148 (nI_add _ _) ?_
              refine bj_put d_Mo_orderAll_149 in_Mo ok_Mo nm_Mo rfl (by decide : 15 < 17) wf_Mo_101 rfl rfl rfl rfl rfl (Nat.le_of_ble_eq_true rfl) h3.1 ?_
              have h5 := h3.hd (cd' := cd) (se' := se) (op' := op) (li' := nI (j + 1))
              have h5l : bv_I (c 0) (va_up N2 80 (some (.inr (5, mo_F ad N cd se op (nI (j + 1)))))) 92 8 (va_up ls j (nI (ln_at (so_lk e pn) dw N j))) := hN2.in (va_up_ne _ _ (by decide))
              have h5f : ∀ q, q ≠ 80 → q ≠ 92 → (va_up N2 80 (some (.inr (5, mo_F ad N cd se op (nI (j + 1)))))) q = N1 q := fun q q1 q2 => (va_up_ne _ _ q1).trans ((hO2 q q2).trans (hf q q1 q2))
              show bj_S _ _ _ _ _ _ 0 0 _ _ [] (va_up N2 80 (some (.inr (5, mo_F ad N cd se op (nI (j + 1))))))
              generalize va_up N2 80 (some (.inr (5, mo_F ad N cd se op (nI (j + 1))))) = P5 at h5 h5l h5f ⊢
              refine bj_iload_n d_Mo_orderAll_152 rfl rfl ?_
              refine bj_iconst (v := (nI 1)) d_Mo_orderAll_153 (by decide) ?_
              refine bj_iload_n d_Mo_orderAll_154 rfl rfl ?_
              refine bj_ishl (v := ((nI 1) <<< ((nI (ln_at (so_lk e pn) dw N j)) &&& 31))) d_Mo_orderAll_155 rfl ?_
              refine bj_ior (v := (x ||| ((nI 1) <<< ((nI (ln_at (so_lk e pn) dw N j)) &&& 31)))) d_Mo_orderAll_156 rfl ?_
              refine bj_istore_n (L' := [some (.ref (ad 80)), some (.int (x ||| ((nI 1) <<< ((nI (ln_at (so_lk e pn) dw N j)) &&& 31)))), some (.int (nI (ln_at (so_lk e pn) dw N j))), some (.int (dc 0)), z4, z5, z6]) d_Mo_orderAll_157 rfl (by decide) rfl ?_
              refine bj_goto (tgt := 11) d_Mo_orderAll_158 (by decide) ?_
              exact ih_l1 (N - (j + 1)) (by omega) (j + 1) P5 _ _ _ _ _ _ _ rfl (by omega) h5 h5l (fun t ht => by
                by_cases q : t = j
                · rw [q, va_up_self]
                · rw [va_up_ne _ _ q]; exact hl t (by omega)) (gn_s hN hgn hatN) h5f
            · have hc0 : 0 < c0 := Nat.pos_of_ne_zero (fun q => by rw [q, dc_0] at h32; exact absurd h32 (by decide))
              rw [dc_p hc0]
              have hdc := (hpm.1 (c0 - 1) (by omega)).1
              refine bj_aload_n d_Mo_orderAll_35 rfl rfl ?_
              refine bj_get d_Mo_orderAll_36 in_Mo rfl (by decide : 3 < 17) wf_Mo_7 rfl h2.1 rfl ?_
              refine bj_iload_n d_Mo_orderAll_39 rfl rfl ?_
              refine bv_iald d_Mo_orderAll_40 0 rfl h2.2.1 (by omega) (by omega) rfl ?_
              refine bj_istore (L' := [some (.ref (ad 80)), some (.int x), some (.int y), some (.int (nI (c0 - 1))), some (.int (nI (dw (c0 - 1)))), z5, z6]) d_Mo_orderAll_41 (by decide) rfl ?_
              refine bj_iload_n d_Mo_orderAll_43 rfl rfl ?_
              refine bj_iload d_Mo_orderAll_44 rfl ?_
              refine bj_ishr (v := (x >>> ((nI (dw (c0 - 1))) &&& 31))) d_Mo_orderAll_46 rfl ?_
              refine bj_iconst (v := (nI 1)) d_Mo_orderAll_47 (by decide) ?_
              refine bj_iand (v := (bt_n (bt x (dw (c0 - 1))))) d_Mo_orderAll_48 (bt_shas x (by omega)) ?_
              refine bj_if_ne (tgt := 56) d_Mo_orderAll_49 (by decide) (fun h49 => ?_) (fun h49 => ?_)
              · refine bj_iconst (v := (nI 0)) d_Mo_orderAll_56 (by decide) ?_
                refine bj_istore (L' := [some (.ref (ad 80)), some (.int x), some (.int y), some (.int (nI (c0 - 1))), some (.int (nI (dw (c0 - 1)))), some (.int (nI 0)), z6]) d_Mo_orderAll_57 (by decide) rfl ?_
                refine bj_iconst (v := (nI 0)) d_Mo_orderAll_59 (by decide) ?_
                refine bj_istore (L' := [some (.ref (ad 80)), some (.int x), some (.int y), some (.int (nI (c0 - 1))), some (.int (nI (dw (c0 - 1)))), some (.int (nI 0)), some (.int (nI 0))]) d_Mo_orderAll_60 (by decide) rfl ?_
                have l3 : ∀ (b : Nat), ∀ (g : Bool), (b ≤ N) → (g = true ↔ ((ln_left (so_lk e pn) dw N j) (dw (c0 - 1)) = true ∧ ∀ b9, b9 < b → ¬ ((ln_left (so_lk e pn) dw N j) b9 = true ∧ (so_lk e pn) b9 (dw (c0 - 1)) = true))) → bj_S (bw_G l D c) Y_Mo_orderAll 3 (0, 0, 0, 0) ad (q_list c ad M N cd se op dw sg sz rk tm (fun n M' => n = N ∧ ∃ lk, ord_is p N dw lk ∧ li_ok c M' (ln_at lk dw N) N)) 0 0 62 [some (.ref (ad 80)), some (.int x), some (.int y), some (.int (nI (c0 - 1))), some (.int (nI (dw (c0 - 1)))), some (.int (bt_n g)), some (.int (nI b))] [] M2 := by
                  intro b g
                  induction hd_l3 : N - b using Nat.strongRecOn generalizing b g with
                  | ind d_l3 ih_l3 =>
                    intro hb hg
                    refine bj_iload d_Mo_orderAll_62 rfl ?_
                    refine bj_aload_n d_Mo_orderAll_64 rfl rfl ?_
                    refine bj_get d_Mo_orderAll_65 in_Mo rfl (by decide : 0 < 17) wf_Mo_47 rfl h2.1 rfl ?_
                    refine bj_icmp_geN (tgt := 114) d_Mo_orderAll_68 (by decide) (by omega) (by omega) (fun h68 => ?_) (fun h68 => ?_)
                    · have hbN : b = N := by omega
                      refine bj_iload d_Mo_orderAll_114 rfl ?_
                      refine bj_if_eq (tgt := 124) d_Mo_orderAll_116 (by decide) (fun h116 => ?_) (fun h116 => ?_)
                      · have hq9 : ln_q (so_lk e pn) dw N (ln_left (so_lk e pn) dw N j) (c0 - 1) = false := gq_f (fun q => by rw [hg.mpr ⟨q.1, fun b9 hb9 => q.2 b9 (by omega)⟩] at h116; exact absurd h116 (by decide))
                        refine bj_iload_n d_Mo_orderAll_124 rfl rfl ?_
                        refine bj_istore_n (L' := [some (.ref (ad 80)), some (.int x), some (.int y), some (.int (nI (c0 - 1))), some (.int (nI (dw (c0 - 1)))), some (.int (bt_n g)), some (.int (nI b))]) d_Mo_orderAll_125 rfl (by decide) rfl ?_
                        refine bj_iinc (v := (dc (c0 - 1))) (L' := [some (.ref (ad 80)), some (.int x), some (.int y), some (.int (dc (c0 - 1))), some (.int (nI (dw (c0 - 1)))), some (.int (bt_n g)), some (.int (nI b))]) d_Mo_orderAll_126 rfl (dc_s hc0) (by decide) rfl ?_
                        refine bj_goto (tgt := 31) d_Mo_orderAll_129 (by decide) ?_
                        exact ih_l2 (c0 - 1 + 1) (by omega) (c0 - 1) _ _ _ _ rfl (by omega) (dm_n hdm hc0 hq9)
                      · have hq9 : ln_q (so_lk e pn) dw N (ln_left (so_lk e pn) dw N j) (c0 - 1) = true := gq_t (hg.mp (bt_nn h116)).1 (fun b9 hb9 => (hg.mp (bt_nn h116)).2 b9 (by omega))
                        refine bj_iload d_Mo_orderAll_119 rfl ?_
                        refine bj_goto (tgt := 125) d_Mo_orderAll_121 (by decide) ?_
                        refine bj_istore_n (L' := [some (.ref (ad 80)), some (.int x), some (.int (nI (dw (c0 - 1)))), some (.int (nI (c0 - 1))), some (.int (nI (dw (c0 - 1)))), some (.int (bt_n g)), some (.int (nI b))]) d_Mo_orderAll_125 rfl (by decide) rfl ?_
                        refine bj_iinc (v := (dc (c0 - 1))) (L' := [some (.ref (ad 80)), some (.int x), some (.int (nI (dw (c0 - 1)))), some (.int (dc (c0 - 1))), some (.int (nI (dw (c0 - 1)))), some (.int (bt_n g)), some (.int (nI b))]) d_Mo_orderAll_126 rfl (dc_s hc0) (by decide) rfl ?_
                        refine bj_goto (tgt := 31) d_Mo_orderAll_129 (by decide) ?_
                        exact ih_l2 (c0 - 1 + 1) (by omega) (c0 - 1) _ _ _ _ rfl (by omega) (dm_y hc0 hc8 hq9)
                    · refine bj_iload d_Mo_orderAll_71 rfl ?_
                      refine bj_if_eq (tgt := 105) d_Mo_orderAll_73 (by decide) (fun h73 => ?_) (fun h73 => ?_)
                      · refine bj_iconst (v := (nI 0)) d_Mo_orderAll_105 (by decide) ?_
                        refine bj_istore (L' := [some (.ref (ad 80)), some (.int x), some (.int y), some (.int (nI (c0 - 1))), some (.int (nI (dw (c0 - 1)))), some (.int (nI 0)), some (.int (nI b))]) d_Mo_orderAll_106 (by decide) rfl ?_
                        refine bj_iinc (v := (nI (b + 1))) (L' := [some (.ref (ad 80)), some (.int x), some (.int y), some (.int (nI (c0 - 1))), some (.int (nI (dw (c0 - 1)))), some (.int (nI 0)), some (.int (nI (b + 1)))]) d_Mo_orderAll_108 rfl (bj_inc1 _) (by decide) rfl ?_
                        refine bj_goto (tgt := 62) d_Mo_orderAll_111 (by decide) ?_
                        exact ih_l3 (N - (b + 1)) (by omega) (b + 1) false rfl (by omega) ⟨fun q => (by cases q), fun q => by
                          first | (have := hg.mpr ⟨q.1, fun b9 hb9 => q.2 b9 (by omega)⟩; rw [this] at h73; exact absurd h73 (by decide)) | exact absurd ⟨(by have q3 := hgn b (by omega); rw [bt_n0.mp h82] at q3; simpa using q3.symm), bt_nn h98⟩ (q.2 b (by omega))⟩
                      · refine bj_iload_n d_Mo_orderAll_76 rfl rfl ?_
                        refine bj_iload d_Mo_orderAll_77 rfl ?_
                        refine bj_ishr (v := (x >>> ((nI b) &&& 31))) d_Mo_orderAll_79 rfl ?_
                        refine bj_iconst (v := (nI 1)) d_Mo_orderAll_80 (by decide) ?_
                        refine bj_iand (v := (bt_n (bt x b))) d_Mo_orderAll_81 (bt_shas x (by omega)) ?_
                        refine bj_if_ne (tgt := 101) d_Mo_orderAll_82 (by decide) (fun h82 => ?_) (fun h82 => ?_)
                        · refine bj_iconst (v := (nI 1)) d_Mo_orderAll_101 (by decide) ?_
                          refine bj_goto (tgt := 106) d_Mo_orderAll_102 (by decide) ?_
                          refine bj_istore (L' := [some (.ref (ad 80)), some (.int x), some (.int y), some (.int (nI (c0 - 1))), some (.int (nI (dw (c0 - 1)))), some (.int (nI 1)), some (.int (nI b))]) d_Mo_orderAll_106 (by decide) rfl ?_
                          refine bj_iinc (v := (nI (b + 1))) (L' := [some (.ref (ad 80)), some (.int x), some (.int y), some (.int (nI (c0 - 1))), some (.int (nI (dw (c0 - 1)))), some (.int (nI 1)), some (.int (nI (b + 1)))]) d_Mo_orderAll_108 rfl (bj_inc1 _) (by decide) rfl ?_
                          refine bj_goto (tgt := 62) d_Mo_orderAll_111 (by decide) ?_
                          exact ih_l3 (N - (b + 1)) (by omega) (b + 1) true rfl (by omega) ⟨fun _ => ⟨(hg.mp (bt_nn h73)).1, fun b9 hb9 q => by
                            rcases Nat.lt_or_ge b9 b with r | r
                            · exact (hg.mp (bt_nn h73)).2 b9 r q
                            · have e9 : b9 = b := by omega
                              subst e9
                              first | (have q3 := hgn b9 (by omega); rw [q.1] at q3; rw [q3] at h82; exact h82 rfl) | (rw [q.2] at h98; exact absurd h98 (by decide))⟩, fun _ => rfl⟩
                        · refine bj_aload_n d_Mo_orderAll_85 rfl rfl ?_
                          refine bj_get d_Mo_orderAll_86 in_Mo rfl (by decide : 12 < 17) wf_Mo_34 rfl h2.1 rfl ?_
                          refine bj_bipush (v := (nI 8)) d_Mo_orderAll_89 (by decide) ?_
                          refine bj_iload d_Mo_orderAll_91 rfl ?_
                          refine bj_imul (v := (nI (8 * b))) d_Mo_orderAll_93 (pk_mul _ _) ?_
                          refine bj_iload d_Mo_orderAll_94 rfl ?_
                          refine bj_iadd (v := (nI ((8 * b) + (dw (c0 - 1))))) d_Mo_orderAll_96 (nI_add _ _) ?_
                          refine bv_zald (v := (bt_n ((so_lk e pn) b (dw (c0 - 1))))) d_Mo_orderAll_97 1 rfl hk2 (by omega) (by omega) (by show bt_n _ = bt_n _; rw [show (8 * b + (dw (c0 - 1))) / 8 = b by omega, show (8 * b + (dw (c0 - 1))) % 8 = (dw (c0 - 1)) by omega]) ?_
                          refine bj_if_ne (tgt := 105) d_Mo_orderAll_98 (by decide) (fun h98 => ?_) (fun h98 => ?_)
                          · refine bj_iconst (v := (nI 0)) d_Mo_orderAll_105 (by decide) ?_
                            refine bj_istore (L' := [some (.ref (ad 80)), some (.int x), some (.int y), some (.int (nI (c0 - 1))), some (.int (nI (dw (c0 - 1)))), some (.int (nI 0)), some (.int (nI b))]) d_Mo_orderAll_106 (by decide) rfl ?_
                            refine bj_iinc (v := (nI (b + 1))) (L' := [some (.ref (ad 80)), some (.int x), some (.int y), some (.int (nI (c0 - 1))), some (.int (nI (dw (c0 - 1)))), some (.int (nI 0)), some (.int (nI (b + 1)))]) d_Mo_orderAll_108 rfl (bj_inc1 _) (by decide) rfl ?_
                            refine bj_goto (tgt := 62) d_Mo_orderAll_111 (by decide) ?_
                            exact ih_l3 (N - (b + 1)) (by omega) (b + 1) false rfl (by omega) ⟨fun q => (by cases q), fun q => by
                              first | (have := hg.mpr ⟨q.1, fun b9 hb9 => q.2 b9 (by omega)⟩; rw [this] at h73; exact absurd h73 (by decide)) | exact absurd ⟨(by have q3 := hgn b (by omega); rw [bt_n0.mp h82] at q3; simpa using q3.symm), bt_nn h98⟩ (q.2 b (by omega))⟩
                          · refine bj_iconst (v := (nI 1)) d_Mo_orderAll_101 (by decide) ?_
                            refine bj_goto (tgt := 106) d_Mo_orderAll_102 (by decide) ?_
                            refine bj_istore (L' := [some (.ref (ad 80)), some (.int x), some (.int y), some (.int (nI (c0 - 1))), some (.int (nI (dw (c0 - 1)))), some (.int (nI 1)), some (.int (nI b))]) d_Mo_orderAll_106 (by decide) rfl ?_
                            refine bj_iinc (v := (nI (b + 1))) (L' := [some (.ref (ad 80)), some (.int x), some (.int y), some (.int (nI (c0 - 1))), some (.int (nI (dw (c0 - 1)))), some (.int (nI 1)), some (.int (nI (b + 1)))]) d_Mo_orderAll_108 rfl (bj_inc1 _) (by decide) rfl ?_
                            refine bj_goto (tgt := 62) d_Mo_orderAll_111 (by decide) ?_
                            exact ih_l3 (N - (b + 1)) (by omega) (b + 1) true rfl (by omega) ⟨fun _ => ⟨(hg.mp (bt_nn h73)).1, fun b9 hb9 q => by
                              rcases Nat.lt_or_ge b9 b with r | r
                              · exact (hg.mp (bt_nn h73)).2 b9 r q
                              · have e9 : b9 = b := by omega
                                subst e9
                                first | (have q3 := hgn b9 (by omega); rw [q.1] at q3; rw [q3] at h82; exact h82 rfl) | (rw [q.2] at h98; exact absurd h98 (by decide))⟩, fun _ => rfl⟩
                exact l3 0 false (Nat.zero_le _) ⟨fun q => (by cases q), fun q => by have q3 := hgn (dw (c0 - 1)) hdc; rw [q.1] at q3; rw [q3] at h49; exact absurd rfl h49⟩
              · refine bj_iconst (v := (nI 1)) d_Mo_orderAll_52 (by decide) ?_
                refine bj_goto (tgt := 57) d_Mo_orderAll_53 (by decide) ?_
                refine bj_istore (L' := [some (.ref (ad 80)), some (.int x), some (.int y), some (.int (nI (c0 - 1))), some (.int (nI (dw (c0 - 1)))), some (.int (nI 1)), z6]) d_Mo_orderAll_57 (by decide) rfl ?_
                refine bj_iconst (v := (nI 0)) d_Mo_orderAll_59 (by decide) ?_
                refine bj_istore (L' := [some (.ref (ad 80)), some (.int x), some (.int y), some (.int (nI (c0 - 1))), some (.int (nI (dw (c0 - 1)))), some (.int (nI 1)), some (.int (nI 0))]) d_Mo_orderAll_60 (by decide) rfl ?_
                have l3 : ∀ (b : Nat), ∀ (g : Bool), (b ≤ N) → (g = true ↔ ((ln_left (so_lk e pn) dw N j) (dw (c0 - 1)) = true ∧ ∀ b9, b9 < b → ¬ ((ln_left (so_lk e pn) dw N j) b9 = true ∧ (so_lk e pn) b9 (dw (c0 - 1)) = true))) → bj_S (bw_G l D c) Y_Mo_orderAll 3 (0, 0, 0, 0) ad (q_list c ad M N cd se op dw sg sz rk tm (fun n M' => n = N ∧ ∃ lk, ord_is p N dw lk ∧ li_ok c M' (ln_at lk dw N) N)) 0 0 62 [some (.ref (ad 80)), some (.int x), some (.int y), some (.int (nI (c0 - 1))), some (.int (nI (dw (c0 - 1)))), some (.int (bt_n g)), some (.int (nI b))] [] M2 := by
                  intro b g
                  induction hd_l3 : N - b using Nat.strongRecOn generalizing b g with
                  | ind d_l3 ih_l3 =>
                    intro hb hg
                    refine bj_iload d_Mo_orderAll_62 rfl ?_
                    refine bj_aload_n d_Mo_orderAll_64 rfl rfl ?_
                    refine bj_get d_Mo_orderAll_65 in_Mo rfl (by decide : 0 < 17) wf_Mo_47 rfl h2.1 rfl ?_
                    refine bj_icmp_geN (tgt := 114) d_Mo_orderAll_68 (by decide) (by omega) (by omega) (fun h68 => ?_) (fun h68 => ?_)
                    · have hbN : b = N := by omega
                      refine bj_iload d_Mo_orderAll_114 rfl ?_
                      refine bj_if_eq (tgt := 124) d_Mo_orderAll_116 (by decide) (fun h116 => ?_) (fun h116 => ?_)
                      · have hq9 : ln_q (so_lk e pn) dw N (ln_left (so_lk e pn) dw N j) (c0 - 1) = false := gq_f (fun q => by rw [hg.mpr ⟨q.1, fun b9 hb9 => q.2 b9 (by omega)⟩] at h116; exact absurd h116 (by decide))
                        refine bj_iload_n d_Mo_orderAll_124 rfl rfl ?_
                        refine bj_istore_n (L' := [some (.ref (ad 80)), some (.int x), some (.int y), some (.int (nI (c0 - 1))), some (.int (nI (dw (c0 - 1)))), some (.int (bt_n g)), some (.int (nI b))]) d_Mo_orderAll_125 rfl (by decide) rfl ?_
                        refine bj_iinc (v := (dc (c0 - 1))) (L' := [some (.ref (ad 80)), some (.int x), some (.int y), some (.int (dc (c0 - 1))), some (.int (nI (dw (c0 - 1)))), some (.int (bt_n g)), some (.int (nI b))]) d_Mo_orderAll_126 rfl (dc_s hc0) (by decide) rfl ?_
                        refine bj_goto (tgt := 31) d_Mo_orderAll_129 (by decide) ?_
                        exact ih_l2 (c0 - 1 + 1) (by omega) (c0 - 1) _ _ _ _ rfl (by omega) (dm_n hdm hc0 hq9)
                      · have hq9 : ln_q (so_lk e pn) dw N (ln_left (so_lk e pn) dw N j) (c0 - 1) = true := gq_t (hg.mp (bt_nn h116)).1 (fun b9 hb9 => (hg.mp (bt_nn h116)).2 b9 (by omega))
                        refine bj_iload d_Mo_orderAll_119 rfl ?_
                        refine bj_goto (tgt := 125) d_Mo_orderAll_121 (by decide) ?_
                        refine bj_istore_n (L' := [some (.ref (ad 80)), some (.int x), some (.int (nI (dw (c0 - 1)))), some (.int (nI (c0 - 1))), some (.int (nI (dw (c0 - 1)))), some (.int (bt_n g)), some (.int (nI b))]) d_Mo_orderAll_125 rfl (by decide) rfl ?_
                        refine bj_iinc (v := (dc (c0 - 1))) (L' := [some (.ref (ad 80)), some (.int x), some (.int (nI (dw (c0 - 1)))), some (.int (dc (c0 - 1))), some (.int (nI (dw (c0 - 1)))), some (.int (bt_n g)), some (.int (nI b))]) d_Mo_orderAll_126 rfl (dc_s hc0) (by decide) rfl ?_
                        refine bj_goto (tgt := 31) d_Mo_orderAll_129 (by decide) ?_
                        exact ih_l2 (c0 - 1 + 1) (by omega) (c0 - 1) _ _ _ _ rfl (by omega) (dm_y hc0 hc8 hq9)
                    · refine bj_iload d_Mo_orderAll_71 rfl ?_
                      refine bj_if_eq (tgt := 105) d_Mo_orderAll_73 (by decide) (fun h73 => ?_) (fun h73 => ?_)
                      · refine bj_iconst (v := (nI 0)) d_Mo_orderAll_105 (by decide) ?_
                        refine bj_istore (L' := [some (.ref (ad 80)), some (.int x), some (.int y), some (.int (nI (c0 - 1))), some (.int (nI (dw (c0 - 1)))), some (.int (nI 0)), some (.int (nI b))]) d_Mo_orderAll_106 (by decide) rfl ?_
                        refine bj_iinc (v := (nI (b + 1))) (L' := [some (.ref (ad 80)), some (.int x), some (.int y), some (.int (nI (c0 - 1))), some (.int (nI (dw (c0 - 1)))), some (.int (nI 0)), some (.int (nI (b + 1)))]) d_Mo_orderAll_108 rfl (bj_inc1 _) (by decide) rfl ?_
                        refine bj_goto (tgt := 62) d_Mo_orderAll_111 (by decide) ?_
                        exact ih_l3 (N - (b + 1)) (by omega) (b + 1) false rfl (by omega) ⟨fun q => (by cases q), fun q => by
                          first | (have := hg.mpr ⟨q.1, fun b9 hb9 => q.2 b9 (by omega)⟩; rw [this] at h73; exact absurd h73 (by decide)) | exact absurd ⟨(by have q3 := hgn b (by omega); rw [bt_n0.mp h82] at q3; simpa using q3.symm), bt_nn h98⟩ (q.2 b (by omega))⟩
                      · refine bj_iload_n d_Mo_orderAll_76 rfl rfl ?_
                        refine bj_iload d_Mo_orderAll_77 rfl ?_
                        refine bj_ishr (v := (x >>> ((nI b) &&& 31))) d_Mo_orderAll_79 rfl ?_
                        refine bj_iconst (v := (nI 1)) d_Mo_orderAll_80 (by decide) ?_
                        refine bj_iand (v := (bt_n (bt x b))) d_Mo_orderAll_81 (bt_shas x (by omega)) ?_
                        refine bj_if_ne (tgt := 101) d_Mo_orderAll_82 (by decide) (fun h82 => ?_) (fun h82 => ?_)
                        · refine bj_iconst (v := (nI 1)) d_Mo_orderAll_101 (by decide) ?_
                          refine bj_goto (tgt := 106) d_Mo_orderAll_102 (by decide) ?_
                          refine bj_istore (L' := [some (.ref (ad 80)), some (.int x), some (.int y), some (.int (nI (c0 - 1))), some (.int (nI (dw (c0 - 1)))), some (.int (nI 1)), some (.int (nI b))]) d_Mo_orderAll_106 (by decide) rfl ?_
                          refine bj_iinc (v := (nI (b + 1))) (L' := [some (.ref (ad 80)), some (.int x), some (.int y), some (.int (nI (c0 - 1))), some (.int (nI (dw (c0 - 1)))), some (.int (nI 1)), some (.int (nI (b + 1)))]) d_Mo_orderAll_108 rfl (bj_inc1 _) (by decide) rfl ?_
                          refine bj_goto (tgt := 62) d_Mo_orderAll_111 (by decide) ?_
                          exact ih_l3 (N - (b + 1)) (by omega) (b + 1) true rfl (by omega) ⟨fun _ => ⟨(hg.mp (bt_nn h73)).1, fun b9 hb9 q => by
                            rcases Nat.lt_or_ge b9 b with r | r
                            · exact (hg.mp (bt_nn h73)).2 b9 r q
                            · have e9 : b9 = b := by omega
                              subst e9
                              first | (have q3 := hgn b9 (by omega); rw [q.1] at q3; rw [q3] at h82; exact h82 rfl) | (rw [q.2] at h98; exact absurd h98 (by decide))⟩, fun _ => rfl⟩
                        · refine bj_aload_n d_Mo_orderAll_85 rfl rfl ?_
                          refine bj_get d_Mo_orderAll_86 in_Mo rfl (by decide : 12 < 17) wf_Mo_34 rfl h2.1 rfl ?_
                          refine bj_bipush (v := (nI 8)) d_Mo_orderAll_89 (by decide) ?_
                          refine bj_iload d_Mo_orderAll_91 rfl ?_
                          refine bj_imul (v := (nI (8 * b))) d_Mo_orderAll_93 (pk_mul _ _) ?_
                          refine bj_iload d_Mo_orderAll_94 rfl ?_
                          refine bj_iadd (v := (nI ((8 * b) + (dw (c0 - 1))))) d_Mo_orderAll_96 (nI_add _ _) ?_
                          refine bv_zald (v := (bt_n ((so_lk e pn) b (dw (c0 - 1))))) d_Mo_orderAll_97 1 rfl hk2 (by omega) (by omega) (by show bt_n _ = bt_n _; rw [show (8 * b + (dw (c0 - 1))) / 8 = b by omega, show (8 * b + (dw (c0 - 1))) % 8 = (dw (c0 - 1)) by omega]) ?_
                          refine bj_if_ne (tgt := 105) d_Mo_orderAll_98 (by decide) (fun h98 => ?_) (fun h98 => ?_)
                          · refine bj_iconst (v := (nI 0)) d_Mo_orderAll_105 (by decide) ?_
                            refine bj_istore (L' := [some (.ref (ad 80)), some (.int x), some (.int y), some (.int (nI (c0 - 1))), some (.int (nI (dw (c0 - 1)))), some (.int (nI 0)), some (.int (nI b))]) d_Mo_orderAll_106 (by decide) rfl ?_
                            refine bj_iinc (v := (nI (b + 1))) (L' := [some (.ref (ad 80)), some (.int x), some (.int y), some (.int (nI (c0 - 1))), some (.int (nI (dw (c0 - 1)))), some (.int (nI 0)), some (.int (nI (b + 1)))]) d_Mo_orderAll_108 rfl (bj_inc1 _) (by decide) rfl ?_
                            refine bj_goto (tgt := 62) d_Mo_orderAll_111 (by decide) ?_
                            exact ih_l3 (N - (b + 1)) (by omega) (b + 1) false rfl (by omega) ⟨fun q => (by cases q), fun q => by
                              first | (have := hg.mpr ⟨q.1, fun b9 hb9 => q.2 b9 (by omega)⟩; rw [this] at h73; exact absurd h73 (by decide)) | exact absurd ⟨(by have q3 := hgn b (by omega); rw [bt_n0.mp h82] at q3; simpa using q3.symm), bt_nn h98⟩ (q.2 b (by omega))⟩
                          · refine bj_iconst (v := (nI 1)) d_Mo_orderAll_101 (by decide) ?_
                            refine bj_goto (tgt := 106) d_Mo_orderAll_102 (by decide) ?_
                            refine bj_istore (L' := [some (.ref (ad 80)), some (.int x), some (.int y), some (.int (nI (c0 - 1))), some (.int (nI (dw (c0 - 1)))), some (.int (nI 1)), some (.int (nI b))]) d_Mo_orderAll_106 (by decide) rfl ?_
                            refine bj_iinc (v := (nI (b + 1))) (L' := [some (.ref (ad 80)), some (.int x), some (.int y), some (.int (nI (c0 - 1))), some (.int (nI (dw (c0 - 1)))), some (.int (nI 1)), some (.int (nI (b + 1)))]) d_Mo_orderAll_108 rfl (bj_inc1 _) (by decide) rfl ?_
                            refine bj_goto (tgt := 62) d_Mo_orderAll_111 (by decide) ?_
                            exact ih_l3 (N - (b + 1)) (by omega) (b + 1) true rfl (by omega) ⟨fun _ => ⟨(hg.mp (bt_nn h73)).1, fun b9 hb9 q => by
                              rcases Nat.lt_or_ge b9 b with r | r
                              · exact (hg.mp (bt_nn h73)).2 b9 r q
                              · have e9 : b9 = b := by omega
                                subst e9
                                first | (have q3 := hgn b9 (by omega); rw [q.1] at q3; rw [q3] at h82; exact h82 rfl) | (rw [q.2] at h98; exact absurd h98 (by decide))⟩, fun _ => rfl⟩
                exact l3 0 true (Nat.zero_le _) ⟨fun _ => ⟨(by have q3 := hgn (dw (c0 - 1)) hdc; rw [bt_n0.mp h49] at q3; simpa using q3.symm), fun b9 hb9 => absurd hb9 (Nat.not_lt_zero _)⟩, fun _ => rfl⟩
        exact l2 N _ _ _ _ (Nat.le_refl _) (Or.inl ⟨rfl, fun t h1 h2 => by omega⟩)
  exact l1 0 P2 _ _ _ _ _ _ _ (Nat.zero_le _) hm2 ((g7.in (hE 92 (by decide) (by decide))).in (hw2 92 (by decide))) (fun t ht => absurd ht (Nat.not_lt_zero _)) gn_0 (fun q q1 q2 => hw2 q q1)
end M9
