/-! the reference: lockAll (walks by gen/m_mo7.py) -/
section M7

theorem oI_neg {o : Option Nat} (hb : ∀ z, o = some z → z < 2 ^ 31) (h : oI o < 0) : o = none := by
  cases o with
  | none => rfl
  | some z => exact absurd h (nI_pos (hb z rfl))
theorem oI_pos {o : Option Nat} (h : ¬ oI o < 0) : ∃ z, o = some z := by
  cases o with
  | none => exact absurd (show (-1 : Int32) < 0 by decide) h
  | some z => exact ⟨z, rfl⟩
theorem vl_iff {p : Nat → Nat → Nat} {N k : Nat} : vl p N k ↔ 0 < drn (pz N p) (k / 8) (k % 8) := by
  unfold vl
  rw [drn_pz]
  by_cases h : k / 8 < N ∧ k % 8 < N
  · rw [if_pos h]
    exact ⟨fun q => q.2.2, fun q => ⟨h.1, h.2, q⟩⟩
  · rw [if_neg h]
    exact ⟨fun q => absurd ⟨q.1, q.2.1⟩ h, fun q => absurd q (Nat.lt_irrefl _)⟩
theorem vl_ne {p : Nat → Nat → Nat} {N k : Nat} (h : vl p N k) : k / 8 ≠ k % 8 := fun q => by
  have h1 := h.2.2
  rw [q] at h1
  unfold drn at h1
  rw [if_neg (Nat.lt_irrefl _)] at h1
  exact absurd h1 (Nat.lt_irrefl _)
theorem vl_lt {p : Nat → Nat → Nat} {N k : Nat} (hN : N ≤ 8) (h : vl p N k) : k < 64 := by
  have h1 := h.1
  omega
theorem ml_run_to {u v u' v' : Nat → Nat} : ∀ i, (∀ j, j < i → u j = u' j ∧ v j = v' j) → ml_run u v i = ml_run u' v' i
  | 0, _ => rfl
  | i + 1, h => by
    have ih := ml_run_to i (fun j hj => h j (by omega))
    obtain ⟨h1, h2⟩ := h i (by omega)
    rw [ml_run, ml_run, ih, h1, h2]
theorem so_up {e : Nat → Nat} {i b : Nat} : so_lk (va_up e i b) i = so_lk e i ∧ so_ld (va_up e i b) i = so_ld e i := by
  have h := ml_run_to (u := fun j => va_up e i b j / 8) (v := fun j => va_up e i b j % 8) (u' := fun j => e j / 8) (v' := fun j => e j % 8) i (fun j hj => by
    rw [va_up_ne _ _ (show j ≠ i by omega)]
    exact ⟨rfl, rfl⟩)
  unfold so_lk so_ld
  rw [h]
  exact ⟨rfl, rfl⟩
theorem so_skp {e : Nat → Nat} {i b : Nat} (h : so_ld e i (b % 8) (b / 8) = true) : so_lk (va_up e i b) (i + 1) = so_lk e i ∧ so_ld (va_up e i b) (i + 1) = so_ld e i := by
  obtain ⟨h1, h2⟩ := so_up (e := e) (i := i) (b := b)
  have h3 := so_skip (e := va_up e i b) (i := i) (by rw [h2, va_up_self]; exact h)
  rw [h1, h2] at h3
  exact h3
theorem so_tak {e : Nat → Nat} {i b : Nat} (h : so_ld e i (b % 8) (b / 8) = false) : so_lk (va_up e i b) (i + 1) = ml_lk (so_lk e i) (b / 8) (b % 8) ∧ so_ld (va_up e i b) (i + 1) = ml_ld (so_ld e i) (b / 8) (b % 8) := by
  obtain ⟨h1, h2⟩ := so_up (e := e) (i := i) (b := b)
  have h3 := so_take (e := va_up e i b) (i := i) (by rw [h2, va_up_self]; exact h)
  rw [h1, h2, va_up_self] at h3
  exact h3
theorem la_lt {p : Nat → Nat → Nat} {ps e : Nat → Nat} {N i z : Nat} (h : la_ok p ps N e i) (hz : ltd e i = some z) : vl p N z := by
  unfold ltd at hz
  split at hz
  · cases hz
  · cases hz
    exact h.2.1 _ (by omega)
theorem ltd_up {e : Nat → Nat} {i b : Nat} : ltd (va_up e i b) (i + 1) = some b := by
  unfold ltd
  rw [if_neg (by omega), Nat.add_sub_cancel, va_up_self]
theorem bz_vl {p : Nat → Nat → Nat} {ps : Nat → Nat} {N k z : Nat} {o b : Option Nat} (h : bz_ok p ps N o k b) (hz : b = some z) : vl p N z := by
  subst hz
  exact h.2.1
variable (l : Launch) (D : va_G) (c : Nat → ClassId) (ad : Nat → Nat) (M : bj_M)
set_option maxRecDepth 100000 in
set_option maxHeartbeats 4000000 in
/-- lockAll -/
theorem t_Mo_lockAll {N op : Nat} {cd li : Int32} {se : Bool} {dw sg sz : Nat → Nat} {rk : Nat → Nat → Int32} {tm : Nat → Nat → Nat} (hm0 : mo_ok c ad M N cd se op li dw sg sz rk tm) (hN : N ≤ 8) {p : Nat → Nat → Nat} {ps : Nat → Nat} (hcn : cn_ok c M N p) (hz31 : ∀ a b, pz N p a b < 2 ^ 31) (hpm : pm_ok N dw ps) {g1 g2 : Nat → Int32} (hlk : bv_I (c 1) M 89 64 g1) (hld : bv_I (c 1) M 90 64 g2) : bj_T (bw_G l D c) Y_Mo_lockAll 2 (0, 0, 0, 0) ad (q_lockAll c M N p ps) [.ref (ad 80)] M := by
  show bj_S _ _ _ _ _ _ 0 0 0 [some (.ref (ad 80)), none, none, none, none, none] [] M
  have dz31 : ∀ a b, drn (pz N p) a b < 2 ^ 31 := fun a b => by have := hz31 a b; unfold drn; split <;> omega
  refine bj_iconst (v := (nI 0)) d_Mo_lockAll_0 (by decide) ?_
  refine bj_istore_n (L' := [some (.ref (ad 80)), some (.int (nI 0)), none, none, none, none]) d_Mo_lockAll_1 rfl (by decide) rfl ?_
  have l1 : ∀ (i : Nat), ∀ (M2 : bj_M), ∀ (f1 : Nat → Int32), ∀ (f2 : Nat → Int32), (i ≤ 64) → (bv_I (c 1) M2 89 64 f1) → (∀ j, j < i → f1 j = nI 0) → (bv_I (c 1) M2 90 64 f2) → (∀ j, j < i → f2 j = nI 0) → (∀ q, q ≠ 89 → q ≠ 90 → M2 q = M q) → bj_S (bw_G l D c) Y_Mo_lockAll 2 (0, 0, 0, 0) ad (q_lockAll c M N p ps) 0 0 2 [some (.ref (ad 80)), some (.int (nI i)), none, none, none, none] [] M2 := by
    intro i M2 f1 f2
    induction hd_l1 : 64 - i using Nat.strongRecOn generalizing i M2 f1 f2 with
    | ind d_l1 ih_l1 =>
      intro hi h2 he2 h2b he2b ho2
      have hO2b := (ho2 80 (by decide) (by decide)).trans hm0.1
      refine bj_iload_n d_Mo_lockAll_2 rfl rfl ?_
      refine bj_bipush (v := (nI 64)) d_Mo_lockAll_3 (by decide) ?_
      refine bj_icmp_geN (tgt := 28) d_Mo_lockAll_5 (by decide) (by first | omega | exact dz31 _ _) (by first | omega | exact dz31 _ _) (fun h5 => ?_) (fun h5 => ?_)
      · refine bj_iconst (v := (-1)) d_Mo_lockAll_28 (by decide) ?_
        refine bj_istore_n (L' := [some (.ref (ad 80)), some (.int (-1)), none, none, none, none]) d_Mo_lockAll_29 rfl (by decide) rfl ?_
        refine bj_iconst (v := (nI 1)) d_Mo_lockAll_30 (by decide) ?_
        refine bj_istore_n (L' := [some (.ref (ad 80)), some (.int (-1)), some (.int (nI 1)), none, none, none]) d_Mo_lockAll_31 rfl (by decide) rfl ?_
        have l2 : ∀ (i : Nat), ∀ (e : Nat → Nat), ∀ (g : Bool), ∀ (M3 : bj_M), ∀ (y : Int32), ∀ (z3 : Option Value), ∀ (z4 : Option Value), ∀ (z5 : Option Value), (la_ok p ps N e i) → (bv_I (c 1) M3 89 64 (bg (so_lk e i))) → (bv_I (c 1) M3 90 64 (bg (so_ld e i))) → (∀ q, q ≠ 89 → q ≠ 90 → M3 q = M q) → (g = true → y = oI (ltd e i)) → (g = false → bz_ok p ps N (ltd e i) 64 none) → bj_S (bw_G l D c) Y_Mo_lockAll 2 (0, 0, 0, 0) ad (q_lockAll c M N p ps) 0 0 32 [some (.ref (ad 80)), some (.int y), some (.int (bt_n g)), z3, z4, z5] [] M3 := by
          intro i e g M3 y z3 z4 z5
          induction hd_l2 : la_mu p ps N (ltd e i) + (if g = true then 1 else 0) using Nat.strongRecOn generalizing i e g M3 y z3 z4 z5 with
          | ind d_l2 ih_l2 =>
            intro hla h8 h9 ho3 hy hd9
            have hm3 := hm0.in (M' := M3) (fun q q1 q2 => ho3 q (by omega) (by omega))
            have hcn3 : cn_ok c M3 N p := ⟨hcn.1.in (ho3 86 (by decide) (by decide)), hcn.2.in (ho3 87 (by decide) (by decide))⟩
            refine bj_iload_n d_Mo_lockAll_32 rfl rfl ?_
            refine bj_if_eq (tgt := 155) d_Mo_lockAll_33 (by decide) (fun h33 => ?_) (fun h33 => ?_)
            · exact bj_vret d_Mo_lockAll_155 rfl (Nat.le_refl _) (Nat.le_refl _) ⟨rfl, ⟨e, i, la_e hN hla (hd9 (bt_n0.mp h33)), h8, h9⟩, ho3⟩
            · have hgt := bt_nn h33
              subst hgt
              have hy2 := hy rfl
              subst hy2
              refine bj_iconst (v := (-1)) d_Mo_lockAll_36 (by decide) ?_
              refine bj_istore_n (L' := [some (.ref (ad 80)), some (.int (oI (ltd e i))), some (.int (bt_n true)), some (.int (-1)), z4, z5]) d_Mo_lockAll_37 rfl (by decide) rfl ?_
              refine bj_iconst (v := (nI 0)) d_Mo_lockAll_38 (by decide) ?_
              refine bj_istore (L' := [some (.ref (ad 80)), some (.int (oI (ltd e i))), some (.int (bt_n true)), some (.int (-1)), some (.int (nI 0)), z5]) d_Mo_lockAll_39 (by decide) rfl ?_
              have l3 : ∀ (k : Nat), ∀ (bb : Option Nat), ∀ (z5 : Option Value), (k ≤ 64) → (bz_ok p ps N (ltd e i) k bb) → bj_S (bw_G l D c) Y_Mo_lockAll 2 (0, 0, 0, 0) ad (q_lockAll c M N p ps) 0 0 41 [some (.ref (ad 80)), some (.int (oI (ltd e i))), some (.int (bt_n true)), some (.int (oI bb)), some (.int (nI k)), z5] [] M3 := by
                intro k bb z5
                induction hd_l3 : 64 - k using Nat.strongRecOn generalizing k bb z5 with
                | ind d_l3 ih_l3 =>
                  intro hk hbb
                  refine bj_iload d_Mo_lockAll_41 rfl ?_
                  refine bj_bipush (v := (nI 64)) d_Mo_lockAll_43 (by decide) ?_
                  refine bj_icmp_geN (tgt := 111) d_Mo_lockAll_45 (by decide) (by first | omega | exact dz31 _ _) (by first | omega | exact dz31 _ _) (fun h45 => ?_) (fun h45 => ?_)
                  · refine bj_iload_n d_Mo_lockAll_111 rfl rfl ?_
                    refine bj_if_lt (tgt := 119) d_Mo_lockAll_112 (by decide) (fun h112 => ?_) (fun h112 => ?_)
                    · have hbn := oI_neg (fun z q => by have := vl_lt hN (bz_vl hbb q); omega) h112
                      subst hbn
                      refine bj_iconst (v := (nI 0)) d_Mo_lockAll_119 (by decide) ?_
                      refine bj_istore_n (L' := [some (.ref (ad 80)), some (.int (oI (ltd e i))), some (.int (nI 0)), some (.int (oI none)), some (.int (nI k)), z5]) d_Mo_lockAll_120 rfl (by decide) rfl ?_
                      refine bj_iload_n d_Mo_lockAll_121 rfl rfl ?_
                      refine bj_if_eqN (tgt := 150) d_Mo_lockAll_122 (by decide) (by decide) (fun _ => ?_) (fun h => absurd h (by decide))
                      refine bj_iload_n d_Mo_lockAll_150 rfl rfl ?_
                      refine bj_istore_n (L' := [some (.ref (ad 80)), some (.int (oI none)), some (.int (nI 0)), some (.int (oI none)), some (.int (nI k)), z5]) d_Mo_lockAll_151 rfl (by decide) rfl ?_
                      refine bj_goto (tgt := 32) d_Mo_lockAll_152 (by decide) ?_
                      exact ih_l2 (la_mu p ps N (ltd e i) + (if false = true then 1 else 0)) (by rw [if_pos rfl] at hd_l2; rw [if_neg (by decide)]; omega) i e false M3 _ _ _ _ rfl hla h8 h9 ho3 (fun q => by cases q) (fun _ => (show k = 64 by omega) ▸ hbb)
                    · obtain ⟨b, hzb⟩ := oI_pos h112
                      subst hzb
                      have hk64 : k = 64 := by omega
                      subst hk64
                      have hvb := bz_vl hbb rfl
                      have hb64 := vl_lt hN hvb
                      have hla2 := la_s hN hpm hla hbb
                      have hmu := la_mu_lt hbb
                      show bj_S (bw_G l D c) Y_Mo_lockAll 2 (0, 0, 0, 0) ad (q_lockAll c M N p ps) 0 0 115 [some (.ref (ad 80)), some (.int (oI (ltd e i))), some (.int (bt_n true)), some (.int (nI b)), some (.int (nI 64)), z5] [] M3
                      refine bj_iconst (v := (nI 1)) d_Mo_lockAll_115 (by decide) ?_
                      refine bj_goto (tgt := 120) d_Mo_lockAll_116 (by decide) ?_
                      refine bj_istore_n (L' := [some (.ref (ad 80)), some (.int (oI (ltd e i))), some (.int (nI 1)), some (.int (nI b)), some (.int (nI 64)), z5]) d_Mo_lockAll_120 rfl (by decide) rfl ?_
                      refine bj_iload_n d_Mo_lockAll_121 rfl rfl ?_
                      refine bj_if_eqN (tgt := 150) d_Mo_lockAll_122 (by decide) (by decide) (fun h => absurd h (by decide)) (fun _ => ?_)
                      refine bj_aload_n d_Mo_lockAll_125 rfl rfl ?_
                      refine bj_get d_Mo_lockAll_126 in_Mo rfl (by decide : 13 < 17) wf_Mo_38 rfl hm3.1 rfl ?_
                      refine bj_bipush (v := (nI 8)) d_Mo_lockAll_129 (by decide) ?_
                      refine bj_iload_n d_Mo_lockAll_131 rfl rfl ?_
                      refine bj_bipush (v := (nI 8)) d_Mo_lockAll_132 (by decide) ?_
                      refine bj_irem (v := (nI (b % 8))) d_Mo_lockAll_134 (by decide) (pk_rem (by omega) (by decide) (by decide)) ?_
                      refine bj_imul (v := (nI (8 * (b % 8)))) d_Mo_lockAll_135 (pk_mul _ _) ?_
                      refine bj_iload_n d_Mo_lockAll_136 rfl rfl ?_
                      refine bj_bipush (v := (nI 8)) d_Mo_lockAll_137 (by decide) ?_
                      refine bj_idiv (v := (nI (b / 8))) d_Mo_lockAll_139 (by decide) (pk_div (by omega) (by decide) (by decide)) ?_
                      refine bj_iadd (v := (nI ((8 * (b % 8)) + (b / 8)))) d_Mo_lockAll_140 (nI_add _ _) ?_
                      refine bv_zald (v := (bt_n (so_ld e i (b % 8) (b / 8)))) d_Mo_lockAll_141 1 rfl h9 (by omega) (by first | omega | exact dz31 _ _) (by show bt_n _ = bt_n _; rw [show (8 * (b % 8) + b / 8) / 8 = b % 8 by omega, show (8 * (b % 8) + b / 8) % 8 = b / 8 by omega]) ?_
                      refine bj_if_ne (tgt := 150) d_Mo_lockAll_142 (by decide) (fun h142 => ?_) (fun h142 => ?_)
                      · refine bj_iload_n d_Mo_lockAll_150 rfl rfl ?_
                        refine bj_istore_n (L' := [some (.ref (ad 80)), some (.int (nI b)), some (.int (nI 1)), some (.int (nI b)), some (.int (nI 64)), z5]) d_Mo_lockAll_151 rfl (by decide) rfl ?_
                        refine bj_goto (tgt := 32) d_Mo_lockAll_152 (by decide) ?_
                        exact ih_l2 (la_mu p ps N (ltd (va_up e i b) (i + 1)) + (if true = true then 1 else 0)) (by rw [ltd_up]; rw [if_pos rfl] at hd_l2 ⊢; omega) (i + 1) (va_up e i b) true M3 _ _ _ _ rfl hla2 (by rw [(so_skp (bt_nn h142)).1]; exact h8) (by rw [(so_skp (bt_nn h142)).2]; exact h9) ho3 (fun _ => by rw [ltd_up]; rfl) (fun q => by cases q)
                      · refine bj_aload_n d_Mo_lockAll_145 rfl rfl ?_
                        refine bj_iload_n d_Mo_lockAll_146 rfl rfl ?_
                        refine bj_cvR sv_Mo_107 d_Mo_lockAll_147 (t_Mo_lock l D c ad M3 hm3 hN h8 h9 hb64 (vl_ne hvb) (bt_n0.mp h142)) rfl rfl (by decide) (by decide) (by decide) (Nat.le_of_ble_eq_true rfl) rfl hm3.1 rfl rfl (fun v1 N1 hq1 => ?_)
                        obtain ⟨rfl, hk8, hk9, hkO⟩ := hq1
                        show bj_S (bw_G l D c) Y_Mo_lockAll 2 (0, 0, 0, 0) ad (q_lockAll c M N p ps) 0 0 150 [some (.ref (ad 80)), some (.int (oI (ltd e i))), some (.int (nI 1)), some (.int (nI b)), some (.int (nI 64)), z5] [] N1
                        refine bj_iload_n d_Mo_lockAll_150 rfl rfl ?_
                        refine bj_istore_n (L' := [some (.ref (ad 80)), some (.int (nI b)), some (.int (nI 1)), some (.int (nI b)), some (.int (nI 64)), z5]) d_Mo_lockAll_151 rfl (by decide) rfl ?_
                        refine bj_goto (tgt := 32) d_Mo_lockAll_152 (by decide) ?_
                        exact ih_l2 (la_mu p ps N (ltd (va_up e i b) (i + 1)) + (if true = true then 1 else 0)) (by rw [ltd_up]; rw [if_pos rfl] at hd_l2 ⊢; omega) (i + 1) (va_up e i b) true N1 _ _ _ _ rfl hla2 (by rw [(so_tak (bt_n0.mp h142)).1]; exact hk8) (by rw [(so_tak (bt_n0.mp h142)).2]; exact hk9) (fun q q1 q2 => (hkO q q1 q2).trans (ho3 q q1 q2)) (fun _ => by rw [ltd_up]; rfl) (fun q => by cases q)
                  · refine bj_aload_n d_Mo_lockAll_48 rfl rfl ?_
                    refine bj_get d_Mo_lockAll_49 in_Mo rfl (by decide : 10 < 17) wf_Mo_28 rfl hm3.1 rfl ?_
                    refine bj_iload d_Mo_lockAll_52 rfl ?_
                    refine bv_iald d_Mo_lockAll_54 0 rfl hcn3.2 (by omega) (by first | omega | exact dz31 _ _) rfl ?_
                    refine bj_if_leN (tgt := 76) d_Mo_lockAll_55 (by decide) (by first | omega | exact dz31 _ _) (fun h55 => ?_) (fun h55 => ?_)
                    · have hnew : bz_ok p ps N (ltd e i) (k + 1) bb := bz_no hbb (fun q => by first | (have := vl_iff.mp q.1; omega) | (have q2 := q.2; rw [ho] at q2; rw [hr1.mpr q2] at h69; exact absurd h69 (by decide)))
                      refine bj_iconst (v := (nI 0)) d_Mo_lockAll_76 (by decide) ?_
                      refine bj_istore (L' := [some (.ref (ad 80)), some (.int (oI (ltd e i))), some (.int (bt_n true)), some (.int (oI bb)), some (.int (nI k)), some (.int (nI 0))]) d_Mo_lockAll_77 (by decide) rfl ?_
                      refine bj_iload d_Mo_lockAll_79 rfl ?_
                      refine bj_if_eqN (tgt := 103) d_Mo_lockAll_81 (by decide) (by decide) (fun _ => ?_) (fun h => absurd h (by decide))
                      refine bj_iload_n d_Mo_lockAll_103 rfl rfl ?_
                      refine bj_istore_n (L' := [some (.ref (ad 80)), some (.int (oI (ltd e i))), some (.int (bt_n true)), some (.int (oI bb)), some (.int (nI k)), some (.int (nI 0))]) d_Mo_lockAll_104 rfl (by decide) rfl ?_
                      refine bj_iinc (v := (nI (k + 1))) (L' := [some (.ref (ad 80)), some (.int (oI (ltd e i))), some (.int (bt_n true)), some (.int (oI bb)), some (.int (nI (k + 1))), some (.int (nI 0))]) d_Mo_lockAll_105 rfl (bj_inc1 _) (by decide) rfl ?_
                      refine bj_goto (tgt := 41) d_Mo_lockAll_108 (by decide) ?_
                      exact ih_l3 (64 - (k + 1)) (by omega) (k + 1) bb _ rfl (by omega) hnew
                    · have hvk : vl p N k := vl_iff.mpr h55
                      refine bj_iload_n d_Mo_lockAll_58 rfl rfl ?_
                      refine bj_if_lt (tgt := 72) d_Mo_lockAll_59 (by decide) (fun h59 => ?_) (fun h59 => ?_)
                      · have ho := oI_neg (fun z q => by have := vl_lt hN (la_lt hla q); omega) h59
                        refine bj_iconst (v := (nI 1)) d_Mo_lockAll_72 (by decide) ?_
                        refine bj_goto (tgt := 77) d_Mo_lockAll_73 (by decide) ?_
                        refine bj_istore (L' := [some (.ref (ad 80)), some (.int (oI (ltd e i))), some (.int (bt_n true)), some (.int (oI bb)), some (.int (nI k)), some (.int (nI 1))]) d_Mo_lockAll_77 (by decide) rfl ?_
                        refine bj_iload d_Mo_lockAll_79 rfl ?_
                        refine bj_if_eqN (tgt := 103) d_Mo_lockAll_81 (by decide) (by decide) (fun h => absurd h (by decide)) (fun _ => ?_)
                        have hafk : af p ps (ltd e i) k := by first | (rw [ho]; trivial) | (rw [ho]; exact hr1.mp (bt_nn h69))
                        refine bj_iload_n d_Mo_lockAll_84 rfl rfl ?_
                        refine bj_if_lt (tgt := 98) d_Mo_lockAll_85 (by decide) (fun h85 => ?_) (fun h85 => ?_)
                        · have hbn := oI_neg (fun z q => by have := vl_lt hN (bz_vl hbb q); omega) h85
                          have hnew : bz_ok p ps N (ltd e i) (k + 1) (some k) := bz_first (hbn ▸ hbb) hvk hafk
                          refine bj_iload d_Mo_lockAll_98 rfl ?_
                          refine bj_goto (tgt := 104) d_Mo_lockAll_100 (by decide) ?_
                          refine bj_istore_n (L' := [some (.ref (ad 80)), some (.int (oI (ltd e i))), some (.int (bt_n true)), some (.int (nI k)), some (.int (nI k)), some (.int (nI 1))]) d_Mo_lockAll_104 rfl (by decide) rfl ?_
                          refine bj_iinc (v := (nI (k + 1))) (L' := [some (.ref (ad 80)), some (.int (oI (ltd e i))), some (.int (bt_n true)), some (.int (nI k)), some (.int (nI (k + 1))), some (.int (nI 1))]) d_Mo_lockAll_105 rfl (bj_inc1 _) (by decide) rfl ?_
                          refine bj_goto (tgt := 41) d_Mo_lockAll_108 (by decide) ?_
                          exact ih_l3 (64 - (k + 1)) (by omega) (k + 1) (some k) _ rfl (by omega) hnew
                        · obtain ⟨zb, hzb⟩ := oI_pos h85
                          have hvzb := bz_vl hbb hzb
                          refine bj_aload_n d_Mo_lockAll_88 rfl rfl ?_
                          refine bj_iload d_Mo_lockAll_89 rfl ?_
                          refine bj_iload_n d_Mo_lockAll_91 rfl rfl ?_
                          refine bj_cvR sv_Mo_104 d_Mo_lockAll_92 (t_Mo_isBefore l D c ad M3 hm3 hN hcn3 hz31 hpm (x := k) (y := zb) hvk.1 hvk.2.1 hvzb.1 hvzb.2.1) rfl rfl (by decide) (by decide) (by decide) (Nat.le_of_ble_eq_true rfl) (by rw [hzb]; rfl) hm3.1 rfl rfl (fun v1 N1 hq1 => ?_)
                          obtain ⟨r2, rfl, hr2, hM9⟩ := hq1
                          rw [hM9]
                          show bj_S (bw_G l D c) Y_Mo_lockAll 2 (0, 0, 0, 0) ad (q_lockAll c M N p ps) 0 0 95 [some (.ref (ad 80)), some (.int (oI (ltd e i))), some (.int (bt_n true)), some (.int (oI bb)), some (.int (nI k)), some (.int (nI 1))] [.int (bt_n r2)] M3
                          refine bj_if_eq (tgt := 103) d_Mo_lockAll_95 (by decide) (fun h95 => ?_) (fun h95 => ?_)
                          · have hnew : bz_ok p ps N (ltd e i) (k + 1) bb := by
                              rw [hzb] at hbb ⊢
                              exact bz_old hN hpm hbb hvk (fun q => by rw [hr2.mpr q] at h95; exact absurd h95 (by decide))
                            refine bj_iload_n d_Mo_lockAll_103 rfl rfl ?_
                            refine bj_istore_n (L' := [some (.ref (ad 80)), some (.int (oI (ltd e i))), some (.int (bt_n true)), some (.int (oI bb)), some (.int (nI k)), some (.int (nI 1))]) d_Mo_lockAll_104 rfl (by decide) rfl ?_
                            refine bj_iinc (v := (nI (k + 1))) (L' := [some (.ref (ad 80)), some (.int (oI (ltd e i))), some (.int (bt_n true)), some (.int (oI bb)), some (.int (nI (k + 1))), some (.int (nI 1))]) d_Mo_lockAll_105 rfl (bj_inc1 _) (by decide) rfl ?_
                            refine bj_goto (tgt := 41) d_Mo_lockAll_108 (by decide) ?_
                            exact ih_l3 (64 - (k + 1)) (by omega) (k + 1) bb _ rfl (by omega) hnew
                          · have hnew : bz_ok p ps N (ltd e i) (k + 1) (some k) := bz_new (hzb ▸ hbb) hvk hafk (hr2.mp (bt_nn h95))
                            refine bj_iload d_Mo_lockAll_98 rfl ?_
                            refine bj_goto (tgt := 104) d_Mo_lockAll_100 (by decide) ?_
                            refine bj_istore_n (L' := [some (.ref (ad 80)), some (.int (oI (ltd e i))), some (.int (bt_n true)), some (.int (nI k)), some (.int (nI k)), some (.int (nI 1))]) d_Mo_lockAll_104 rfl (by decide) rfl ?_
                            refine bj_iinc (v := (nI (k + 1))) (L' := [some (.ref (ad 80)), some (.int (oI (ltd e i))), some (.int (bt_n true)), some (.int (nI k)), some (.int (nI (k + 1))), some (.int (nI 1))]) d_Mo_lockAll_105 rfl (bj_inc1 _) (by decide) rfl ?_
                            refine bj_goto (tgt := 41) d_Mo_lockAll_108 (by decide) ?_
                            exact ih_l3 (64 - (k + 1)) (by omega) (k + 1) (some k) _ rfl (by omega) hnew
                      · obtain ⟨zo, ho⟩ := oI_pos h59
                        have hvzo := la_lt hla ho
                        refine bj_aload_n d_Mo_lockAll_62 rfl rfl ?_
                        refine bj_iload_n d_Mo_lockAll_63 rfl rfl ?_
                        refine bj_iload d_Mo_lockAll_64 rfl ?_
                        refine bj_cvR sv_Mo_104 d_Mo_lockAll_66 (t_Mo_isBefore l D c ad M3 hm3 hN hcn3 hz31 hpm (x := zo) (y := k) hvzo.1 hvzo.2.1 hvk.1 hvk.2.1) rfl rfl (by decide) (by decide) (by decide) (Nat.le_of_ble_eq_true rfl) (by rw [ho]; rfl) hm3.1 rfl rfl (fun v1 N1 hq1 => ?_)
                        obtain ⟨r1, rfl, hr1, hM9⟩ := hq1
                        rw [hM9]
                        show bj_S (bw_G l D c) Y_Mo_lockAll 2 (0, 0, 0, 0) ad (q_lockAll c M N p ps) 0 0 69 [some (.ref (ad 80)), some (.int (oI (ltd e i))), some (.int (bt_n true)), some (.int (oI bb)), some (.int (nI k)), z5] [.int (bt_n r1)] M3
                        refine bj_if_eq (tgt := 76) d_Mo_lockAll_69 (by decide) (fun h69 => ?_) (fun h69 => ?_)
                        · have hnew : bz_ok p ps N (ltd e i) (k + 1) bb := bz_no hbb (fun q => by first | (have := vl_iff.mp q.1; omega) | (have q2 := q.2; rw [ho] at q2; rw [hr1.mpr q2] at h69; exact absurd h69 (by decide)))
                          refine bj_iconst (v := (nI 0)) d_Mo_lockAll_76 (by decide) ?_
                          refine bj_istore (L' := [some (.ref (ad 80)), some (.int (oI (ltd e i))), some (.int (bt_n true)), some (.int (oI bb)), some (.int (nI k)), some (.int (nI 0))]) d_Mo_lockAll_77 (by decide) rfl ?_
                          refine bj_iload d_Mo_lockAll_79 rfl ?_
                          refine bj_if_eqN (tgt := 103) d_Mo_lockAll_81 (by decide) (by decide) (fun _ => ?_) (fun h => absurd h (by decide))
                          refine bj_iload_n d_Mo_lockAll_103 rfl rfl ?_
                          refine bj_istore_n (L' := [some (.ref (ad 80)), some (.int (oI (ltd e i))), some (.int (bt_n true)), some (.int (oI bb)), some (.int (nI k)), some (.int (nI 0))]) d_Mo_lockAll_104 rfl (by decide) rfl ?_
                          refine bj_iinc (v := (nI (k + 1))) (L' := [some (.ref (ad 80)), some (.int (oI (ltd e i))), some (.int (bt_n true)), some (.int (oI bb)), some (.int (nI (k + 1))), some (.int (nI 0))]) d_Mo_lockAll_105 rfl (bj_inc1 _) (by decide) rfl ?_
                          refine bj_goto (tgt := 41) d_Mo_lockAll_108 (by decide) ?_
                          exact ih_l3 (64 - (k + 1)) (by omega) (k + 1) bb _ rfl (by omega) hnew
                        · refine bj_iconst (v := (nI 1)) d_Mo_lockAll_72 (by decide) ?_
                          refine bj_goto (tgt := 77) d_Mo_lockAll_73 (by decide) ?_
                          refine bj_istore (L' := [some (.ref (ad 80)), some (.int (oI (ltd e i))), some (.int (bt_n true)), some (.int (oI bb)), some (.int (nI k)), some (.int (nI 1))]) d_Mo_lockAll_77 (by decide) rfl ?_
                          refine bj_iload d_Mo_lockAll_79 rfl ?_
                          refine bj_if_eqN (tgt := 103) d_Mo_lockAll_81 (by decide) (by decide) (fun h => absurd h (by decide)) (fun _ => ?_)
                          have hafk : af p ps (ltd e i) k := by first | (rw [ho]; trivial) | (rw [ho]; exact hr1.mp (bt_nn h69))
                          refine bj_iload_n d_Mo_lockAll_84 rfl rfl ?_
                          refine bj_if_lt (tgt := 98) d_Mo_lockAll_85 (by decide) (fun h85 => ?_) (fun h85 => ?_)
                          · have hbn := oI_neg (fun z q => by have := vl_lt hN (bz_vl hbb q); omega) h85
                            have hnew : bz_ok p ps N (ltd e i) (k + 1) (some k) := bz_first (hbn ▸ hbb) hvk hafk
                            refine bj_iload d_Mo_lockAll_98 rfl ?_
                            refine bj_goto (tgt := 104) d_Mo_lockAll_100 (by decide) ?_
                            refine bj_istore_n (L' := [some (.ref (ad 80)), some (.int (oI (ltd e i))), some (.int (bt_n true)), some (.int (nI k)), some (.int (nI k)), some (.int (nI 1))]) d_Mo_lockAll_104 rfl (by decide) rfl ?_
                            refine bj_iinc (v := (nI (k + 1))) (L' := [some (.ref (ad 80)), some (.int (oI (ltd e i))), some (.int (bt_n true)), some (.int (nI k)), some (.int (nI (k + 1))), some (.int (nI 1))]) d_Mo_lockAll_105 rfl (bj_inc1 _) (by decide) rfl ?_
                            refine bj_goto (tgt := 41) d_Mo_lockAll_108 (by decide) ?_
                            exact ih_l3 (64 - (k + 1)) (by omega) (k + 1) (some k) _ rfl (by omega) hnew
                          · obtain ⟨zb, hzb⟩ := oI_pos h85
                            have hvzb := bz_vl hbb hzb
                            refine bj_aload_n d_Mo_lockAll_88 rfl rfl ?_
                            refine bj_iload d_Mo_lockAll_89 rfl ?_
                            refine bj_iload_n d_Mo_lockAll_91 rfl rfl ?_
                            refine bj_cvR sv_Mo_104 d_Mo_lockAll_92 (t_Mo_isBefore l D c ad M3 hm3 hN hcn3 hz31 hpm (x := k) (y := zb) hvk.1 hvk.2.1 hvzb.1 hvzb.2.1) rfl rfl (by decide) (by decide) (by decide) (Nat.le_of_ble_eq_true rfl) (by rw [hzb]; rfl) hm3.1 rfl rfl (fun v1 N1 hq1 => ?_)
                            obtain ⟨r2, rfl, hr2, hM9⟩ := hq1
                            rw [hM9]
                            show bj_S (bw_G l D c) Y_Mo_lockAll 2 (0, 0, 0, 0) ad (q_lockAll c M N p ps) 0 0 95 [some (.ref (ad 80)), some (.int (oI (ltd e i))), some (.int (bt_n true)), some (.int (oI bb)), some (.int (nI k)), some (.int (nI 1))] [.int (bt_n r2)] M3
                            refine bj_if_eq (tgt := 103) d_Mo_lockAll_95 (by decide) (fun h95 => ?_) (fun h95 => ?_)
                            · have hnew : bz_ok p ps N (ltd e i) (k + 1) bb := by
                                rw [hzb] at hbb ⊢
                                exact bz_old hN hpm hbb hvk (fun q => by rw [hr2.mpr q] at h95; exact absurd h95 (by decide))
                              refine bj_iload_n d_Mo_lockAll_103 rfl rfl ?_
                              refine bj_istore_n (L' := [some (.ref (ad 80)), some (.int (oI (ltd e i))), some (.int (bt_n true)), some (.int (oI bb)), some (.int (nI k)), some (.int (nI 1))]) d_Mo_lockAll_104 rfl (by decide) rfl ?_
                              refine bj_iinc (v := (nI (k + 1))) (L' := [some (.ref (ad 80)), some (.int (oI (ltd e i))), some (.int (bt_n true)), some (.int (oI bb)), some (.int (nI (k + 1))), some (.int (nI 1))]) d_Mo_lockAll_105 rfl (bj_inc1 _) (by decide) rfl ?_
                              refine bj_goto (tgt := 41) d_Mo_lockAll_108 (by decide) ?_
                              exact ih_l3 (64 - (k + 1)) (by omega) (k + 1) bb _ rfl (by omega) hnew
                            · have hnew : bz_ok p ps N (ltd e i) (k + 1) (some k) := bz_new (hzb ▸ hbb) hvk hafk (hr2.mp (bt_nn h95))
                              refine bj_iload d_Mo_lockAll_98 rfl ?_
                              refine bj_goto (tgt := 104) d_Mo_lockAll_100 (by decide) ?_
                              refine bj_istore_n (L' := [some (.ref (ad 80)), some (.int (oI (ltd e i))), some (.int (bt_n true)), some (.int (nI k)), some (.int (nI k)), some (.int (nI 1))]) d_Mo_lockAll_104 rfl (by decide) rfl ?_
                              refine bj_iinc (v := (nI (k + 1))) (L' := [some (.ref (ad 80)), some (.int (oI (ltd e i))), some (.int (bt_n true)), some (.int (nI k)), some (.int (nI (k + 1))), some (.int (nI 1))]) d_Mo_lockAll_105 rfl (bj_inc1 _) (by decide) rfl ?_
                              refine bj_goto (tgt := 41) d_Mo_lockAll_108 (by decide) ?_
                              exact ih_l3 (64 - (k + 1)) (by omega) (k + 1) (some k) _ rfl (by omega) hnew
              exact l3 0 none _ (Nat.zero_le _) bz_0
        exact l2 0 (fun _ => 0) true M2 _ _ _ _ la_0 (h2.to (fun j hj => (he2 j (by omega)).trans rfl)) (h2b.to (fun j hj => (he2b j (by omega)).trans rfl)) ho2 (fun _ => rfl) (fun q => by cases q)
      · refine bj_aload_n d_Mo_lockAll_8 rfl rfl ?_
        refine bj_get d_Mo_lockAll_9 in_Mo rfl (by decide : 12 < 17) wf_Mo_34 rfl hO2b rfl ?_
        refine bj_iload_n d_Mo_lockAll_12 rfl rfl ?_
        refine bj_iconst (v := (nI 0)) d_Mo_lockAll_13 (by decide) ?_
        refine bv_zast d_Mo_lockAll_14 1 rfl h2 (by omega) (by first | omega | exact dz31 _ _) rfl (fun N1 hN1 hO1 => ?_)
        have hO3 := (hO1 80 (by decide)).trans hO2b
        have h3b := h2b.in (hO1 90 (by decide))
        refine bj_aload_n d_Mo_lockAll_15 rfl rfl ?_
        refine bj_get d_Mo_lockAll_16 in_Mo rfl (by decide : 13 < 17) wf_Mo_38 rfl hO3 rfl ?_
        refine bj_iload_n d_Mo_lockAll_19 rfl rfl ?_
        refine bj_iconst (v := (nI 0)) d_Mo_lockAll_20 (by decide) ?_
        refine bv_zast d_Mo_lockAll_21 1 rfl h3b (by omega) (by first | omega | exact dz31 _ _) rfl (fun N2 hN2 hO2 => ?_)
        refine bj_iinc (v := (nI (i + 1))) (L' := [some (.ref (ad 80)), some (.int (nI (i + 1))), none, none, none, none]) d_Mo_lockAll_22 rfl (bj_inc1 _) (by decide) rfl ?_
        refine bj_goto (tgt := 2) d_Mo_lockAll_25 (by decide) ?_
        exact ih_l1 (64 - (i + 1)) (by omega) (i + 1) N2 _ _ rfl (by omega) (hN1.in (hO2 89 (by decide))) (fun j hj => by
          by_cases e : j = i
          · subst e; rw [va_up_self]
          · rw [va_up_ne _ _ e]; exact he2 j (by omega)) hN2 (fun j hj => by
          by_cases e : j = i
          · subst e; rw [va_up_self]
          · rw [va_up_ne _ _ e]; exact he2b j (by omega)) (fun q q1 q2 => (hO2 q q2).trans ((hO1 q q1).trans (ho2 q q1 q2)))
  exact l1 0 M _ _ (Nat.zero_le _) hlk (fun j hj => absurd hj (Nat.not_lt_zero _)) hld (fun j hj => absurd hj (Nat.not_lt_zero _)) (fun _ _ _ => rfl)
end M7
