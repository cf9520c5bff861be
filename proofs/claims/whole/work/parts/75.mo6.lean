/-! the reference: isBefore, lock, lockAll (walks by gen/m_mo6.py) -/
section M6

/-- a grid of truths -/
def bg (r : Nat → Nat → Bool) (j : Nat) : Int32 := bt_n (r (j / 8) (j % 8))
def lg_md (ld : Nat → Nat → Bool) (a b k : Nat) (j : Nat) : Int32 := if j < k then bg (ml_ld ld a b) j else bg ld j
theorem lg_col {ld : Nat → Nat → Bool} {a b x k : Nat} (hab : a ≠ b) (hn : ld b a = false) (ha : a < 8) : lg_md ld a b k (8 * x + a) = bt_n (ld x a) := by
  unfold lg_md bg
  rw [show (8 * x + a) / 8 = x by omega, show (8 * x + a) % 8 = a by omega]
  have : ml_ld ld a b x a = ld x a := by
    unfold ml_ld
    rw [hn, beq_eq_false_iff_ne.mpr hab, Bool.or_false, Bool.and_false, Bool.or_false]
  rw [this]
  split <;> rfl
theorem lg_row {ld : Nat → Nat → Bool} {a b y k : Nat} (hab : a ≠ b) (hn : ld b a = false) (hy : y < 8) : lg_md ld a b k (8 * b + y) = bt_n (ld b y) := by
  unfold lg_md bg
  rw [show (8 * b + y) / 8 = b by omega, show (8 * b + y) % 8 = y by omega]
  have : ml_ld ld a b b y = ld b y := by
    unfold ml_ld
    rw [hn, beq_eq_false_iff_ne.mpr (Ne.symm hab), Bool.or_false, Bool.false_and, Bool.or_false]
  rw [this]
  split <;> rfl
theorem lg_at {ld : Nat → Nat → Bool} {a b k : Nat} : lg_md ld a b k k = bt_n (ld (k / 8) (k % 8)) := if_neg (Nat.lt_irrefl _)
theorem lg_s {ld : Nat → Nat → Bool} {a b k j : Nat} : va_up (lg_md ld a b k) k (bt_n (ml_ld ld a b (k / 8) (k % 8))) j = lg_md ld a b (k + 1) j := by
  unfold lg_md
  by_cases e : j = k
  · subst e; rw [va_up_self, if_pos (by omega)]; rfl
  · rw [va_up_ne _ _ e]
    by_cases e2 : j < k
    · rw [if_pos e2, if_pos (by omega)]
    · rw [if_neg e2, if_neg (by omega)]
theorem bg_lk {lk : Nat → Nat → Bool} {x j : Nat} : va_up (bg lk) x (nI 1) j = bg (ml_lk lk (x / 8) (x % 8)) j := by
  unfold bg ml_lk
  by_cases e : j = x
  · subst e
    rw [va_up_self, beq_self_eq_true, beq_self_eq_true, Bool.and_true, Bool.or_true]
    rfl
  · rw [va_up_ne _ _ e]
    have : (j / 8 == x / 8 && j % 8 == x % 8) = false := by
      rw [Bool.and_eq_false_iff, beq_eq_false_iff_ne, beq_eq_false_iff_ne]
      omega
    rw [this, Bool.or_false]
theorem ld_t {ld : Nat → Nat → Bool} {a b x y : Nat} (h : ld x y = true ∨ ((x = a ∨ ld x a = true) ∧ (y = b ∨ ld b y = true))) : nI 1 = bt_n (ml_ld ld a b x y) := by
  have : ml_ld ld a b x y = true := by
    unfold ml_ld
    rw [Bool.or_eq_true, Bool.and_eq_true, Bool.or_eq_true, Bool.or_eq_true, beq_iff_eq, beq_iff_eq]
    exact h
  rw [this]
  rfl
theorem ld_f {ld : Nat → Nat → Bool} {a b x y : Nat} (h : ¬ (ld x y = true ∨ ((x = a ∨ ld x a = true) ∧ (y = b ∨ ld b y = true)))) : nI 0 = bt_n (ml_ld ld a b x y) := by
  have : ml_ld ld a b x y = false := by
    rw [Bool.eq_false_iff]
    intro q
    unfold ml_ld at q
    rw [Bool.or_eq_true, Bool.and_eq_true, Bool.or_eq_true, Bool.or_eq_true, beq_iff_eq, beq_iff_eq] at q
    exact h q
  rw [this]
  rfl
def q_mlock (c : Nat → ClassId) (M : bj_M) (lk ld : Nat → Nat → Bool) (a b : Nat) : bj_R → bj_M → Prop := bj_ret (fun r M' => r = none ∧ bv_I (c 1) M' 89 64 (bg (ml_lk lk a b)) ∧ bv_I (c 1) M' 90 64 (bg (ml_ld ld a b)) ∧ ∀ q, q ≠ 89 → q ≠ 90 → M' q = M q)
/-- all locked -/
def q_lockAll (c : Nat → ClassId) (M : bj_M) (N : Nat) (p : Nat → Nat → Nat) (ps : Nat → Nat) : bj_R → bj_M → Prop := bj_ret (fun r M' => r = none ∧ (∃ e pn, so_all p ps N e pn ∧ bv_I (c 1) M' 89 64 (bg (so_lk e pn)) ∧ bv_I (c 1) M' 90 64 (bg (so_ld e pn))) ∧ ∀ q, q ≠ 89 → q ≠ 90 → M' q = M q)
/-- a pair that counts -/
def vl (p : Nat → Nat → Nat) (N y : Nat) : Prop := y / 8 < N ∧ y % 8 < N ∧ 0 < drn p (y / 8) (y % 8)
/-- behind the last -/
def af (p : Nat → Nat → Nat) (ps : Nat → Nat) (o : Option Nat) (y : Nat) : Prop := match o with
  | none => True
  | some z => so_bf p ps z y
/-- the best below k -/
def bz_ok (p : Nat → Nat → Nat) (ps : Nat → Nat) (N : Nat) (o : Option Nat) (k : Nat) (b : Option Nat) : Prop := match b with
  | none => ∀ y, y < k → ¬ (vl p N y ∧ af p ps o y)
  | some z => z < k ∧ vl p N z ∧ af p ps o z ∧ ∀ y, y < k → vl p N y → af p ps o y → y = z ∨ so_bf p ps z y
def ltd (e : Nat → Nat) (i : Nat) : Option Nat := if i = 0 then none else some (e (i - 1))
/-- the first i, in their order, and all others behind -/
def la_ok (p : Nat → Nat → Nat) (ps : Nat → Nat) (N : Nat) (e : Nat → Nat) (i : Nat) : Prop := so_st p ps e i ∧ (∀ t, t < i → vl p N (e t)) ∧ ∀ y, y < 64 → vl p N y → (∃ t, t < i ∧ e t = y) ∨ af p ps (ltd e i) y
section Q
variable {p : Nat → Nat → Nat} {ps dw e : Nat → Nat} {N i k : Nat}
theorem so_bf_tot (hN : N ≤ 8) (hp : pm_ok N dw ps) {x y : Nat} (hx : vl p N x) (hy : vl p N y) (hne : x ≠ y) : so_bf p ps x y ∨ so_bf p ps y x := by
  rcases ml_bf_to (d := fun x => drn p (x / 8) (x % 8)) (q := fun x => p (x % 8) (x / 8)) (pu := fun x => ps (x / 8)) (pl := fun x => ps (x % 8)) (x := x) (y := y) with h | ⟨-, -, h1, h2⟩ | h
  · exact Or.inl h
  · exfalso
    have a1 := (hp.2 _ hx.1).2
    have a2 := (hp.2 _ hy.1).2
    have a3 := (hp.2 _ hx.2.1).2
    have a4 := (hp.2 _ hy.2.1).2
    rw [h1] at a1
    rw [h2] at a3
    omega
  · exact Or.inr h
theorem la_0 : la_ok p ps N e 0 := ⟨fun _ _ _ h => absurd h (Nat.not_lt_zero _), fun _ h => absurd h (Nat.not_lt_zero _), fun _ _ _ => Or.inr trivial⟩
theorem la_s {b : Nat} (hN : N ≤ 8) (hp : pm_ok N dw ps) (h : la_ok p ps N e i) (hb : bz_ok p ps N (ltd e i) 64 (some b)) : la_ok p ps N (va_up e i b) (i + 1) := by
  obtain ⟨h1, h2, h3⟩ := h
  obtain ⟨b1, b2, b3, b4⟩ := hb
  have hl : ltd (va_up e i b) (i + 1) = some b := by
    unfold ltd
    rw [if_neg (by omega), Nat.add_sub_cancel, va_up_self]
  refine ⟨fun s t hst ht => ?_, fun t ht => ?_, fun y hy hv => ?_⟩
  · rw [va_up_ne _ _ (show s ≠ i by omega)]
    by_cases q : t = i
    · rw [q, va_up_self]
      have hi : i ≠ 0 := by omega
      have b3' : so_bf p ps (e (i - 1)) b := by
        unfold ltd at b3
        rw [if_neg hi] at b3
        exact b3
      rcases Nat.lt_or_ge s (i - 1) with r | r
      · exact so_bf_tr (h1 s (i - 1) r (by omega)) b3'
      · rw [show s = i - 1 by omega]; exact b3'
    · rw [va_up_ne _ _ q]
      exact h1 s t hst (by omega)
  · by_cases q : t = i
    · rw [q, va_up_self]; exact b2
    · rw [va_up_ne _ _ q]; exact h2 t (by omega)
  · rw [hl]
    rcases h3 y hy hv with ⟨t, ht, q⟩ | q
    · exact Or.inl ⟨t, by omega, by rw [va_up_ne _ _ (show t ≠ i by omega)]; exact q⟩
    · rcases b4 y hy hv q with r | r
      · exact Or.inl ⟨i, by omega, by rw [va_up_self]; exact r.symm⟩
      · exact Or.inr r
theorem la_e (hN : N ≤ 8) (h : la_ok p ps N e i) (hb : bz_ok p ps N (ltd e i) 64 none) : so_all p ps N e i := by
  obtain ⟨h1, h2, h3⟩ := h
  refine ⟨h1, h2, fun a b ha hb9 hd => ?_⟩
  have hv : vl p N (8 * a + b) := by
    unfold vl
    rw [show (8 * a + b) / 8 = a by omega, show (8 * a + b) % 8 = b by omega]
    exact ⟨ha, hb9, hd⟩
  rcases h3 (8 * a + b) (by omega) hv with ⟨t, ht, q⟩ | q
  · exact ⟨t, ht, q⟩
  · exact absurd ⟨hv, q⟩ (hb _ (by omega))
theorem bz_0 {o : Option Nat} : bz_ok p ps N o 0 none := fun _ h => absurd h (Nat.not_lt_zero _)
theorem bz_no {o b : Option Nat} (h : bz_ok p ps N o k b) (hk : ¬ (vl p N k ∧ af p ps o k)) : bz_ok p ps N o (k + 1) b := by
  cases b with
  | none =>
    intro y hy
    by_cases q : y = k
    · rw [q]; exact hk
    · exact h y (by omega)
  | some z =>
    obtain ⟨h1, h2, h3, h4⟩ := h
    refine ⟨by omega, h2, h3, fun y hy hv ha => ?_⟩
    by_cases q : y = k
    · rw [q] at hv ha; exact absurd ⟨hv, ha⟩ hk
    · exact h4 y (by omega) hv ha
theorem bz_first {o : Option Nat} (h : bz_ok p ps N o k none) (hv : vl p N k) (ha : af p ps o k) : bz_ok p ps N o (k + 1) (some k) := ⟨by omega, hv, ha, fun y hy hv2 ha2 => by
  by_cases q : y = k
  · exact Or.inl q
  · exact absurd ⟨hv2, ha2⟩ (h y (by omega))⟩
theorem bz_new {o : Option Nat} {z : Nat} (h : bz_ok p ps N o k (some z)) (hv : vl p N k) (ha : af p ps o k) (hb : so_bf p ps k z) : bz_ok p ps N o (k + 1) (some k) := ⟨by omega, hv, ha, fun y hy hv2 ha2 => by
  by_cases q : y = k
  · exact Or.inl q
  · rcases h.2.2.2 y (by omega) hv2 ha2 with r | r
    · rw [r]; exact Or.inr hb
    · exact Or.inr (so_bf_tr hb r)⟩
theorem bz_old {o : Option Nat} {z : Nat} (hN : N ≤ 8) (hp : pm_ok N dw ps) (h : bz_ok p ps N o k (some z)) (hv : vl p N k) (hb : ¬ so_bf p ps k z) : bz_ok p ps N o (k + 1) (some z) := by
  obtain ⟨h1, h2, h3, h4⟩ := h
  refine ⟨by omega, h2, h3, fun y hy hv2 ha2 => ?_⟩
  by_cases q : y = k
  · rw [q]
    rcases so_bf_tot hN hp hv h2 (by omega) with r | r
    · exact absurd r hb
    · exact Or.inr r
  · exact h4 y (by omega) hv2 ha2
/-- how many are left -/
noncomputable def la_mu (p : Nat → Nat → Nat) (ps : Nat → Nat) (N : Nat) (o : Option Nat) : Nat := mn_cnt (fun y => @decide (vl p N y ∧ af p ps o y) (Classical.propDecidable _)) 64
theorem la_mu_lt {o : Option Nat} {b : Nat} (hb : bz_ok p ps N o 64 (some b)) : la_mu p ps N (some b) < la_mu p ps N o := by
  obtain ⟨b1, b2, b3, b4⟩ := hb
  refine mn_cnt_lt (i := b) 64 (fun y _ hy => ?_) b1 ?_ ?_
  · have h := @of_decide_eq_true _ (Classical.propDecidable _) hy
    refine @decide_eq_true _ (Classical.propDecidable _) ⟨h.1, ?_⟩
    cases o with
    | none => trivial
    | some z => exact so_bf_tr b3 h.2
  · exact @decide_eq_false _ (Classical.propDecidable _) (fun q => so_bf_ir q.2)
  · exact @decide_eq_true _ (Classical.propDecidable _) ⟨b2, b3⟩
end Q
variable (l : Launch) (D : va_G) (c : Nat → ClassId) (ad : Nat → Nat) (M : bj_M)
set_option maxRecDepth 100000 in
set_option maxHeartbeats 4000000 in
/-- isBefore -/
theorem t_Mo_isBefore {N op : Nat} {cd li : Int32} {se : Bool} {dw sg sz : Nat → Nat} {rk : Nat → Nat → Int32} {tm : Nat → Nat → Nat} (hm0 : mo_ok c ad M N cd se op li dw sg sz rk tm) (hN : N ≤ 8) {p : Nat → Nat → Nat} {ps : Nat → Nat} (hcn : cn_ok c M N p) (hz31 : ∀ a b, pz N p a b < 2 ^ 31) (hpm : pm_ok N dw ps) {x y : Nat} (hx1 : x / 8 < N) (hx2 : x % 8 < N) (hy1 : y / 8 < N) (hy2 : y % 8 < N) : bj_T (bw_G l D c) Y_Mo_isBefore 1 (0, 0, 0, 0) ad (q_b M (so_bf p ps x y)) [.ref (ad 80), .int (nI x), .int (nI y)] M := by
  show bj_S _ _ _ _ _ _ 0 0 0 [some (.ref (ad 80)), some (.int (nI x)), some (.int (nI y)), none, none] [] M
  have pb : ∀ a b, a < N → b < N → p a b < 2 ^ 31 := fun a b ha hb => by have := hz31 a b; rw [pz_in ha hb] at this; exact this
  have psb : ∀ a, a < N → ps a < 2 ^ 31 := fun a ha => by have := (hpm.2 a ha).1; omega
  have inj : ∀ a b, a < N → b < N → ps a = ps b → a = b := fun a b ha hb e => by rw [← (hpm.2 a ha).2, e]; exact (hpm.2 b hb).2
  refine bj_bipush (v := (nI 8)) d_Mo_isBefore_0 (by decide) ?_
  refine bj_iload_n d_Mo_isBefore_2 rfl rfl ?_
  refine bj_bipush (v := (nI 8)) d_Mo_isBefore_3 (by decide) ?_
  refine bj_irem (v := (nI (x % 8))) d_Mo_isBefore_5 (by decide) (pk_rem (by omega) (by decide) (by decide)) ?_
  refine bj_imul (v := (nI (8 * (x % 8)))) d_Mo_isBefore_6 (pk_mul _ _) ?_
  refine bj_iload_n d_Mo_isBefore_7 rfl rfl ?_
  refine bj_bipush (v := (nI 8)) d_Mo_isBefore_8 (by decide) ?_
  refine bj_idiv (v := (nI (x / 8))) d_Mo_isBefore_10 (by decide) (pk_div (by omega) (by decide) (by decide)) ?_
  refine bj_iadd (v := (nI ((8 * (x % 8)) + (x / 8)))) d_Mo_isBefore_11 (nI_add _ _) ?_
  refine bj_istore_n (L' := [some (.ref (ad 80)), some (.int (nI x)), some (.int (nI y)), some (.int (nI ((8 * (x % 8)) + (x / 8)))), none]) d_Mo_isBefore_12 rfl (by decide) rfl ?_
  refine bj_bipush (v := (nI 8)) d_Mo_isBefore_13 (by decide) ?_
  refine bj_iload_n d_Mo_isBefore_15 rfl rfl ?_
  refine bj_bipush (v := (nI 8)) d_Mo_isBefore_16 (by decide) ?_
  refine bj_irem (v := (nI (y % 8))) d_Mo_isBefore_18 (by decide) (pk_rem (by omega) (by decide) (by decide)) ?_
  refine bj_imul (v := (nI (8 * (y % 8)))) d_Mo_isBefore_19 (pk_mul _ _) ?_
  refine bj_iload_n d_Mo_isBefore_20 rfl rfl ?_
  refine bj_bipush (v := (nI 8)) d_Mo_isBefore_21 (by decide) ?_
  refine bj_idiv (v := (nI (y / 8))) d_Mo_isBefore_23 (by decide) (pk_div (by omega) (by decide) (by decide)) ?_
  refine bj_iadd (v := (nI ((8 * (y % 8)) + (y / 8)))) d_Mo_isBefore_24 (nI_add _ _) ?_
  refine bj_istore (L' := [some (.ref (ad 80)), some (.int (nI x)), some (.int (nI y)), some (.int (nI ((8 * (x % 8)) + (x / 8)))), some (.int (nI ((8 * (y % 8)) + (y / 8))))]) d_Mo_isBefore_25 (by decide) rfl ?_
  refine bj_aload_n d_Mo_isBefore_27 rfl rfl ?_
  refine bj_get d_Mo_isBefore_28 in_Mo rfl (by decide : 10 < 17) wf_Mo_28 rfl hm0.1 rfl ?_
  refine bj_iload_n d_Mo_isBefore_31 rfl rfl ?_
  refine bv_iald (v := (nI (drn p (x / 8) (x % 8)))) d_Mo_isBefore_32 0 rfl hcn.2 (by omega) (by first | omega | exact drn_lt pb (by omega) (by omega) | exact pb _ _ (by omega) (by omega) | exact psb _ (by omega)) (by show nI _ = nI _; rw [drn_pz_in (by omega) (by omega)]) ?_
  refine bj_aload_n d_Mo_isBefore_33 rfl rfl ?_
  refine bj_get d_Mo_isBefore_34 in_Mo rfl (by decide : 10 < 17) wf_Mo_28 rfl hm0.1 rfl ?_
  refine bj_iload_n d_Mo_isBefore_37 rfl rfl ?_
  refine bv_iald (v := (nI (drn p (y / 8) (y % 8)))) d_Mo_isBefore_38 0 rfl hcn.2 (by omega) (by first | omega | exact drn_lt pb (by omega) (by omega) | exact pb _ _ (by omega) (by omega) | exact psb _ (by omega)) (by show nI _ = nI _; rw [drn_pz_in (by omega) (by omega)]) ?_
  refine bj_icmp_eqN (tgt := 63) d_Mo_isBefore_39 (by decide) (by first | omega | exact drn_lt pb (by omega) (by omega) | exact pb _ _ (by omega) (by omega) | exact psb _ (by omega)) (by first | omega | exact drn_lt pb (by omega) (by omega) | exact pb _ _ (by omega) (by omega) | exact psb _ (by omega)) (fun h39 => ?_) (fun h39 => ?_)
  · refine bj_aload_n d_Mo_isBefore_63 rfl rfl ?_
    refine bj_get d_Mo_isBefore_64 in_Mo rfl (by decide : 9 < 17) wf_Mo_25 rfl hm0.1 rfl ?_
    refine bj_iload_n d_Mo_isBefore_67 rfl rfl ?_
    refine bv_iald (v := (nI (p (x % 8) (x / 8)))) d_Mo_isBefore_68 0 rfl hcn.1 (by omega) (by first | omega | exact drn_lt pb (by omega) (by omega) | exact pb _ _ (by omega) (by omega) | exact psb _ (by omega)) (by show nI _ = nI _; rw [show (8 * (x % 8) + x / 8) / 8 = x % 8 by omega, show (8 * (x % 8) + x / 8) % 8 = x / 8 by omega, pz_in (by omega) (by omega)]) ?_
    refine bj_aload_n d_Mo_isBefore_69 rfl rfl ?_
    refine bj_get d_Mo_isBefore_70 in_Mo rfl (by decide : 9 < 17) wf_Mo_25 rfl hm0.1 rfl ?_
    refine bj_iload d_Mo_isBefore_73 rfl ?_
    refine bv_iald (v := (nI (p (y % 8) (y / 8)))) d_Mo_isBefore_75 0 rfl hcn.1 (by omega) (by first | omega | exact drn_lt pb (by omega) (by omega) | exact pb _ _ (by omega) (by omega) | exact psb _ (by omega)) (by show nI _ = nI _; rw [show (8 * (y % 8) + y / 8) / 8 = y % 8 by omega, show (8 * (y % 8) + y / 8) % 8 = y / 8 by omega, pz_in (by omega) (by omega)]) ?_
    refine bj_icmp_eqN (tgt := 101) d_Mo_isBefore_76 (by decide) (by first | omega | exact drn_lt pb (by omega) (by omega) | exact pb _ _ (by omega) (by omega) | exact psb _ (by omega)) (by first | omega | exact drn_lt pb (by omega) (by omega) | exact pb _ _ (by omega) (by omega) | exact psb _ (by omega)) (fun h76 => ?_) (fun h76 => ?_)
    · refine bj_iload_n d_Mo_isBefore_101 rfl rfl ?_
      refine bj_bipush (v := (nI 8)) d_Mo_isBefore_102 (by decide) ?_
      refine bj_idiv (v := (nI (x / 8))) d_Mo_isBefore_104 (by decide) (pk_div (by omega) (by decide) (by decide)) ?_
      refine bj_iload_n d_Mo_isBefore_105 rfl rfl ?_
      refine bj_bipush (v := (nI 8)) d_Mo_isBefore_106 (by decide) ?_
      refine bj_idiv (v := (nI (y / 8))) d_Mo_isBefore_108 (by decide) (pk_div (by omega) (by decide) (by decide)) ?_
      refine bj_icmp_eqN (tgt := 139) d_Mo_isBefore_109 (by decide) (by first | omega | exact drn_lt pb (by omega) (by omega) | exact pb _ _ (by omega) (by omega) | exact psb _ (by omega)) (by first | omega | exact drn_lt pb (by omega) (by omega) | exact pb _ _ (by omega) (by omega) | exact psb _ (by omega)) (fun h109 => ?_) (fun h109 => ?_)
      · refine bj_aload_n d_Mo_isBefore_139 rfl rfl ?_
        refine bj_iload_n d_Mo_isBefore_140 rfl rfl ?_
        refine bj_bipush (v := (nI 8)) d_Mo_isBefore_141 (by decide) ?_
        refine bj_irem (v := (nI (x % 8))) d_Mo_isBefore_143 (by decide) (pk_rem (by omega) (by decide) (by decide)) ?_
        refine bj_cvF sv_Mo_65 d_Mo_isBefore_144 (t_Mo_placeOf l D c ad M hm0 hN hpm (by omega)) rfl rfl (by decide) (by decide) (by decide) (Nat.le_of_ble_eq_true rfl) rfl hm0.1 rfl rfl ?_
        refine bj_aload_n d_Mo_isBefore_147 rfl rfl ?_
        refine bj_iload_n d_Mo_isBefore_148 rfl rfl ?_
        refine bj_bipush (v := (nI 8)) d_Mo_isBefore_149 (by decide) ?_
        refine bj_irem (v := (nI (y % 8))) d_Mo_isBefore_151 (by decide) (pk_rem (by omega) (by decide) (by decide)) ?_
        refine bj_cvF sv_Mo_65 d_Mo_isBefore_152 (t_Mo_placeOf l D c ad M hm0 hN hpm (by omega)) rfl rfl (by decide) (by decide) (by decide) (Nat.le_of_ble_eq_true rfl) rfl hm0.1 rfl rfl ?_
        refine bj_icmp_geN (tgt := 162) d_Mo_isBefore_155 (by decide) (by first | omega | exact drn_lt pb (by omega) (by omega) | exact pb _ _ (by omega) (by omega) | exact psb _ (by omega)) (by first | omega | exact drn_lt pb (by omega) (by omega) | exact pb _ _ (by omega) (by omega) | exact psb _ (by omega)) (fun h155 => ?_) (fun h155 => ?_)
        · refine bj_iconst (v := (nI 0)) d_Mo_isBefore_162 (by decide) ?_
          exact bj_iret d_Mo_isBefore_163 rfl rfl (Nat.le_refl _) (Nat.le_refl _) (qb_f (fun q => by unfold so_bf ml_bf at q; dsimp only at q; first | omega | (have := inj _ _ hx1 hy1; omega) | (have e1 : ps (x / 8) = ps (y / 8) := (by rw [h109]); omega)))
        · refine bj_iconst (v := (nI 1)) d_Mo_isBefore_158 (by decide) ?_
          refine bj_goto (tgt := 163) d_Mo_isBefore_159 (by decide) ?_
          exact bj_iret d_Mo_isBefore_163 rfl rfl (Nat.le_refl _) (Nat.le_refl _) (qb_t (by unfold so_bf ml_bf; dsimp only; first | omega | (have e1 : ps (x / 8) = ps (y / 8) := (by rw [h109]); omega)))
      · refine bj_aload_n d_Mo_isBefore_112 rfl rfl ?_
        refine bj_iload_n d_Mo_isBefore_113 rfl rfl ?_
        refine bj_bipush (v := (nI 8)) d_Mo_isBefore_114 (by decide) ?_
        refine bj_idiv (v := (nI (x / 8))) d_Mo_isBefore_116 (by decide) (pk_div (by omega) (by decide) (by decide)) ?_
        refine bj_cvF sv_Mo_65 d_Mo_isBefore_117 (t_Mo_placeOf l D c ad M hm0 hN hpm (by omega)) rfl rfl (by decide) (by decide) (by decide) (Nat.le_of_ble_eq_true rfl) rfl hm0.1 rfl rfl ?_
        refine bj_aload_n d_Mo_isBefore_120 rfl rfl ?_
        refine bj_iload_n d_Mo_isBefore_121 rfl rfl ?_
        refine bj_bipush (v := (nI 8)) d_Mo_isBefore_122 (by decide) ?_
        refine bj_idiv (v := (nI (y / 8))) d_Mo_isBefore_124 (by decide) (pk_div (by omega) (by decide) (by decide)) ?_
        refine bj_cvF sv_Mo_65 d_Mo_isBefore_125 (t_Mo_placeOf l D c ad M hm0 hN hpm (by omega)) rfl rfl (by decide) (by decide) (by decide) (Nat.le_of_ble_eq_true rfl) rfl hm0.1 rfl rfl ?_
        refine bj_icmp_geN (tgt := 135) d_Mo_isBefore_128 (by decide) (by first | omega | exact drn_lt pb (by omega) (by omega) | exact pb _ _ (by omega) (by omega) | exact psb _ (by omega)) (by first | omega | exact drn_lt pb (by omega) (by omega) | exact pb _ _ (by omega) (by omega) | exact psb _ (by omega)) (fun h128 => ?_) (fun h128 => ?_)
        · refine bj_iconst (v := (nI 0)) d_Mo_isBefore_135 (by decide) ?_
          refine bj_goto (tgt := 163) d_Mo_isBefore_136 (by decide) ?_
          exact bj_iret d_Mo_isBefore_163 rfl rfl (Nat.le_refl _) (Nat.le_refl _) (qb_f (fun q => by unfold so_bf ml_bf at q; dsimp only at q; first | omega | (have := inj _ _ hx1 hy1; omega) | (have e1 : ps (x / 8) = ps (y / 8) := (by rw [h109]); omega)))
        · refine bj_iconst (v := (nI 1)) d_Mo_isBefore_131 (by decide) ?_
          refine bj_goto (tgt := 163) d_Mo_isBefore_132 (by decide) ?_
          exact bj_iret d_Mo_isBefore_163 rfl rfl (Nat.le_refl _) (Nat.le_refl _) (qb_t (by unfold so_bf ml_bf; dsimp only; first | omega | (have e1 : ps (x / 8) = ps (y / 8) := (by rw [h109]); omega)))
    · refine bj_aload_n d_Mo_isBefore_79 rfl rfl ?_
      refine bj_get d_Mo_isBefore_80 in_Mo rfl (by decide : 9 < 17) wf_Mo_25 rfl hm0.1 rfl ?_
      refine bj_iload_n d_Mo_isBefore_83 rfl rfl ?_
      refine bv_iald (v := (nI (p (x % 8) (x / 8)))) d_Mo_isBefore_84 0 rfl hcn.1 (by omega) (by first | omega | exact drn_lt pb (by omega) (by omega) | exact pb _ _ (by omega) (by omega) | exact psb _ (by omega)) (by show nI _ = nI _; rw [show (8 * (x % 8) + x / 8) / 8 = x % 8 by omega, show (8 * (x % 8) + x / 8) % 8 = x / 8 by omega, pz_in (by omega) (by omega)]) ?_
      refine bj_aload_n d_Mo_isBefore_85 rfl rfl ?_
      refine bj_get d_Mo_isBefore_86 in_Mo rfl (by decide : 9 < 17) wf_Mo_25 rfl hm0.1 rfl ?_
      refine bj_iload d_Mo_isBefore_89 rfl ?_
      refine bv_iald (v := (nI (p (y % 8) (y / 8)))) d_Mo_isBefore_91 0 rfl hcn.1 (by omega) (by first | omega | exact drn_lt pb (by omega) (by omega) | exact pb _ _ (by omega) (by omega) | exact psb _ (by omega)) (by show nI _ = nI _; rw [show (8 * (y % 8) + y / 8) / 8 = y % 8 by omega, show (8 * (y % 8) + y / 8) % 8 = y / 8 by omega, pz_in (by omega) (by omega)]) ?_
      refine bj_icmp_geN (tgt := 99) d_Mo_isBefore_92 (by decide) (by first | omega | exact drn_lt pb (by omega) (by omega) | exact pb _ _ (by omega) (by omega) | exact psb _ (by omega)) (by first | omega | exact drn_lt pb (by omega) (by omega) | exact pb _ _ (by omega) (by omega) | exact psb _ (by omega)) (fun h92 => ?_) (fun h92 => ?_)
      · refine bj_iconst (v := (nI 0)) d_Mo_isBefore_99 (by decide) ?_
        exact bj_iret d_Mo_isBefore_100 rfl rfl (Nat.le_refl _) (Nat.le_refl _) (qb_f (fun q => by unfold so_bf ml_bf at q; dsimp only at q; first | omega | (have := inj _ _ hx1 hy1; omega) | (have e1 : ps (x / 8) = ps (y / 8) := (by rw [h109]); omega)))
      · refine bj_iconst (v := (nI 1)) d_Mo_isBefore_95 (by decide) ?_
        refine bj_goto (tgt := 100) d_Mo_isBefore_96 (by decide) ?_
        exact bj_iret d_Mo_isBefore_100 rfl rfl (Nat.le_refl _) (Nat.le_refl _) (qb_t (by unfold so_bf ml_bf; dsimp only; first | omega | (have e1 : ps (x / 8) = ps (y / 8) := (by rw [h109]); omega)))
  · refine bj_aload_n d_Mo_isBefore_42 rfl rfl ?_
    refine bj_get d_Mo_isBefore_43 in_Mo rfl (by decide : 10 < 17) wf_Mo_28 rfl hm0.1 rfl ?_
    refine bj_iload_n d_Mo_isBefore_46 rfl rfl ?_
    refine bv_iald (v := (nI (drn p (x / 8) (x % 8)))) d_Mo_isBefore_47 0 rfl hcn.2 (by omega) (by first | omega | exact drn_lt pb (by omega) (by omega) | exact pb _ _ (by omega) (by omega) | exact psb _ (by omega)) (by show nI _ = nI _; rw [drn_pz_in (by omega) (by omega)]) ?_
    refine bj_aload_n d_Mo_isBefore_48 rfl rfl ?_
    refine bj_get d_Mo_isBefore_49 in_Mo rfl (by decide : 10 < 17) wf_Mo_28 rfl hm0.1 rfl ?_
    refine bj_iload_n d_Mo_isBefore_52 rfl rfl ?_
    refine bv_iald (v := (nI (drn p (y / 8) (y % 8)))) d_Mo_isBefore_53 0 rfl hcn.2 (by omega) (by first | omega | exact drn_lt pb (by omega) (by omega) | exact pb _ _ (by omega) (by omega) | exact psb _ (by omega)) (by show nI _ = nI _; rw [drn_pz_in (by omega) (by omega)]) ?_
    refine bj_icmp_leN (tgt := 61) d_Mo_isBefore_54 (by decide) (by first | omega | exact drn_lt pb (by omega) (by omega) | exact pb _ _ (by omega) (by omega) | exact psb _ (by omega)) (by first | omega | exact drn_lt pb (by omega) (by omega) | exact pb _ _ (by omega) (by omega) | exact psb _ (by omega)) (fun h54 => ?_) (fun h54 => ?_)
    · refine bj_iconst (v := (nI 0)) d_Mo_isBefore_61 (by decide) ?_
      exact bj_iret d_Mo_isBefore_62 rfl rfl (Nat.le_refl _) (Nat.le_refl _) (qb_f (fun q => by unfold so_bf ml_bf at q; dsimp only at q; first | omega | (have := inj _ _ hx1 hy1; omega) | (have e1 : ps (x / 8) = ps (y / 8) := (by rw [h109]); omega)))
    · refine bj_iconst (v := (nI 1)) d_Mo_isBefore_57 (by decide) ?_
      refine bj_goto (tgt := 62) d_Mo_isBefore_58 (by decide) ?_
      exact bj_iret d_Mo_isBefore_62 rfl rfl (Nat.le_refl _) (Nat.le_refl _) (qb_t (by unfold so_bf ml_bf; dsimp only; first | omega | (have e1 : ps (x / 8) = ps (y / 8) := (by rw [h109]); omega)))
set_option maxRecDepth 100000 in
set_option maxHeartbeats 4000000 in
/-- lock -/
theorem t_Mo_lock {N op : Nat} {cd li : Int32} {se : Bool} {dw sg sz : Nat → Nat} {rk : Nat → Nat → Int32} {tm : Nat → Nat → Nat} (hm0 : mo_ok c ad M N cd se op li dw sg sz rk tm) (hN : N ≤ 8) {lk ld : Nat → Nat → Bool} {x : Nat} (hlk : bv_I (c 1) M 89 64 (bg lk)) (hld : bv_I (c 1) M 90 64 (bg ld)) (hx : x < 64) (hab : x / 8 ≠ x % 8) (hnr : ld (x % 8) (x / 8) = false) : bj_T (bw_G l D c) Y_Mo_lock 0 (0, 0, 0, 0) ad (q_mlock c M lk ld (x / 8) (x % 8)) [.ref (ad 80), .int (nI x)] M := by
  show bj_S _ _ _ _ _ _ 0 0 0 [some (.ref (ad 80)), some (.int (nI x)), none, none, none, none, none] [] M
  refine bj_aload_n d_Mo_lock_0 rfl rfl ?_
  refine bj_get d_Mo_lock_1 in_Mo rfl (by decide : 12 < 17) wf_Mo_34 rfl hm0.1 rfl ?_
  refine bj_iload_n d_Mo_lock_4 rfl rfl ?_
  refine bj_iconst (v := (nI 1)) d_Mo_lock_5 (by decide) ?_
  refine bv_zast d_Mo_lock_6 1 rfl hlk (by omega) (by omega) rfl (fun N1 hN1 hO1 => ?_)
  have hO1b := (hO1 80 (by decide)).trans hm0.1
  refine bj_iload_n d_Mo_lock_7 rfl rfl ?_
  refine bj_bipush (v := (nI 8)) d_Mo_lock_8 (by decide) ?_
  refine bj_idiv (v := (nI (x / 8))) d_Mo_lock_10 (by decide) (pk_div (by omega) (by decide) (by decide)) ?_
  refine bj_istore_n (L' := [some (.ref (ad 80)), some (.int (nI x)), some (.int (nI (x / 8))), none, none, none, none]) d_Mo_lock_11 rfl (by decide) rfl ?_
  refine bj_iload_n d_Mo_lock_12 rfl rfl ?_
  refine bj_bipush (v := (nI 8)) d_Mo_lock_13 (by decide) ?_
  refine bj_irem (v := (nI (x % 8))) d_Mo_lock_15 (by decide) (pk_rem (by omega) (by decide) (by decide)) ?_
  refine bj_istore_n (L' := [some (.ref (ad 80)), some (.int (nI x)), some (.int (nI (x / 8))), some (.int (nI (x % 8))), none, none, none]) d_Mo_lock_16 rfl (by decide) rfl ?_
  refine bj_iconst (v := (nI 0)) d_Mo_lock_17 (by decide) ?_
  refine bj_istore (L' := [some (.ref (ad 80)), some (.int (nI x)), some (.int (nI (x / 8))), some (.int (nI (x % 8))), some (.int (nI 0)), none, none]) d_Mo_lock_18 (by decide) rfl ?_
  have lp : ∀ (k : Nat), ∀ (M2 : bj_M), ∀ (z5 : Option Value), ∀ (z6 : Option Value), (k ≤ 64) → (bv_I (c 1) M2 89 64 (bg (ml_lk lk (x / 8) (x % 8)))) → (bv_I (c 1) M2 90 64 (lg_md ld (x / 8) (x % 8) k)) → (∀ q, q ≠ 89 → q ≠ 90 → M2 q = M q) → bj_S (bw_G l D c) Y_Mo_lock 0 (0, 0, 0, 0) ad (q_mlock c M lk ld (x / 8) (x % 8)) 0 0 20 [some (.ref (ad 80)), some (.int (nI x)), some (.int (nI (x / 8))), some (.int (nI (x % 8))), some (.int (nI k)), z5, z6] [] M2 := by
    intro k M2 z5 z6
    induction hd_lp : 64 - k using Nat.strongRecOn generalizing k M2 z5 z6 with
    | ind d_lp ih_lp =>
      intro hk h3 h4 ho
      have hO2 := (ho 80 (by decide) (by decide)).trans hm0.1
      refine bj_iload d_Mo_lock_20 rfl ?_
      refine bj_bipush (v := (nI 64)) d_Mo_lock_22 (by decide) ?_
      refine bj_icmp_geN (tgt := 133) d_Mo_lock_24 (by decide) (by omega) (by omega) (fun h24 => ?_) (fun h24 => ?_)
      · exact bj_vret d_Mo_lock_133 rfl (Nat.le_refl _) (Nat.le_refl _) ⟨rfl, h3, h4.to (fun j hj => if_pos (by omega)), ho⟩
      · refine bj_iload d_Mo_lock_27 rfl ?_
        refine bj_bipush (v := (nI 8)) d_Mo_lock_29 (by decide) ?_
        refine bj_idiv (v := (nI (k / 8))) d_Mo_lock_31 (by decide) (pk_div (by omega) (by decide) (by decide)) ?_
        refine bj_iload_n d_Mo_lock_32 rfl rfl ?_
        refine bj_icmp_eqN (tgt := 54) d_Mo_lock_33 (by decide) (by omega) (by omega) (fun h33 => ?_) (fun h33 => ?_)
        · refine bj_iconst (v := (nI 1)) d_Mo_lock_54 (by decide) ?_
          refine bj_goto (tgt := 59) d_Mo_lock_55 (by decide) ?_
          refine bj_istore (L' := [some (.ref (ad 80)), some (.int (nI x)), some (.int (nI (x / 8))), some (.int (nI (x % 8))), some (.int (nI k)), some (.int (nI 1)), z6]) d_Mo_lock_59 (by decide) rfl ?_
          refine bj_iload d_Mo_lock_61 rfl ?_
          refine bj_bipush (v := (nI 8)) d_Mo_lock_63 (by decide) ?_
          refine bj_irem (v := (nI (k % 8))) d_Mo_lock_65 (by decide) (pk_rem (by omega) (by decide) (by decide)) ?_
          refine bj_iload_n d_Mo_lock_66 rfl rfl ?_
          refine bj_icmp_eqN (tgt := 88) d_Mo_lock_67 (by decide) (by omega) (by omega) (fun h67 => ?_) (fun h67 => ?_)
          · refine bj_iconst (v := (nI 1)) d_Mo_lock_88 (by decide) ?_
            refine bj_goto (tgt := 93) d_Mo_lock_89 (by decide) ?_
            refine bj_istore (L' := [some (.ref (ad 80)), some (.int (nI x)), some (.int (nI (x / 8))), some (.int (nI (x % 8))), some (.int (nI k)), some (.int (nI 1)), some (.int (nI 1))]) d_Mo_lock_93 (by decide) rfl ?_
            refine bj_aload_n d_Mo_lock_95 rfl rfl ?_
            refine bj_get d_Mo_lock_96 in_Mo rfl (by decide : 13 < 17) wf_Mo_38 rfl hO2 rfl ?_
            refine bj_iload d_Mo_lock_99 rfl ?_
            refine bj_aload_n d_Mo_lock_101 rfl rfl ?_
            refine bj_get d_Mo_lock_102 in_Mo rfl (by decide : 13 < 17) wf_Mo_38 rfl hO2 rfl ?_
            refine bj_iload d_Mo_lock_105 rfl ?_
            refine bv_zald (v := (bt_n (ld (k / 8) (k % 8)))) d_Mo_lock_107 1 rfl h4 (by omega) (by omega) lg_at ?_
            refine bj_if_ne (tgt := 121) d_Mo_lock_108 (by decide) (fun h108 => ?_) (fun h108 => ?_)
            · refine bj_iconst (v := (nI 1)) d_Mo_lock_121 (by decide) ?_
              refine bj_goto (tgt := 126) d_Mo_lock_122 (by decide) ?_
              have hvv : nI 1 = bt_n (ml_ld ld (x / 8) (x % 8) (k / 8) (k % 8)) := ld_t (by first | exact Or.inl (bt_nn h108) | (refine Or.inr ⟨?_, ?_⟩ <;> first | exact Or.inl h33 | exact Or.inr (bt_nn h51) | exact Or.inl h67 | exact Or.inr (bt_nn h85)))
              refine bv_zast d_Mo_lock_126 1 rfl h4 (by omega) (by omega) rfl (fun N1 hN1 hO1 => ?_)
              refine bj_iinc (v := (nI (k + 1))) (L' := [some (.ref (ad 80)), some (.int (nI x)), some (.int (nI (x / 8))), some (.int (nI (x % 8))), some (.int (nI (k + 1))), some (.int (nI 1)), some (.int (nI 1))]) d_Mo_lock_127 rfl (bj_inc1 _) (by decide) rfl ?_
              refine bj_goto (tgt := 20) d_Mo_lock_130 (by decide) ?_
              exact ih_lp (64 - (k + 1)) (by omega) (k + 1) N1 _ _ rfl (by omega) (h3.in (hO1 89 (by decide))) (hN1.to (fun j _ => by rw [hvv]; exact lg_s)) (fun q q1 q2 => (hO1 q q2).trans (ho q q1 q2))
            · refine bj_iload d_Mo_lock_111 rfl ?_
              refine bj_if_eqN (tgt := 125) d_Mo_lock_113 (by decide) (by decide) (fun h => absurd h (by decide)) (fun _ => ?_)
              refine bj_iload d_Mo_lock_116 rfl ?_
              refine bj_if_eqN (tgt := 125) d_Mo_lock_118 (by decide) (by decide) (fun h => absurd h (by decide)) (fun _ => ?_)
              refine bj_iconst (v := (nI 1)) d_Mo_lock_121 (by decide) ?_
              refine bj_goto (tgt := 126) d_Mo_lock_122 (by decide) ?_
              have hvv : nI 1 = bt_n (ml_ld ld (x / 8) (x % 8) (k / 8) (k % 8)) := ld_t (by first | exact Or.inl (bt_nn h108) | (refine Or.inr ⟨?_, ?_⟩ <;> first | exact Or.inl h33 | exact Or.inr (bt_nn h51) | exact Or.inl h67 | exact Or.inr (bt_nn h85)))
              refine bv_zast d_Mo_lock_126 1 rfl h4 (by omega) (by omega) rfl (fun N1 hN1 hO1 => ?_)
              refine bj_iinc (v := (nI (k + 1))) (L' := [some (.ref (ad 80)), some (.int (nI x)), some (.int (nI (x / 8))), some (.int (nI (x % 8))), some (.int (nI (k + 1))), some (.int (nI 1)), some (.int (nI 1))]) d_Mo_lock_127 rfl (bj_inc1 _) (by decide) rfl ?_
              refine bj_goto (tgt := 20) d_Mo_lock_130 (by decide) ?_
              exact ih_lp (64 - (k + 1)) (by omega) (k + 1) N1 _ _ rfl (by omega) (h3.in (hO1 89 (by decide))) (hN1.to (fun j _ => by rw [hvv]; exact lg_s)) (fun q q1 q2 => (hO1 q q2).trans (ho q q1 q2))
          · refine bj_aload_n d_Mo_lock_70 rfl rfl ?_
            refine bj_get d_Mo_lock_71 in_Mo rfl (by decide : 13 < 17) wf_Mo_38 rfl hO2 rfl ?_
            refine bj_bipush (v := (nI 8)) d_Mo_lock_74 (by decide) ?_
            refine bj_iload_n d_Mo_lock_76 rfl rfl ?_
            refine bj_imul (v := (nI (8 * (x % 8)))) d_Mo_lock_77 (pk_mul _ _) ?_
            refine bj_iload d_Mo_lock_78 rfl ?_
            refine bj_bipush (v := (nI 8)) d_Mo_lock_80 (by decide) ?_
            refine bj_irem (v := (nI (k % 8))) d_Mo_lock_82 (by decide) (pk_rem (by omega) (by decide) (by decide)) ?_
            refine bj_iadd (v := (nI ((8 * (x % 8)) + (k % 8)))) d_Mo_lock_83 (nI_add _ _) ?_
            refine bv_zald (v := (bt_n (ld (x % 8) (k % 8)))) d_Mo_lock_84 1 rfl h4 (by omega) (by omega) (lg_row hab hnr (by omega)) ?_
            refine bj_if_eq (tgt := 92) d_Mo_lock_85 (by decide) (fun h85 => ?_) (fun h85 => ?_)
            · refine bj_iconst (v := (nI 0)) d_Mo_lock_92 (by decide) ?_
              refine bj_istore (L' := [some (.ref (ad 80)), some (.int (nI x)), some (.int (nI (x / 8))), some (.int (nI (x % 8))), some (.int (nI k)), some (.int (nI 1)), some (.int (nI 0))]) d_Mo_lock_93 (by decide) rfl ?_
              refine bj_aload_n d_Mo_lock_95 rfl rfl ?_
              refine bj_get d_Mo_lock_96 in_Mo rfl (by decide : 13 < 17) wf_Mo_38 rfl hO2 rfl ?_
              refine bj_iload d_Mo_lock_99 rfl ?_
              refine bj_aload_n d_Mo_lock_101 rfl rfl ?_
              refine bj_get d_Mo_lock_102 in_Mo rfl (by decide : 13 < 17) wf_Mo_38 rfl hO2 rfl ?_
              refine bj_iload d_Mo_lock_105 rfl ?_
              refine bv_zald (v := (bt_n (ld (k / 8) (k % 8)))) d_Mo_lock_107 1 rfl h4 (by omega) (by omega) lg_at ?_
              refine bj_if_ne (tgt := 121) d_Mo_lock_108 (by decide) (fun h108 => ?_) (fun h108 => ?_)
              · refine bj_iconst (v := (nI 1)) d_Mo_lock_121 (by decide) ?_
                refine bj_goto (tgt := 126) d_Mo_lock_122 (by decide) ?_
                have hvv : nI 1 = bt_n (ml_ld ld (x / 8) (x % 8) (k / 8) (k % 8)) := ld_t (by first | exact Or.inl (bt_nn h108) | (refine Or.inr ⟨?_, ?_⟩ <;> first | exact Or.inl h33 | exact Or.inr (bt_nn h51) | exact Or.inl h67 | exact Or.inr (bt_nn h85)))
                refine bv_zast d_Mo_lock_126 1 rfl h4 (by omega) (by omega) rfl (fun N1 hN1 hO1 => ?_)
                refine bj_iinc (v := (nI (k + 1))) (L' := [some (.ref (ad 80)), some (.int (nI x)), some (.int (nI (x / 8))), some (.int (nI (x % 8))), some (.int (nI (k + 1))), some (.int (nI 1)), some (.int (nI 0))]) d_Mo_lock_127 rfl (bj_inc1 _) (by decide) rfl ?_
                refine bj_goto (tgt := 20) d_Mo_lock_130 (by decide) ?_
                exact ih_lp (64 - (k + 1)) (by omega) (k + 1) N1 _ _ rfl (by omega) (h3.in (hO1 89 (by decide))) (hN1.to (fun j _ => by rw [hvv]; exact lg_s)) (fun q q1 q2 => (hO1 q q2).trans (ho q q1 q2))
              · refine bj_iload d_Mo_lock_111 rfl ?_
                refine bj_if_eqN (tgt := 125) d_Mo_lock_113 (by decide) (by decide) (fun h => absurd h (by decide)) (fun _ => ?_)
                refine bj_iload d_Mo_lock_116 rfl ?_
                refine bj_if_eqN (tgt := 125) d_Mo_lock_118 (by decide) (by decide) (fun _ => ?_) (fun h => absurd h (by decide))
                refine bj_iconst (v := (nI 0)) d_Mo_lock_125 (by decide) ?_
                have hvv : nI 0 = bt_n (ml_ld ld (x / 8) (x % 8) (k / 8) (k % 8)) := ld_f (fun q => by
                  rcases q with q | ⟨q1, q2⟩
                  · rw [q] at h108; exact absurd h108 (by decide)
                  · first | (rcases q1 with q1 | q1; exact h33 q1; rw [q1] at h51; exact absurd h51 (by decide)) | (rcases q2 with q2 | q2; exact h67 q2; rw [q2] at h85; exact absurd h85 (by decide)))
                refine bv_zast d_Mo_lock_126 1 rfl h4 (by omega) (by omega) rfl (fun N1 hN1 hO1 => ?_)
                refine bj_iinc (v := (nI (k + 1))) (L' := [some (.ref (ad 80)), some (.int (nI x)), some (.int (nI (x / 8))), some (.int (nI (x % 8))), some (.int (nI (k + 1))), some (.int (nI 1)), some (.int (nI 0))]) d_Mo_lock_127 rfl (bj_inc1 _) (by decide) rfl ?_
                refine bj_goto (tgt := 20) d_Mo_lock_130 (by decide) ?_
                exact ih_lp (64 - (k + 1)) (by omega) (k + 1) N1 _ _ rfl (by omega) (h3.in (hO1 89 (by decide))) (hN1.to (fun j _ => by rw [hvv]; exact lg_s)) (fun q q1 q2 => (hO1 q q2).trans (ho q q1 q2))
            · refine bj_iconst (v := (nI 1)) d_Mo_lock_88 (by decide) ?_
              refine bj_goto (tgt := 93) d_Mo_lock_89 (by decide) ?_
              refine bj_istore (L' := [some (.ref (ad 80)), some (.int (nI x)), some (.int (nI (x / 8))), some (.int (nI (x % 8))), some (.int (nI k)), some (.int (nI 1)), some (.int (nI 1))]) d_Mo_lock_93 (by decide) rfl ?_
              refine bj_aload_n d_Mo_lock_95 rfl rfl ?_
              refine bj_get d_Mo_lock_96 in_Mo rfl (by decide : 13 < 17) wf_Mo_38 rfl hO2 rfl ?_
              refine bj_iload d_Mo_lock_99 rfl ?_
              refine bj_aload_n d_Mo_lock_101 rfl rfl ?_
              refine bj_get d_Mo_lock_102 in_Mo rfl (by decide : 13 < 17) wf_Mo_38 rfl hO2 rfl ?_
              refine bj_iload d_Mo_lock_105 rfl ?_
              refine bv_zald (v := (bt_n (ld (k / 8) (k % 8)))) d_Mo_lock_107 1 rfl h4 (by omega) (by omega) lg_at ?_
              refine bj_if_ne (tgt := 121) d_Mo_lock_108 (by decide) (fun h108 => ?_) (fun h108 => ?_)
              · refine bj_iconst (v := (nI 1)) d_Mo_lock_121 (by decide) ?_
                refine bj_goto (tgt := 126) d_Mo_lock_122 (by decide) ?_
                have hvv : nI 1 = bt_n (ml_ld ld (x / 8) (x % 8) (k / 8) (k % 8)) := ld_t (by first | exact Or.inl (bt_nn h108) | (refine Or.inr ⟨?_, ?_⟩ <;> first | exact Or.inl h33 | exact Or.inr (bt_nn h51) | exact Or.inl h67 | exact Or.inr (bt_nn h85)))
                refine bv_zast d_Mo_lock_126 1 rfl h4 (by omega) (by omega) rfl (fun N1 hN1 hO1 => ?_)
                refine bj_iinc (v := (nI (k + 1))) (L' := [some (.ref (ad 80)), some (.int (nI x)), some (.int (nI (x / 8))), some (.int (nI (x % 8))), some (.int (nI (k + 1))), some (.int (nI 1)), some (.int (nI 1))]) d_Mo_lock_127 rfl (bj_inc1 _) (by decide) rfl ?_
                refine bj_goto (tgt := 20) d_Mo_lock_130 (by decide) ?_
                exact ih_lp (64 - (k + 1)) (by omega) (k + 1) N1 _ _ rfl (by omega) (h3.in (hO1 89 (by decide))) (hN1.to (fun j _ => by rw [hvv]; exact lg_s)) (fun q q1 q2 => (hO1 q q2).trans (ho q q1 q2))
              · refine bj_iload d_Mo_lock_111 rfl ?_
                refine bj_if_eqN (tgt := 125) d_Mo_lock_113 (by decide) (by decide) (fun h => absurd h (by decide)) (fun _ => ?_)
                refine bj_iload d_Mo_lock_116 rfl ?_
                refine bj_if_eqN (tgt := 125) d_Mo_lock_118 (by decide) (by decide) (fun h => absurd h (by decide)) (fun _ => ?_)
                refine bj_iconst (v := (nI 1)) d_Mo_lock_121 (by decide) ?_
                refine bj_goto (tgt := 126) d_Mo_lock_122 (by decide) ?_
                have hvv : nI 1 = bt_n (ml_ld ld (x / 8) (x % 8) (k / 8) (k % 8)) := ld_t (by first | exact Or.inl (bt_nn h108) | (refine Or.inr ⟨?_, ?_⟩ <;> first | exact Or.inl h33 | exact Or.inr (bt_nn h51) | exact Or.inl h67 | exact Or.inr (bt_nn h85)))
                refine bv_zast d_Mo_lock_126 1 rfl h4 (by omega) (by omega) rfl (fun N1 hN1 hO1 => ?_)
                refine bj_iinc (v := (nI (k + 1))) (L' := [some (.ref (ad 80)), some (.int (nI x)), some (.int (nI (x / 8))), some (.int (nI (x % 8))), some (.int (nI (k + 1))), some (.int (nI 1)), some (.int (nI 1))]) d_Mo_lock_127 rfl (bj_inc1 _) (by decide) rfl ?_
                refine bj_goto (tgt := 20) d_Mo_lock_130 (by decide) ?_
                exact ih_lp (64 - (k + 1)) (by omega) (k + 1) N1 _ _ rfl (by omega) (h3.in (hO1 89 (by decide))) (hN1.to (fun j _ => by rw [hvv]; exact lg_s)) (fun q q1 q2 => (hO1 q q2).trans (ho q q1 q2))
        · refine bj_aload_n d_Mo_lock_36 rfl rfl ?_
          refine bj_get d_Mo_lock_37 in_Mo rfl (by decide : 13 < 17) wf_Mo_38 rfl hO2 rfl ?_
          refine bj_bipush (v := (nI 8)) d_Mo_lock_40 (by decide) ?_
          refine bj_iload d_Mo_lock_42 rfl ?_
          refine bj_bipush (v := (nI 8)) d_Mo_lock_44 (by decide) ?_
          refine bj_idiv (v := (nI (k / 8))) d_Mo_lock_46 (by decide) (pk_div (by omega) (by decide) (by decide)) ?_
          refine bj_imul (v := (nI (8 * (k / 8)))) d_Mo_lock_47 (pk_mul _ _) ?_
          refine bj_iload_n d_Mo_lock_48 rfl rfl ?_
          refine bj_iadd (v := (nI ((8 * (k / 8)) + (x / 8)))) d_Mo_lock_49 (nI_add _ _) ?_
          refine bv_zald (v := (bt_n (ld (k / 8) (x / 8)))) d_Mo_lock_50 1 rfl h4 (by omega) (by omega) (lg_col hab hnr (by omega)) ?_
          refine bj_if_eq (tgt := 58) d_Mo_lock_51 (by decide) (fun h51 => ?_) (fun h51 => ?_)
          · refine bj_iconst (v := (nI 0)) d_Mo_lock_58 (by decide) ?_
            refine bj_istore (L' := [some (.ref (ad 80)), some (.int (nI x)), some (.int (nI (x / 8))), some (.int (nI (x % 8))), some (.int (nI k)), some (.int (nI 0)), z6]) d_Mo_lock_59 (by decide) rfl ?_
            refine bj_iload d_Mo_lock_61 rfl ?_
            refine bj_bipush (v := (nI 8)) d_Mo_lock_63 (by decide) ?_
            refine bj_irem (v := (nI (k % 8))) d_Mo_lock_65 (by decide) (pk_rem (by omega) (by decide) (by decide)) ?_
            refine bj_iload_n d_Mo_lock_66 rfl rfl ?_
            refine bj_icmp_eqN (tgt := 88) d_Mo_lock_67 (by decide) (by omega) (by omega) (fun h67 => ?_) (fun h67 => ?_)
            · refine bj_iconst (v := (nI 1)) d_Mo_lock_88 (by decide) ?_
              refine bj_goto (tgt := 93) d_Mo_lock_89 (by decide) ?_
              refine bj_istore (L' := [some (.ref (ad 80)), some (.int (nI x)), some (.int (nI (x / 8))), some (.int (nI (x % 8))), some (.int (nI k)), some (.int (nI 0)), some (.int (nI 1))]) d_Mo_lock_93 (by decide) rfl ?_
              refine bj_aload_n d_Mo_lock_95 rfl rfl ?_
              refine bj_get d_Mo_lock_96 in_Mo rfl (by decide : 13 < 17) wf_Mo_38 rfl hO2 rfl ?_
              refine bj_iload d_Mo_lock_99 rfl ?_
              refine bj_aload_n d_Mo_lock_101 rfl rfl ?_
              refine bj_get d_Mo_lock_102 in_Mo rfl (by decide : 13 < 17) wf_Mo_38 rfl hO2 rfl ?_
              refine bj_iload d_Mo_lock_105 rfl ?_
              refine bv_zald (v := (bt_n (ld (k / 8) (k % 8)))) d_Mo_lock_107 1 rfl h4 (by omega) (by omega) lg_at ?_
              refine bj_if_ne (tgt := 121) d_Mo_lock_108 (by decide) (fun h108 => ?_) (fun h108 => ?_)
              · refine bj_iconst (v := (nI 1)) d_Mo_lock_121 (by decide) ?_
                refine bj_goto (tgt := 126) d_Mo_lock_122 (by decide) ?_
                have hvv : nI 1 = bt_n (ml_ld ld (x / 8) (x % 8) (k / 8) (k % 8)) := ld_t (by first | exact Or.inl (bt_nn h108) | (refine Or.inr ⟨?_, ?_⟩ <;> first | exact Or.inl h33 | exact Or.inr (bt_nn h51) | exact Or.inl h67 | exact Or.inr (bt_nn h85)))
                refine bv_zast d_Mo_lock_126 1 rfl h4 (by omega) (by omega) rfl (fun N1 hN1 hO1 => ?_)
                refine bj_iinc (v := (nI (k + 1))) (L' := [some (.ref (ad 80)), some (.int (nI x)), some (.int (nI (x / 8))), some (.int (nI (x % 8))), some (.int (nI (k + 1))), some (.int (nI 0)), some (.int (nI 1))]) d_Mo_lock_127 rfl (bj_inc1 _) (by decide) rfl ?_
                refine bj_goto (tgt := 20) d_Mo_lock_130 (by decide) ?_
                exact ih_lp (64 - (k + 1)) (by omega) (k + 1) N1 _ _ rfl (by omega) (h3.in (hO1 89 (by decide))) (hN1.to (fun j _ => by rw [hvv]; exact lg_s)) (fun q q1 q2 => (hO1 q q2).trans (ho q q1 q2))
              · refine bj_iload d_Mo_lock_111 rfl ?_
                refine bj_if_eqN (tgt := 125) d_Mo_lock_113 (by decide) (by decide) (fun _ => ?_) (fun h => absurd h (by decide))
                refine bj_iconst (v := (nI 0)) d_Mo_lock_125 (by decide) ?_
                have hvv : nI 0 = bt_n (ml_ld ld (x / 8) (x % 8) (k / 8) (k % 8)) := ld_f (fun q => by
                  rcases q with q | ⟨q1, q2⟩
                  · rw [q] at h108; exact absurd h108 (by decide)
                  · first | (rcases q1 with q1 | q1; exact h33 q1; rw [q1] at h51; exact absurd h51 (by decide)) | (rcases q2 with q2 | q2; exact h67 q2; rw [q2] at h85; exact absurd h85 (by decide)))
                refine bv_zast d_Mo_lock_126 1 rfl h4 (by omega) (by omega) rfl (fun N1 hN1 hO1 => ?_)
                refine bj_iinc (v := (nI (k + 1))) (L' := [some (.ref (ad 80)), some (.int (nI x)), some (.int (nI (x / 8))), some (.int (nI (x % 8))), some (.int (nI (k + 1))), some (.int (nI 0)), some (.int (nI 1))]) d_Mo_lock_127 rfl (bj_inc1 _) (by decide) rfl ?_
                refine bj_goto (tgt := 20) d_Mo_lock_130 (by decide) ?_
                exact ih_lp (64 - (k + 1)) (by omega) (k + 1) N1 _ _ rfl (by omega) (h3.in (hO1 89 (by decide))) (hN1.to (fun j _ => by rw [hvv]; exact lg_s)) (fun q q1 q2 => (hO1 q q2).trans (ho q q1 q2))
            · refine bj_aload_n d_Mo_lock_70 rfl rfl ?_
              refine bj_get d_Mo_lock_71 in_Mo rfl (by decide : 13 < 17) wf_Mo_38 rfl hO2 rfl ?_
              refine bj_bipush (v := (nI 8)) d_Mo_lock_74 (by decide) ?_
              refine bj_iload_n d_Mo_lock_76 rfl rfl ?_
              refine bj_imul (v := (nI (8 * (x % 8)))) d_Mo_lock_77 (pk_mul _ _) ?_
              refine bj_iload d_Mo_lock_78 rfl ?_
              refine bj_bipush (v := (nI 8)) d_Mo_lock_80 (by decide) ?_
              refine bj_irem (v := (nI (k % 8))) d_Mo_lock_82 (by decide) (pk_rem (by omega) (by decide) (by decide)) ?_
              refine bj_iadd (v := (nI ((8 * (x % 8)) + (k % 8)))) d_Mo_lock_83 (nI_add _ _) ?_
              refine bv_zald (v := (bt_n (ld (x % 8) (k % 8)))) d_Mo_lock_84 1 rfl h4 (by omega) (by omega) (lg_row hab hnr (by omega)) ?_
              refine bj_if_eq (tgt := 92) d_Mo_lock_85 (by decide) (fun h85 => ?_) (fun h85 => ?_)
              · refine bj_iconst (v := (nI 0)) d_Mo_lock_92 (by decide) ?_
                refine bj_istore (L' := [some (.ref (ad 80)), some (.int (nI x)), some (.int (nI (x / 8))), some (.int (nI (x % 8))), some (.int (nI k)), some (.int (nI 0)), some (.int (nI 0))]) d_Mo_lock_93 (by decide) rfl ?_
                refine bj_aload_n d_Mo_lock_95 rfl rfl ?_
                refine bj_get d_Mo_lock_96 in_Mo rfl (by decide : 13 < 17) wf_Mo_38 rfl hO2 rfl ?_
                refine bj_iload d_Mo_lock_99 rfl ?_
                refine bj_aload_n d_Mo_lock_101 rfl rfl ?_
                refine bj_get d_Mo_lock_102 in_Mo rfl (by decide : 13 < 17) wf_Mo_38 rfl hO2 rfl ?_
                refine bj_iload d_Mo_lock_105 rfl ?_
                refine bv_zald (v := (bt_n (ld (k / 8) (k % 8)))) d_Mo_lock_107 1 rfl h4 (by omega) (by omega) lg_at ?_
                refine bj_if_ne (tgt := 121) d_Mo_lock_108 (by decide) (fun h108 => ?_) (fun h108 => ?_)
                · refine bj_iconst (v := (nI 1)) d_Mo_lock_121 (by decide) ?_
                  refine bj_goto (tgt := 126) d_Mo_lock_122 (by decide) ?_
                  have hvv : nI 1 = bt_n (ml_ld ld (x / 8) (x % 8) (k / 8) (k % 8)) := ld_t (by first | exact Or.inl (bt_nn h108) | (refine Or.inr ⟨?_, ?_⟩ <;> first | exact Or.inl h33 | exact Or.inr (bt_nn h51) | exact Or.inl h67 | exact Or.inr (bt_nn h85)))
                  refine bv_zast d_Mo_lock_126 1 rfl h4 (by omega) (by omega) rfl (fun N1 hN1 hO1 => ?_)
                  refine bj_iinc (v := (nI (k + 1))) (L' := [some (.ref (ad 80)), some (.int (nI x)), some (.int (nI (x / 8))), some (.int (nI (x % 8))), some (.int (nI (k + 1))), some (.int (nI 0)), some (.int (nI 0))]) d_Mo_lock_127 rfl (bj_inc1 _) (by decide) rfl ?_
                  refine bj_goto (tgt := 20) d_Mo_lock_130 (by decide) ?_
                  exact ih_lp (64 - (k + 1)) (by omega) (k + 1) N1 _ _ rfl (by omega) (h3.in (hO1 89 (by decide))) (hN1.to (fun j _ => by rw [hvv]; exact lg_s)) (fun q q1 q2 => (hO1 q q2).trans (ho q q1 q2))
                · refine bj_iload d_Mo_lock_111 rfl ?_
                  refine bj_if_eqN (tgt := 125) d_Mo_lock_113 (by decide) (by decide) (fun _ => ?_) (fun h => absurd h (by decide))
                  refine bj_iconst (v := (nI 0)) d_Mo_lock_125 (by decide) ?_
                  have hvv : nI 0 = bt_n (ml_ld ld (x / 8) (x % 8) (k / 8) (k % 8)) := ld_f (fun q => by
                    rcases q with q | ⟨q1, q2⟩
                    · rw [q] at h108; exact absurd h108 (by decide)
                    · first | (rcases q1 with q1 | q1; exact h33 q1; rw [q1] at h51; exact absurd h51 (by decide)) | (rcases q2 with q2 | q2; exact h67 q2; rw [q2] at h85; exact absurd h85 (by decide)))
                  refine bv_zast d_Mo_lock_126 1 rfl h4 (by omega) (by omega) rfl (fun N1 hN1 hO1 => ?_)
                  refine bj_iinc (v := (nI (k + 1))) (L' := [some (.ref (ad 80)), some (.int (nI x)), some (.int (nI (x / 8))), some (.int (nI (x % 8))), some (.int (nI (k + 1))), some (.int (nI 0)), some (.int (nI 0))]) d_Mo_lock_127 rfl (bj_inc1 _) (by decide) rfl ?_
                  refine bj_goto (tgt := 20) d_Mo_lock_130 (by decide) ?_
                  exact ih_lp (64 - (k + 1)) (by omega) (k + 1) N1 _ _ rfl (by omega) (h3.in (hO1 89 (by decide))) (hN1.to (fun j _ => by rw [hvv]; exact lg_s)) (fun q q1 q2 => (hO1 q q2).trans (ho q q1 q2))
              · refine bj_iconst (v := (nI 1)) d_Mo_lock_88 (by decide) ?_
                refine bj_goto (tgt := 93) d_Mo_lock_89 (by decide) ?_
                refine bj_istore (L' := [some (.ref (ad 80)), some (.int (nI x)), some (.int (nI (x / 8))), some (.int (nI (x % 8))), some (.int (nI k)), some (.int (nI 0)), some (.int (nI 1))]) d_Mo_lock_93 (by decide) rfl ?_
                refine bj_aload_n d_Mo_lock_95 rfl rfl ?_
                refine bj_get d_Mo_lock_96 in_Mo rfl (by decide : 13 < 17) wf_Mo_38 rfl hO2 rfl ?_
                refine bj_iload d_Mo_lock_99 rfl ?_
                refine bj_aload_n d_Mo_lock_101 rfl rfl ?_
                refine bj_get d_Mo_lock_102 in_Mo rfl (by decide : 13 < 17) wf_Mo_38 rfl hO2 rfl ?_
                refine bj_iload d_Mo_lock_105 rfl ?_
                refine bv_zald (v := (bt_n (ld (k / 8) (k % 8)))) d_Mo_lock_107 1 rfl h4 (by omega) (by omega) lg_at ?_
                refine bj_if_ne (tgt := 121) d_Mo_lock_108 (by decide) (fun h108 => ?_) (fun h108 => ?_)
                · refine bj_iconst (v := (nI 1)) d_Mo_lock_121 (by decide) ?_
                  refine bj_goto (tgt := 126) d_Mo_lock_122 (by decide) ?_
                  have hvv : nI 1 = bt_n (ml_ld ld (x / 8) (x % 8) (k / 8) (k % 8)) := ld_t (by first | exact Or.inl (bt_nn h108) | (refine Or.inr ⟨?_, ?_⟩ <;> first | exact Or.inl h33 | exact Or.inr (bt_nn h51) | exact Or.inl h67 | exact Or.inr (bt_nn h85)))
                  refine bv_zast d_Mo_lock_126 1 rfl h4 (by omega) (by omega) rfl (fun N1 hN1 hO1 => ?_)
                  refine bj_iinc (v := (nI (k + 1))) (L' := [some (.ref (ad 80)), some (.int (nI x)), some (.int (nI (x / 8))), some (.int (nI (x % 8))), some (.int (nI (k + 1))), some (.int (nI 0)), some (.int (nI 1))]) d_Mo_lock_127 rfl (bj_inc1 _) (by decide) rfl ?_
                  refine bj_goto (tgt := 20) d_Mo_lock_130 (by decide) ?_
                  exact ih_lp (64 - (k + 1)) (by omega) (k + 1) N1 _ _ rfl (by omega) (h3.in (hO1 89 (by decide))) (hN1.to (fun j _ => by rw [hvv]; exact lg_s)) (fun q q1 q2 => (hO1 q q2).trans (ho q q1 q2))
                · refine bj_iload d_Mo_lock_111 rfl ?_
                  refine bj_if_eqN (tgt := 125) d_Mo_lock_113 (by decide) (by decide) (fun _ => ?_) (fun h => absurd h (by decide))
                  refine bj_iconst (v := (nI 0)) d_Mo_lock_125 (by decide) ?_
                  have hvv : nI 0 = bt_n (ml_ld ld (x / 8) (x % 8) (k / 8) (k % 8)) := ld_f (fun q => by
                    rcases q with q | ⟨q1, q2⟩
                    · rw [q] at h108; exact absurd h108 (by decide)
                    · first | (rcases q1 with q1 | q1; exact h33 q1; rw [q1] at h51; exact absurd h51 (by decide)) | (rcases q2 with q2 | q2; exact h67 q2; rw [q2] at h85; exact absurd h85 (by decide)))
                  refine bv_zast d_Mo_lock_126 1 rfl h4 (by omega) (by omega) rfl (fun N1 hN1 hO1 => ?_)
                  refine bj_iinc (v := (nI (k + 1))) (L' := [some (.ref (ad 80)), some (.int (nI x)), some (.int (nI (x / 8))), some (.int (nI (x % 8))), some (.int (nI (k + 1))), some (.int (nI 0)), some (.int (nI 1))]) d_Mo_lock_127 rfl (bj_inc1 _) (by decide) rfl ?_
                  refine bj_goto (tgt := 20) d_Mo_lock_130 (by decide) ?_
                  exact ih_lp (64 - (k + 1)) (by omega) (k + 1) N1 _ _ rfl (by omega) (h3.in (hO1 89 (by decide))) (hN1.to (fun j _ => by rw [hvv]; exact lg_s)) (fun q q1 q2 => (hO1 q q2).trans (ho q q1 q2))
          · refine bj_iconst (v := (nI 1)) d_Mo_lock_54 (by decide) ?_
            refine bj_goto (tgt := 59) d_Mo_lock_55 (by decide) ?_
            refine bj_istore (L' := [some (.ref (ad 80)), some (.int (nI x)), some (.int (nI (x / 8))), some (.int (nI (x % 8))), some (.int (nI k)), some (.int (nI 1)), z6]) d_Mo_lock_59 (by decide) rfl ?_
            refine bj_iload d_Mo_lock_61 rfl ?_
            refine bj_bipush (v := (nI 8)) d_Mo_lock_63 (by decide) ?_
            refine bj_irem (v := (nI (k % 8))) d_Mo_lock_65 (by decide) (pk_rem (by omega) (by decide) (by decide)) ?_
            refine bj_iload_n d_Mo_lock_66 rfl rfl ?_
            refine bj_icmp_eqN (tgt := 88) d_Mo_lock_67 (by decide) (by omega) (by omega) (fun h67 => ?_) (fun h67 => ?_)
            · refine bj_iconst (v := (nI 1)) d_Mo_lock_88 (by decide) ?_
              refine bj_goto (tgt := 93) d_Mo_lock_89 (by decide) ?_
              refine bj_istore (L' := [some (.ref (ad 80)), some (.int (nI x)), some (.int (nI (x / 8))), some (.int (nI (x % 8))), some (.int (nI k)), some (.int (nI 1)), some (.int (nI 1))]) d_Mo_lock_93 (by decide) rfl ?_
              refine bj_aload_n d_Mo_lock_95 rfl rfl ?_
              refine bj_get d_Mo_lock_96 in_Mo rfl (by decide : 13 < 17) wf_Mo_38 rfl hO2 rfl ?_
              refine bj_iload d_Mo_lock_99 rfl ?_
              refine bj_aload_n d_Mo_lock_101 rfl rfl ?_
              refine bj_get d_Mo_lock_102 in_Mo rfl (by decide : 13 < 17) wf_Mo_38 rfl hO2 rfl ?_
              refine bj_iload d_Mo_lock_105 rfl ?_
              refine bv_zald (v := (bt_n (ld (k / 8) (k % 8)))) d_Mo_lock_107 1 rfl h4 (by omega) (by omega) lg_at ?_
              refine bj_if_ne (tgt := 121) d_Mo_lock_108 (by decide) (fun h108 => ?_) (fun h108 => ?_)
              · refine bj_iconst (v := (nI 1)) d_Mo_lock_121 (by decide) ?_
                refine bj_goto (tgt := 126) d_Mo_lock_122 (by decide) ?_
                have hvv : nI 1 = bt_n (ml_ld ld (x / 8) (x % 8) (k / 8) (k % 8)) := ld_t (by first | exact Or.inl (bt_nn h108) | (refine Or.inr ⟨?_, ?_⟩ <;> first | exact Or.inl h33 | exact Or.inr (bt_nn h51) | exact Or.inl h67 | exact Or.inr (bt_nn h85)))
                refine bv_zast d_Mo_lock_126 1 rfl h4 (by omega) (by omega) rfl (fun N1 hN1 hO1 => ?_)
                refine bj_iinc (v := (nI (k + 1))) (L' := [some (.ref (ad 80)), some (.int (nI x)), some (.int (nI (x / 8))), some (.int (nI (x % 8))), some (.int (nI (k + 1))), some (.int (nI 1)), some (.int (nI 1))]) d_Mo_lock_127 rfl (bj_inc1 _) (by decide) rfl ?_
                refine bj_goto (tgt := 20) d_Mo_lock_130 (by decide) ?_
                exact ih_lp (64 - (k + 1)) (by omega) (k + 1) N1 _ _ rfl (by omega) (h3.in (hO1 89 (by decide))) (hN1.to (fun j _ => by rw [hvv]; exact lg_s)) (fun q q1 q2 => (hO1 q q2).trans (ho q q1 q2))
              · refine bj_iload d_Mo_lock_111 rfl ?_
                refine bj_if_eqN (tgt := 125) d_Mo_lock_113 (by decide) (by decide) (fun h => absurd h (by decide)) (fun _ => ?_)
                refine bj_iload d_Mo_lock_116 rfl ?_
                refine bj_if_eqN (tgt := 125) d_Mo_lock_118 (by decide) (by decide) (fun h => absurd h (by decide)) (fun _ => ?_)
                refine bj_iconst (v := (nI 1)) d_Mo_lock_121 (by decide) ?_
                refine bj_goto (tgt := 126) d_Mo_lock_122 (by decide) ?_
                have hvv : nI 1 = bt_n (ml_ld ld (x / 8) (x % 8) (k / 8) (k % 8)) := ld_t (by first | exact Or.inl (bt_nn h108) | (refine Or.inr ⟨?_, ?_⟩ <;> first | exact Or.inl h33 | exact Or.inr (bt_nn h51) | exact Or.inl h67 | exact Or.inr (bt_nn h85)))
                refine bv_zast d_Mo_lock_126 1 rfl h4 (by omega) (by omega) rfl (fun N1 hN1 hO1 => ?_)
                refine bj_iinc (v := (nI (k + 1))) (L' := [some (.ref (ad 80)), some (.int (nI x)), some (.int (nI (x / 8))), some (.int (nI (x % 8))), some (.int (nI (k + 1))), some (.int (nI 1)), some (.int (nI 1))]) d_Mo_lock_127 rfl (bj_inc1 _) (by decide) rfl ?_
                refine bj_goto (tgt := 20) d_Mo_lock_130 (by decide) ?_
                exact ih_lp (64 - (k + 1)) (by omega) (k + 1) N1 _ _ rfl (by omega) (h3.in (hO1 89 (by decide))) (hN1.to (fun j _ => by rw [hvv]; exact lg_s)) (fun q q1 q2 => (hO1 q q2).trans (ho q q1 q2))
            · refine bj_aload_n d_Mo_lock_70 rfl rfl ?_
              refine bj_get d_Mo_lock_71 in_Mo rfl (by decide : 13 < 17) wf_Mo_38 rfl hO2 rfl ?_
              refine bj_bipush (v := (nI 8)) d_Mo_lock_74 (by decide) ?_
              refine bj_iload_n d_Mo_lock_76 rfl rfl ?_
              refine bj_imul (v := (nI (8 * (x % 8)))) d_Mo_lock_77 (pk_mul _ _) ?_
              refine bj_iload d_Mo_lock_78 rfl ?_
              refine bj_bipush (v := (nI 8)) d_Mo_lock_80 (by decide) ?_
              refine bj_irem (v := (nI (k % 8))) d_Mo_lock_82 (by decide) (pk_rem (by omega) (by decide) (by decide)) ?_
              refine bj_iadd (v := (nI ((8 * (x % 8)) + (k % 8)))) d_Mo_lock_83 (nI_add _ _) ?_
              refine bv_zald (v := (bt_n (ld (x % 8) (k % 8)))) d_Mo_lock_84 1 rfl h4 (by omega) (by omega) (lg_row hab hnr (by omega)) ?_
              refine bj_if_eq (tgt := 92) d_Mo_lock_85 (by decide) (fun h85 => ?_) (fun h85 => ?_)
              · refine bj_iconst (v := (nI 0)) d_Mo_lock_92 (by decide) ?_
                refine bj_istore (L' := [some (.ref (ad 80)), some (.int (nI x)), some (.int (nI (x / 8))), some (.int (nI (x % 8))), some (.int (nI k)), some (.int (nI 1)), some (.int (nI 0))]) d_Mo_lock_93 (by decide) rfl ?_
                refine bj_aload_n d_Mo_lock_95 rfl rfl ?_
                refine bj_get d_Mo_lock_96 in_Mo rfl (by decide : 13 < 17) wf_Mo_38 rfl hO2 rfl ?_
                refine bj_iload d_Mo_lock_99 rfl ?_
                refine bj_aload_n d_Mo_lock_101 rfl rfl ?_
                refine bj_get d_Mo_lock_102 in_Mo rfl (by decide : 13 < 17) wf_Mo_38 rfl hO2 rfl ?_
                refine bj_iload d_Mo_lock_105 rfl ?_
                refine bv_zald (v := (bt_n (ld (k / 8) (k % 8)))) d_Mo_lock_107 1 rfl h4 (by omega) (by omega) lg_at ?_
                refine bj_if_ne (tgt := 121) d_Mo_lock_108 (by decide) (fun h108 => ?_) (fun h108 => ?_)
                · refine bj_iconst (v := (nI 1)) d_Mo_lock_121 (by decide) ?_
                  refine bj_goto (tgt := 126) d_Mo_lock_122 (by decide) ?_
                  have hvv : nI 1 = bt_n (ml_ld ld (x / 8) (x % 8) (k / 8) (k % 8)) := ld_t (by first | exact Or.inl (bt_nn h108) | (refine Or.inr ⟨?_, ?_⟩ <;> first | exact Or.inl h33 | exact Or.inr (bt_nn h51) | exact Or.inl h67 | exact Or.inr (bt_nn h85)))
                  refine bv_zast d_Mo_lock_126 1 rfl h4 (by omega) (by omega) rfl (fun N1 hN1 hO1 => ?_)
                  refine bj_iinc (v := (nI (k + 1))) (L' := [some (.ref (ad 80)), some (.int (nI x)), some (.int (nI (x / 8))), some (.int (nI (x % 8))), some (.int (nI (k + 1))), some (.int (nI 1)), some (.int (nI 0))]) d_Mo_lock_127 rfl (bj_inc1 _) (by decide) rfl ?_
                  refine bj_goto (tgt := 20) d_Mo_lock_130 (by decide) ?_
                  exact ih_lp (64 - (k + 1)) (by omega) (k + 1) N1 _ _ rfl (by omega) (h3.in (hO1 89 (by decide))) (hN1.to (fun j _ => by rw [hvv]; exact lg_s)) (fun q q1 q2 => (hO1 q q2).trans (ho q q1 q2))
                · refine bj_iload d_Mo_lock_111 rfl ?_
                  refine bj_if_eqN (tgt := 125) d_Mo_lock_113 (by decide) (by decide) (fun h => absurd h (by decide)) (fun _ => ?_)
                  refine bj_iload d_Mo_lock_116 rfl ?_
                  refine bj_if_eqN (tgt := 125) d_Mo_lock_118 (by decide) (by decide) (fun _ => ?_) (fun h => absurd h (by decide))
                  refine bj_iconst (v := (nI 0)) d_Mo_lock_125 (by decide) ?_
                  have hvv : nI 0 = bt_n (ml_ld ld (x / 8) (x % 8) (k / 8) (k % 8)) := ld_f (fun q => by
                    rcases q with q | ⟨q1, q2⟩
                    · rw [q] at h108; exact absurd h108 (by decide)
                    · first | (rcases q1 with q1 | q1; exact h33 q1; rw [q1] at h51; exact absurd h51 (by decide)) | (rcases q2 with q2 | q2; exact h67 q2; rw [q2] at h85; exact absurd h85 (by decide)))
                  refine bv_zast d_Mo_lock_126 1 rfl h4 (by omega) (by omega) rfl (fun N1 hN1 hO1 => ?_)
                  refine bj_iinc (v := (nI (k + 1))) (L' := [some (.ref (ad 80)), some (.int (nI x)), some (.int (nI (x / 8))), some (.int (nI (x % 8))), some (.int (nI (k + 1))), some (.int (nI 1)), some (.int (nI 0))]) d_Mo_lock_127 rfl (bj_inc1 _) (by decide) rfl ?_
                  refine bj_goto (tgt := 20) d_Mo_lock_130 (by decide) ?_
                  exact ih_lp (64 - (k + 1)) (by omega) (k + 1) N1 _ _ rfl (by omega) (h3.in (hO1 89 (by decide))) (hN1.to (fun j _ => by rw [hvv]; exact lg_s)) (fun q q1 q2 => (hO1 q q2).trans (ho q q1 q2))
              · refine bj_iconst (v := (nI 1)) d_Mo_lock_88 (by decide) ?_
                refine bj_goto (tgt := 93) d_Mo_lock_89 (by decide) ?_
                refine bj_istore (L' := [some (.ref (ad 80)), some (.int (nI x)), some (.int (nI (x / 8))), some (.int (nI (x % 8))), some (.int (nI k)), some (.int (nI 1)), some (.int (nI 1))]) d_Mo_lock_93 (by decide) rfl ?_
                refine bj_aload_n d_Mo_lock_95 rfl rfl ?_
                refine bj_get d_Mo_lock_96 in_Mo rfl (by decide : 13 < 17) wf_Mo_38 rfl hO2 rfl ?_
                refine bj_iload d_Mo_lock_99 rfl ?_
                refine bj_aload_n d_Mo_lock_101 rfl rfl ?_
                refine bj_get d_Mo_lock_102 in_Mo rfl (by decide : 13 < 17) wf_Mo_38 rfl hO2 rfl ?_
                refine bj_iload d_Mo_lock_105 rfl ?_
                refine bv_zald (v := (bt_n (ld (k / 8) (k % 8)))) d_Mo_lock_107 1 rfl h4 (by omega) (by omega) lg_at ?_
                refine bj_if_ne (tgt := 121) d_Mo_lock_108 (by decide) (fun h108 => ?_) (fun h108 => ?_)
                · refine bj_iconst (v := (nI 1)) d_Mo_lock_121 (by decide) ?_
                  refine bj_goto (tgt := 126) d_Mo_lock_122 (by decide) ?_
                  have hvv : nI 1 = bt_n (ml_ld ld (x / 8) (x % 8) (k / 8) (k % 8)) := ld_t (by first | exact Or.inl (bt_nn h108) | (refine Or.inr ⟨?_, ?_⟩ <;> first | exact Or.inl h33 | exact Or.inr (bt_nn h51) | exact Or.inl h67 | exact Or.inr (bt_nn h85)))
                  refine bv_zast d_Mo_lock_126 1 rfl h4 (by omega) (by omega) rfl (fun N1 hN1 hO1 => ?_)
                  refine bj_iinc (v := (nI (k + 1))) (L' := [some (.ref (ad 80)), some (.int (nI x)), some (.int (nI (x / 8))), some (.int (nI (x % 8))), some (.int (nI (k + 1))), some (.int (nI 1)), some (.int (nI 1))]) d_Mo_lock_127 rfl (bj_inc1 _) (by decide) rfl ?_
                  refine bj_goto (tgt := 20) d_Mo_lock_130 (by decide) ?_
                  exact ih_lp (64 - (k + 1)) (by omega) (k + 1) N1 _ _ rfl (by omega) (h3.in (hO1 89 (by decide))) (hN1.to (fun j _ => by rw [hvv]; exact lg_s)) (fun q q1 q2 => (hO1 q q2).trans (ho q q1 q2))
                · refine bj_iload d_Mo_lock_111 rfl ?_
                  refine bj_if_eqN (tgt := 125) d_Mo_lock_113 (by decide) (by decide) (fun h => absurd h (by decide)) (fun _ => ?_)
                  refine bj_iload d_Mo_lock_116 rfl ?_
                  refine bj_if_eqN (tgt := 125) d_Mo_lock_118 (by decide) (by decide) (fun h => absurd h (by decide)) (fun _ => ?_)
                  refine bj_iconst (v := (nI 1)) d_Mo_lock_121 (by decide) ?_
                  refine bj_goto (tgt := 126) d_Mo_lock_122 (by decide) ?_
                  have hvv : nI 1 = bt_n (ml_ld ld (x / 8) (x % 8) (k / 8) (k % 8)) := ld_t (by first | exact Or.inl (bt_nn h108) | (refine Or.inr ⟨?_, ?_⟩ <;> first | exact Or.inl h33 | exact Or.inr (bt_nn h51) | exact Or.inl h67 | exact Or.inr (bt_nn h85)))
                  refine bv_zast d_Mo_lock_126 1 rfl h4 (by omega) (by omega) rfl (fun N1 hN1 hO1 => ?_)
                  refine bj_iinc (v := (nI (k + 1))) (L' := [some (.ref (ad 80)), some (.int (nI x)), some (.int (nI (x / 8))), some (.int (nI (x % 8))), some (.int (nI (k + 1))), some (.int (nI 1)), some (.int (nI 1))]) d_Mo_lock_127 rfl (bj_inc1 _) (by decide) rfl ?_
                  refine bj_goto (tgt := 20) d_Mo_lock_130 (by decide) ?_
                  exact ih_lp (64 - (k + 1)) (by omega) (k + 1) N1 _ _ rfl (by omega) (h3.in (hO1 89 (by decide))) (hN1.to (fun j _ => by rw [hvv]; exact lg_s)) (fun q q1 q2 => (hO1 q q2).trans (ho q q1 q2))
  exact lp 0 N1 _ _ (Nat.zero_le _) (hN1.to (fun j _ => bg_lk)) ((hld.in (hO1 90 (by decide))).to (fun j _ => (if_neg (Nat.not_lt_zero _)).symm)) (fun q q1 _ => hO1 q q1)
end M6
