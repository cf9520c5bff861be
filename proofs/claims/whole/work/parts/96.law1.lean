/-! the law's cases: each call on both sides, and what is compared (walks by gen/m_law.py) -/
section LW

def lw_in (c : Nat → ClassId) (ad : Nat → Nat) (M : bj_M) : Prop := ∃ (N op : Nat) (se : Bool) (dw sg sz : Nat → Nat) (rk : Nat → Nat → Int32) (tm : Nat → Nat → Nat) (cd : Int32) (f : Nat → Int64), of_all c ad M N op se dw sg sz rk tm ∧ mo_all c ad M N cd se op dw sg sz rk tm ∧ M 93 = some (.inl (c 2, 1, .inr (.inl f)))
section PU
variable {c : Nat → ClassId} {ad : Nat → Nat} {M M' N1 N2 : bj_M} {N op : Nat} {se : Bool} {dw sg sz : Nat → Nat} {rk : Nat → Nat → Int32} {tm : Nat → Nat → Nat} {op' : Nat} {se' : Bool} {dw' sg' sz' : Nat → Nat} {rk' : Nat → Nat → Int32} {tm' : Nat → Nat → Nat}
theorem mo_sc.kp (h : mo_sc c M) (e : ∀ q, 86 ≤ q → q < 93 → M' q = M q) : mo_sc c M' := by
  obtain ⟨pf, di, st, lk, ld, fa, ls, h1, h2, h3, h4, h5, h6, h7⟩ := h
  exact ⟨pf, di, st, lk, ld, fa, ls, h1.in (e _ (by omega) (by omega)), h2.in (e _ (by omega) (by omega)), h3.in (e _ (by omega) (by omega)), h4.in (e _ (by omega) (by omega)), h5.in (e _ (by omega) (by omega)), h6.in (e _ (by omega) (by omega)), h7.in (e _ (by omega) (by omega))⟩
theorem mo_all.kp {cd : Int32} (h : mo_all c ad M N cd se op dw sg sz rk tm) (e : ∀ q, 80 ≤ q → q < 93 → M' q = M q) : mo_all c ad M' N cd se op dw sg sz rk tm := by
  obtain ⟨⟨li, h1⟩, h2⟩ := h
  exact ⟨⟨li, h1.in (fun q q1 q2 => e q q1 (by omega))⟩, h2.kp (fun q q1 q2 => e q (by omega) q2)⟩
theorem of_all.kp (h : of_all c ad M N op se dw sg sz rk tm) (e : ∀ q, q < 76 → M' q = M q) : of_all c ad M' N op se dw sg sz rk tm := h.in (fun q hq => e q (by omega)) (h.2.2.in h.1.2.1 (fun q q1 q2 => e q q2))
/-- between the two calls -/
def lw_m (c : Nat → ClassId) (ad : Nat → Nat) (R : Nat → Option Value → Prop) (f : Nat → Int64) (N : Nat) (op : Nat) (se : Bool) (dw sg sz : Nat → Nat) (rk : Nat → Nat → Int32) (tm : Nat → Nat → Nat) (op' : Nat) (se' : Bool) (dw' sg' sz' : Nat → Nat) (rk' : Nat → Nat → Int32) (tm' : Nat → Nat → Nat) (k : Nat) (N1 : bj_M) : Prop :=
  (k = 0 ∧ (∃ x, R 0 (some (.int x)) ∧ N1 93 = some (.inl (c 2, 1, .inr (.inl (va_up f 0 x.toInt64))))) ∧ of_all c ad N1 N op' se' dw' sg' sz' rk' tm') ∨ (k ≠ 0 ∧ R k none ∧ N1 93 = some (.inl (c 2, 1, .inr (.inl f))) ∧ of_all c ad N1 N op se dw sg sz rk tm)
theorem lw_mid {f : Nat → Int64} {R : Nat → Option Value → Prop} {Gd Bd : bj_M → Prop} {v : Option Value} (h93 : M 93 = some (.inl (c 2, 1, .inr (.inl f)))) (hq : q_wr c R Gd Bd f (.inl v) N1) (hG : ∀ M1, Gd M1 → of_st c ad M N op' se' dw' sg' sz' rk' tm' M1) (hB : ∀ M1, Bd M1 → of_st c ad M N op se dw sg sz rk tm M1) :
    ∃ k, k < 4 ∧ v = some (.int (nI k)) ∧ (∀ q, 76 ≤ q → q ≠ 93 → N1 q = M q) ∧ lw_m c ad R f N op se dw sg sz rk tm op' se' dw' sg' sz' rk' tm' k N1 := by
  obtain ⟨k, h4, hv, h⟩ := hq
  refine ⟨k, h4, hv, ?_⟩
  rcases h with ⟨h0, x, M1, hR, hg, rfl⟩ | ⟨h0, hR, hb⟩
  · obtain ⟨g1, g2⟩ := hG M1 hg
    exact ⟨fun q q1 q2 => (va_up_ne _ _ q2).trans (g2 q q1), Or.inl ⟨h0, ⟨x, hR, va_up_self _ _ _⟩, g1.kp (fun q hq => va_up_ne _ _ (by omega))⟩⟩
  · obtain ⟨g1, g2⟩ := hB N1 hb
    exact ⟨fun q q1 _ => g2 q q1, Or.inr ⟨h0, hR, (g2 93 (by omega)).trans h93, g1⟩⟩
def lw_n (c : Nat → ClassId) (ad : Nat → Nat) (R : Nat → Option Value → Prop) (f : Nat → Int64) (N : Nat) (op : Nat) (se : Bool) (dw sg sz : Nat → Nat) (rk : Nat → Nat → Int32) (tm : Nat → Nat → Nat) (op' : Nat) (se' : Bool) (dw' sg' sz' : Nat → Nat) (rk' : Nat → Nat → Int32) (tm' : Nat → Nat → Nat) (k : Nat) (N1 : bj_M) : Prop :=
  N1 93 = some (.inl (c 2, 1, .inr (.inl f))) ∧ R k none ∧ ((k = 0 ∧ of_all c ad N1 N op' se' dw' sg' sz' rk' tm') ∨ (k ≠ 0 ∧ of_all c ad N1 N op se dw sg sz rk tm))
theorem lw_midv {f : Nat → Int64} {R : Nat → Option Value → Prop} {Gd Bd : bj_M → Prop} {v : Option Value} (h93 : M 93 = some (.inl (c 2, 1, .inr (.inl f)))) (hq : q_wv R Gd Bd (.inl v) N1) (hG : ∀ M1, Gd M1 → of_st c ad M N op' se' dw' sg' sz' rk' tm' M1) (hB : ∀ M1, Bd M1 → of_st c ad M N op se dw sg sz rk tm M1) :
    ∃ k, k < 4 ∧ v = some (.int (nI k)) ∧ (∀ q, 76 ≤ q → q ≠ 93 → N1 q = M q) ∧ lw_n c ad R f N op se dw sg sz rk tm op' se' dw' sg' sz' rk' tm' k N1 := by
  obtain ⟨k, h4, hv, h⟩ := hq
  refine ⟨k, h4, hv, ?_⟩
  rcases h with ⟨rfl, hR, hg⟩ | ⟨h0, hR, hb⟩
  · obtain ⟨g1, g2⟩ := hG N1 hg
    exact ⟨fun q q1 _ => g2 q q1, (g2 93 (by omega)).trans h93, hR, Or.inl ⟨rfl, g1⟩⟩
  · obtain ⟨g1, g2⟩ := hB N1 hb
    exact ⟨fun q q1 _ => g2 q q1, (g2 93 (by omega)).trans h93, hR, Or.inr ⟨h0, g1⟩⟩
theorem lw_mo {cd : Int32} {k : Nat} {f : Nat → Int64} (ho : of_all c ad N1 N op se dw sg sz rk tm) (h93 : N1 93 = some (.inl (c 2, 1, .inr (.inl f)))) (hm : mo_st c ad N1 N se op dw sg sz rk tm k N2) : lw_in c ad N2 ∧ N2 93 = N1 93 ∧ ∃ li, mo_ok c ad N2 N (nI k) se op li dw sg sz rk tm := by
  obtain ⟨g1, g2⟩ := hm
  have e : N2 93 = N1 93 := g2 93 (by omega)
  exact ⟨⟨N, op, se, dw, sg, sz, rk, tm, nI k, f, ho.kp (fun q hq => g2 q (by omega)), g1, e.trans h93⟩, e, g1.1⟩
/-- behind both calls: the codes are the same, the answers too, and the states go together -/
theorem lw_end {f : Nat → Int64} {R : Nat → Option Value → Prop} {Gd Bd : Nat → bj_M → Prop} {r : Option Value} {k : Nat} {b : Bool} (hf : fnl R) (hm : lw_m c ad R f N op se dw sg sz rk tm op' se' dw' sg' sz' rk' tm' k N1) (hq : q_mod b R Gd Bd (.inl r) N2) (hG : ∀ j M', Gd j M' → mo_st c ad N1 N se' op' dw' sg' sz' rk' tm' j M') (hB : ∀ j M', Bd j M' → mo_st c ad N1 N se op dw sg sz rk tm j M') :
    shp b r ∧ (∃ se1 op1 li dw1 sg1 sz1 rk1 tm1, mo_ok c ad N2 N (nI k) se1 op1 li dw1 sg1 sz1 rk1 tm1) ∧ lw_in c ad N2 ∧ (k = 0 → ∃ x f', R 0 (some (.int x)) ∧ r = some (.int x) ∧ N2 93 = some (.inl (c 2, 1, .inr (.inl f'))) ∧ f' 0 = x.toInt64) := by
  obtain ⟨k', hR, hS, -, hs⟩ := hq
  refine ⟨hs, ?_⟩
  rcases hm with ⟨rfl, ⟨x, hR0, h93⟩, ho⟩ | ⟨h0, hRk, h93, ho⟩
  · obtain ⟨rfl, ev⟩ := hf _ _ _ _ hR hR0
    rw [if_pos rfl] at ev hS
    obtain ⟨a1, a2, li, a3⟩ := lw_mo (cd := 0) ho h93 (hG _ _ hS)
    exact ⟨⟨_, _, li, _, _, _, _, _, a3⟩, a1, fun _ => ⟨x, _, hR0, ev, a2.trans h93, va_up_self _ _ _⟩⟩
  · obtain ⟨rfl, -⟩ := hf _ _ _ _ hR hRk
    rw [if_neg h0] at hS
    obtain ⟨a1, a2, li, a3⟩ := lw_mo (cd := 0) ho h93 (hB _ _ hS)
    exact ⟨⟨_, _, li, _, _, _, _, _, a3⟩, a1, fun h => absurd h h0⟩
theorem lw_endv {f : Nat → Int64} {R : Nat → Option Value → Prop} {Gd Bd : Nat → bj_M → Prop} {r : Option Value} {k : Nat} {b : Bool} (hf : fnl R) (hm : lw_n c ad R f N op se dw sg sz rk tm op' se' dw' sg' sz' rk' tm' k N1) (hq : q_mod b R Gd Bd (.inl r) N2) (hG : ∀ j M', Gd j M' → mo_st c ad N1 N se' op' dw' sg' sz' rk' tm' j M') (hB : ∀ j M', Bd j M' → mo_st c ad N1 N se op dw sg sz rk tm j M') :
    shp b r ∧ (∃ se1 op1 li dw1 sg1 sz1 rk1 tm1, mo_ok c ad N2 N (nI k) se1 op1 li dw1 sg1 sz1 rk1 tm1) ∧ lw_in c ad N2 := by
  obtain ⟨k', hR, hS, -, hs⟩ := hq
  obtain ⟨h93, hRk, hm⟩ := hm
  refine ⟨hs, ?_⟩
  obtain ⟨rfl, -⟩ := hf _ _ _ _ hR hRk
  rcases hm with ⟨rfl, ho⟩ | ⟨h0, ho⟩
  · rw [if_pos rfl] at hS
    obtain ⟨a1, a2, li, a3⟩ := lw_mo (cd := 0) ho h93 (hG _ _ hS)
    exact ⟨⟨_, _, li, _, _, _, _, _, a3⟩, a1⟩
  · rw [if_neg h0] at hS
    obtain ⟨a1, a2, li, a3⟩ := lw_mo (cd := 0) ho h93 (hB _ _ hS)
    exact ⟨⟨_, _, li, _, _, _, _, _, a3⟩, a1⟩
end PU
theorem lgc (x : Int64) : lg_cmp x x = 0 := by
  unfold lg_cmp
  simp
theorem le_prC {N : Nat} {x y : Int32} : prC N x y ≤ 1 := by unfold prC; split <;> omega
theorem le_icC {b : Bool} : icC b ≤ 1 := by unfold icC; split <;> omega
theorem le_tieC {N op : Nat} {se : Bool} {x y : Int32} : tieC N op se x y ≤ 2 := by
  unfold tieC
  split
  · split <;> omega
  · omega
theorem le_with {op : Nat} {sg sz : Nat → Nat} {rk : Nat → Nat → Int32} {tm : Nat → Nat → Nat} {N : Nat} {dw : Nat → Nat} {b w x : Int32} {k : Nat} {v : Option Value} (h : withR op sg sz rk tm N dw b w x k v) : k ≤ 2 := by
  rcases h with ⟨-, rfl, -⟩ | ⟨h, h1, h2, h3⟩
  · omega
  · rcases h.2 with hw | hw | hw
    · exact le_Rf (h1 hw)
    · exact le_ord (h2 hw)
    · exact le_top (h3 hw)
theorem int_with {op : Nat} {sg sz : Nat → Nat} {rk : Nat → Nat → Int32} {tm : Nat → Nat → Nat} {N : Nat} {dw : Nat → Nat} {b w x : Int32} : ∀ v, withR op sg sz rk tm N dw b w x 0 v → ∃ z, v = some (.int z) := fun v h => by
  rcases h with ⟨-, h, -⟩ | ⟨h, h1, h2, h3⟩
  · cases h
  · rcases h.2 with hw | hw | hw
    · exact int_Rf (by decide) v (h1 hw)
    · exact int_ord (by decide) v (h2 hw)
    · exact int_top (by decide) v (h3 hw)
/-- a local forgotten -/
theorem zj_fg {I : zj_I} {G : bj_G} {Y : bj_Y} {n : Nat} {K : bj_K} {ad : Nat → Nat} {Q : bj_R → bj_M → Prop} {cs sl pc : Nat} {L L' : List (Option Value)} {st : List Value} {M : bj_M} (hlen : L.length = L'.length) (h : ∀ (i : Nat) (v : Value), L'[i]? = some (some v) → L[i]? = some (some v)) (kk : bj_Z I G Y n K ad Q cs sl pc L' st M) : bj_Z I G Y n K ad Q cs sl pc L st M :=
  fun p e s m ar be me c A H lo ls hI C hW hS hl => kk p e s m ar be me c A H lo ls hI C hW hS ⟨hl.1, hlen.symm.trans hl.2.1, fun i v hv => hl.2.2 i v (h i v hv)⟩
theorem fg2 {a b c d e x y : Option Value} : ∀ (i : Nat) (v : Value), ([a, b, c, d, e, none, none] : List (Option Value))[i]? = some (some v) → ([a, b, c, d, e, x, y] : List (Option Value))[i]? = some (some v) := fun i v h => by
  match i with
  | 0 | 1 | 2 | 3 | 4 => exact h
  | 5 | 6 => cases h
  | i + 7 => cases h
abbrev KL : bj_K := (647849, 7152524, 0, 0)
abbrev QL : bj_R → bj_M → Prop := fun r _ => r = .inl (some (.int 1))
variable (l : Launch) (D : va_G) (c : Nat → ClassId) (ad : Nat → Nat) (M : bj_M)
set_option maxRecDepth 100000 in
set_option maxHeartbeats 4000000 in
/-- tie -/
theorem lc_tie (htr : l.stackTraces = false) {b N0 i cs sl : Nat} {xs : Nat → Int32} (hi : i + 6 ≤ N0) (hN0 : N0 ≤ 3073) (hcs : cs ≤ 5000) (hsl : sl ≤ 50000) (hin : lw_in c ad M) (hK : ∀ M' cs' sl', lw_in c ad M' → cs' ≤ cs + 1 → sl' ≤ sl + 6 → bj_Z (sc_I b N0 xs) (bw_G l D c) Y_La_law 12 KL ad QL cs' sl' 1284 [some (.ref b), some (.ref (ad 0)), some (.ref (ad 80)), some (.ref (ad 93)), some (.int (nI i)), none, none] [] M') : bj_Z (sc_I b N0 xs) (bw_G l D c) Y_La_law 12 KL ad QL cs sl 140 [some (.ref b), some (.ref (ad 0)), some (.ref (ad 80)), some (.ref (ad 93)), some (.int (nI i)), none, none] [] M := by
  obtain ⟨N, op, se, dw, sg, sz, rk, tm, cd, f, hO, hm, h93⟩ := hin
  have hN : N ≤ 8 := hO.1.2.1
  have hps : ∀ but a b, psum sg sz rk tm but a b < 2 ^ 31 := fun but a b => Nat.lt_of_le_of_lt (psum_le (fun j hj => ⟨(hO.1.2.2.2.2.1 j hj).2.1, (hO.1.2.2.2.2.1 j hj).2.2⟩)) (by decide)
  refine zj_aload_n d_La_law_140 rfl rfl ?_
  refine zj_aload_n d_La_law_141 rfl rfl ?_
  refine zj_iload d_La_law_142 rfl ?_
  refine zj_iconst (v := (nI 1)) d_La_law_144 (by decide) ?_
  refine zj_iadd (v := (nI (i + 1))) d_La_law_145 (nI_add _ _) ?_
  refine zj_sld d_La_law_146 (by omega) (by omega) ?_
  refine zj_aload_n d_La_law_147 rfl rfl ?_
  refine zj_iload d_La_law_148 rfl ?_
  refine zj_iconst (v := (nI 2)) d_La_law_150 (by decide) ?_
  refine zj_iadd (v := (nI (i + 2))) d_La_law_151 (nI_add _ _) ?_
  refine zj_sld d_La_law_152 (by omega) (by omega) ?_
  refine zj_cs ss_La_85 d_La_law_153 (sc_st _ _ _) (zj_of (t_La_tie l D c ad M (t_Of_tie l D c ad M htr hO) hO.2.1.1 (fun n h => h.1 ▸ le_tieC) (fun v h => h.2))) rfl rfl (by decide) (by show cs + (1 + 0) ≤ 647849 + 0; omega) (by show sl + (6 + 0) ≤ 7152524 + 0; omega) (Nat.le_of_ble_eq_true rfl) rfl (fun v1 N1 hq1 => ?_) (fun _ _ h => h)
  obtain ⟨k, hk4, rfl, hfr, hmid⟩ := lw_midv h93 hq1 (fun _ h => h) (fun _ h => h)
  have hm1 := hm.kp (M' := N1) (fun q q1 q2 => hfr q (by omega) (by omega))
  obtain ⟨li0, hm1o⟩ := hm1.1
  show bj_Z (sc_I b N0 xs) (bw_G l D c) Y_La_law 12 KL ad QL (cs + 1) (sl + 6) 156 [some (.ref b), some (.ref (ad 0)), some (.ref (ad 80)), some (.ref (ad 93)), some (.int (nI i)), none, none] [.int (nI k)] N1
  refine zj_istore (L' := [some (.ref b), some (.ref (ad 0)), some (.ref (ad 80)), some (.ref (ad 93)), some (.int (nI i)), some (.int (nI k)), none]) d_La_law_156 (by decide) rfl ?_
  refine zj_aload_n d_La_law_158 rfl rfl ?_
  refine zj_aload_n d_La_law_159 rfl rfl ?_
  refine zj_iload d_La_law_160 rfl ?_
  refine zj_iconst (v := (nI 1)) d_La_law_162 (by decide) ?_
  refine zj_iadd (v := (nI (i + 1))) d_La_law_163 (nI_add _ _) ?_
  refine zj_sld d_La_law_164 (by omega) (by omega) ?_
  refine zj_aload_n d_La_law_165 rfl rfl ?_
  refine zj_iload d_La_law_166 rfl ?_
  refine zj_iconst (v := (nI 2)) d_La_law_168 (by decide) ?_
  refine zj_iadd (v := (nI (i + 2))) d_La_law_169 (nI_add _ _) ?_
  refine zj_sld d_La_law_170 (by omega) (by omega) ?_
  refine zj_cv sv_La_88 d_La_law_171 (sc_st _ _ _) (zj_of (t_Mo_tie l D c ad N1 hm1 hO.1)) rfl rfl (by decide) (by show cs + 1 + (0 + 0) ≤ 647849 + 0; omega) (by show sl + 6 + (0 + 0) ≤ 7152524 + 0; omega) (Nat.le_of_ble_eq_true rfl) rfl hm1o.1 rfl rfl (fun v2 N2 hq2 => ?_) (fun _ _ h => h)
  obtain ⟨hs, ⟨se1, op1, li, dw1, sg1, sz1, rk1, tm1, hth⟩, hin2⟩ := lw_endv fnl_Ru hmid hq2 (fun _ _ h => h) (fun _ _ h => h)
  obtain rfl := hs.2 rfl
  show bj_Z (sc_I b N0 xs) (bw_G l D c) Y_La_law 12 KL ad QL (cs + 1) (sl + 6) 174 [some (.ref b), some (.ref (ad 0)), some (.ref (ad 80)), some (.ref (ad 93)), some (.int (nI i)), some (.int (nI k)), none] [] N2
  refine zj_aload_n d_La_law_174 rfl rfl ?_
  refine zj_cv sv_La_89 d_La_law_175 (sc_st _ _ _) (zj_of (t_Mo_thrown l D c ad N2 hth hN)) rfl rfl (by decide) (by show cs + 1 + 0 + (0 + 0) ≤ 647849 + 0; omega) (by show sl + 6 + 0 + (0 + 0) ≤ 7152524 + 0; omega) (Nat.le_of_ble_eq_true rfl) rfl hth.1 rfl rfl (fun v3 N3 hq3 => ?_) (fun _ _ h => h)
  obtain ⟨rfl, rfl⟩ := hq3
  show bj_Z (sc_I b N0 xs) (bw_G l D c) Y_La_law 12 KL ad QL (cs + 1) (sl + 6) 178 [some (.ref b), some (.ref (ad 0)), some (.ref (ad 80)), some (.ref (ad 93)), some (.int (nI i)), some (.int (nI k)), none] [.int (nI k)] N3
  refine zj_iload d_La_law_178 rfl ?_
  refine zj_icmp_eqN (tgt := 185) d_La_law_180 (by decide) (by omega) (by omega) (fun _ => ?_) (fun h => absurd rfl h)
  refine zj_goto (tgt := 1284) d_La_law_185 (by decide) ?_
  refine zj_fg (L' := [some (.ref b), some (.ref (ad 0)), some (.ref (ad 80)), some (.ref (ad 93)), some (.int (nI i)), none, none]) rfl fg2 ?_
  exact hK _ _ _ hin2 (Nat.le_refl _) (Nat.le_refl _)
set_option maxRecDepth 100000 in
set_option maxHeartbeats 4000000 in
/-- drawn -/
theorem lc_drawn (htr : l.stackTraces = false) {b N0 i cs sl : Nat} {xs : Nat → Int32} (hi : i + 6 ≤ N0) (hN0 : N0 ≤ 3073) (hcs : cs ≤ 5000) (hsl : sl ≤ 50000) (hin : lw_in c ad M) (hK : ∀ M' cs' sl', lw_in c ad M' → cs' ≤ cs + 1 → sl' ≤ sl + 6 → bj_Z (sc_I b N0 xs) (bw_G l D c) Y_La_law 12 KL ad QL cs' sl' 1284 [some (.ref b), some (.ref (ad 0)), some (.ref (ad 80)), some (.ref (ad 93)), some (.int (nI i)), none, none] [] M') : bj_Z (sc_I b N0 xs) (bw_G l D c) Y_La_law 12 KL ad QL cs sl 188 [some (.ref b), some (.ref (ad 0)), some (.ref (ad 80)), some (.ref (ad 93)), some (.int (nI i)), none, none] [] M := by
  obtain ⟨N, op, se, dw, sg, sz, rk, tm, cd, f, hO, hm, h93⟩ := hin
  have hN : N ≤ 8 := hO.1.2.1
  have hps : ∀ but a b, psum sg sz rk tm but a b < 2 ^ 31 := fun but a b => Nat.lt_of_le_of_lt (psum_le (fun j hj => ⟨(hO.1.2.2.2.2.1 j hj).2.1, (hO.1.2.2.2.2.1 j hj).2.2⟩)) (by decide)
  refine zj_aload_n d_La_law_188 rfl rfl ?_
  refine zj_aload_n d_La_law_189 rfl rfl ?_
  refine zj_iload d_La_law_190 rfl ?_
  refine zj_iconst (v := (nI 1)) d_La_law_192 (by decide) ?_
  refine zj_iadd (v := (nI (i + 1))) d_La_law_193 (nI_add _ _) ?_
  refine zj_sld d_La_law_194 (by omega) (by omega) ?_
  refine zj_aload_n d_La_law_195 rfl rfl ?_
  refine zj_cs ss_La_92 d_La_law_196 (sc_st _ _ _) (zj_of (t_La_drawn l D c ad M (t_Of_drawn l D c ad M htr hO) hO.2.1.1 (fun n h => h.1 ▸ le_icC) int_Rv (fun M1 h => (h.2 93 (by omega)).trans h93))) rfl rfl (by decide) (by show cs + (1 + 0) ≤ 647849 + 0; omega) (by show sl + (6 + 0) ≤ 7152524 + 0; omega) (Nat.le_of_ble_eq_true rfl) rfl (fun v1 N1 hq1 => ?_) (fun _ _ h => h)
  obtain ⟨k, hk4, rfl, hfr, hmid⟩ := lw_mid h93 hq1 (fun _ h => h) (fun _ h => h)
  have hm1 := hm.kp (M' := N1) (fun q q1 q2 => hfr q (by omega) (by omega))
  obtain ⟨li0, hm1o⟩ := hm1.1
  show bj_Z (sc_I b N0 xs) (bw_G l D c) Y_La_law 12 KL ad QL (cs + 1) (sl + 6) 199 [some (.ref b), some (.ref (ad 0)), some (.ref (ad 80)), some (.ref (ad 93)), some (.int (nI i)), none, none] [.int (nI k)] N1
  refine zj_istore (L' := [some (.ref b), some (.ref (ad 0)), some (.ref (ad 80)), some (.ref (ad 93)), some (.int (nI i)), some (.int (nI k)), none]) d_La_law_199 (by decide) rfl ?_
  refine zj_aload_n d_La_law_201 rfl rfl ?_
  refine zj_aload_n d_La_law_202 rfl rfl ?_
  refine zj_iload d_La_law_203 rfl ?_
  refine zj_iconst (v := (nI 1)) d_La_law_205 (by decide) ?_
  refine zj_iadd (v := (nI (i + 1))) d_La_law_206 (nI_add _ _) ?_
  refine zj_sld d_La_law_207 (by omega) (by omega) ?_
  refine zj_cv sv_La_95 d_La_law_208 (sc_st _ _ _) (zj_of (t_Mo_drawn l D c ad N1 hm1 hO.1)) rfl rfl (by decide) (by show cs + 1 + (0 + 0) ≤ 647849 + 0; omega) (by show sl + 6 + (0 + 0) ≤ 7152524 + 0; omega) (Nat.le_of_ble_eq_true rfl) rfl hm1o.1 rfl rfl (fun v2 N2 hq2 => ?_) (fun _ _ h => h)
  obtain ⟨hs, ⟨se1, op1, li, dw1, sg1, sz1, rk1, tm1, hth⟩, hin2, hv⟩ := lw_end fnl_Rv hmid hq2 (fun _ _ h => h) (fun _ _ h => h)
  obtain ⟨y, rfl⟩ := hs.1 rfl
  show bj_Z (sc_I b N0 xs) (bw_G l D c) Y_La_law 12 KL ad QL (cs + 1) (sl + 6) 211 [some (.ref b), some (.ref (ad 0)), some (.ref (ad 80)), some (.ref (ad 93)), some (.int (nI i)), some (.int (nI k)), none] [.int y] N2
  refine zj_istore (L' := [some (.ref b), some (.ref (ad 0)), some (.ref (ad 80)), some (.ref (ad 93)), some (.int (nI i)), some (.int (nI k)), some (.int y)]) d_La_law_211 (by decide) rfl ?_
  refine zj_aload_n d_La_law_213 rfl rfl ?_
  refine zj_cv sv_La_89 d_La_law_214 (sc_st _ _ _) (zj_of (t_Mo_thrown l D c ad N2 hth hN)) rfl rfl (by decide) (by show cs + 1 + 0 + (0 + 0) ≤ 647849 + 0; omega) (by show sl + 6 + 0 + (0 + 0) ≤ 7152524 + 0; omega) (Nat.le_of_ble_eq_true rfl) rfl hth.1 rfl rfl (fun v3 N3 hq3 => ?_) (fun _ _ h => h)
  obtain ⟨rfl, rfl⟩ := hq3
  show bj_Z (sc_I b N0 xs) (bw_G l D c) Y_La_law 12 KL ad QL (cs + 1) (sl + 6) 217 [some (.ref b), some (.ref (ad 0)), some (.ref (ad 80)), some (.ref (ad 93)), some (.int (nI i)), some (.int (nI k)), some (.int y)] [.int (nI k)] N3
  refine zj_iload d_La_law_217 rfl ?_
  refine zj_icmp_eqN (tgt := 224) d_La_law_219 (by decide) (by omega) (by omega) (fun _ => ?_) (fun h => absurd rfl h)
  refine zj_iload d_La_law_224 rfl ?_
  refine zj_if_neN (tgt := 241) d_La_law_226 (by decide) (by omega) (fun hk0 => ?_) (fun hk0 => ?_)
  · skip
    refine zj_goto (tgt := 1284) d_La_law_241 (by decide) ?_
    refine zj_fg (L' := [some (.ref b), some (.ref (ad 0)), some (.ref (ad 80)), some (.ref (ad 93)), some (.int (nI i)), none, none]) rfl fg2 ?_
    exact hK _ _ _ hin2 (Nat.le_refl _) (Nat.le_refl _)
  · obtain ⟨x, f2, hR0, hx, h932, hf2⟩ := hv hk0
    cases hx
    refine zj_aload_n d_La_law_229 rfl rfl ?_
    refine zj_iconst (v := (nI 0)) d_La_law_230 (by decide) ?_
    refine zj_lald d_La_law_231 2 rfl h932 rfl (by decide) (by decide) ?_
    rw [hf2]
    refine zj_iload d_La_law_232 rfl ?_
    refine zj_i2l (v := y.toInt64) d_La_law_234 rfl ?_
    refine zj_lcmp d_La_law_235 ?_
    refine zj_if_eq (tgt := 241) d_La_law_236 (by decide) (fun _ => ?_) (fun h => absurd (lgc _) h)
    refine zj_goto (tgt := 1284) d_La_law_241 (by decide) ?_
    refine zj_fg (L' := [some (.ref b), some (.ref (ad 0)), some (.ref (ad 80)), some (.ref (ad 93)), some (.int (nI i)), none, none]) rfl fg2 ?_
    exact hK _ _ _ hin2 (Nat.le_refl _) (Nat.le_refl _)
set_option maxRecDepth 100000 in
set_option maxHeartbeats 4000000 in
/-- open -/
theorem lc_open (htr : l.stackTraces = false) {b N0 i cs sl : Nat} {xs : Nat → Int32} (hi : i + 6 ≤ N0) (hN0 : N0 ≤ 3073) (hcs : cs ≤ 5000) (hsl : sl ≤ 50000) (hin : lw_in c ad M) (hK : ∀ M' cs' sl', lw_in c ad M' → cs' ≤ cs + 1 → sl' ≤ sl + 6 → bj_Z (sc_I b N0 xs) (bw_G l D c) Y_La_law 12 KL ad QL cs' sl' 1284 [some (.ref b), some (.ref (ad 0)), some (.ref (ad 80)), some (.ref (ad 93)), some (.int (nI i)), none, none] [] M') : bj_Z (sc_I b N0 xs) (bw_G l D c) Y_La_law 12 KL ad QL cs sl 244 [some (.ref b), some (.ref (ad 0)), some (.ref (ad 80)), some (.ref (ad 93)), some (.int (nI i)), none, none] [] M := by
  obtain ⟨N, op, se, dw, sg, sz, rk, tm, cd, f, hO, hm, h93⟩ := hin
  have hN : N ≤ 8 := hO.1.2.1
  have hps : ∀ but a b, psum sg sz rk tm but a b < 2 ^ 31 := fun but a b => Nat.lt_of_le_of_lt (psum_le (fun j hj => ⟨(hO.1.2.2.2.2.1 j hj).2.1, (hO.1.2.2.2.2.1 j hj).2.2⟩)) (by decide)
  refine zj_aload_n d_La_law_244 rfl rfl ?_
  refine zj_aload_n d_La_law_245 rfl rfl ?_
  refine zj_cs ss_La_96 d_La_law_246 (sc_st _ _ _) (zj_of (t_La_open l D c ad M (t_Of_open l D c ad M htr hO) hO.2.1.1 (fun n h => h.1 ▸ (by split <;> omega)) int_Rv (fun M1 h => (h.2 93 (by omega)).trans h93))) rfl rfl (by decide) (by show cs + (1 + 0) ≤ 647849 + 0; omega) (by show sl + (6 + 0) ≤ 7152524 + 0; omega) (Nat.le_of_ble_eq_true rfl) rfl (fun v1 N1 hq1 => ?_) (fun _ _ h => h)
  obtain ⟨k, hk4, rfl, hfr, hmid⟩ := lw_mid h93 hq1 (fun _ h => h) (fun _ h => h)
  have hm1 := hm.kp (M' := N1) (fun q q1 q2 => hfr q (by omega) (by omega))
  obtain ⟨li0, hm1o⟩ := hm1.1
  show bj_Z (sc_I b N0 xs) (bw_G l D c) Y_La_law 12 KL ad QL (cs + 1) (sl + 6) 249 [some (.ref b), some (.ref (ad 0)), some (.ref (ad 80)), some (.ref (ad 93)), some (.int (nI i)), none, none] [.int (nI k)] N1
  refine zj_istore (L' := [some (.ref b), some (.ref (ad 0)), some (.ref (ad 80)), some (.ref (ad 93)), some (.int (nI i)), some (.int (nI k)), none]) d_La_law_249 (by decide) rfl ?_
  refine zj_aload_n d_La_law_251 rfl rfl ?_
  refine zj_cv sv_La_99 d_La_law_252 (sc_st _ _ _) (zj_of (t_Mo_open l D c ad N1 hm1 hO.1)) rfl rfl (by decide) (by show cs + 1 + (0 + 0) ≤ 647849 + 0; omega) (by show sl + 6 + (0 + 0) ≤ 7152524 + 0; omega) (Nat.le_of_ble_eq_true rfl) rfl hm1o.1 rfl rfl (fun v2 N2 hq2 => ?_) (fun _ _ h => h)
  obtain ⟨hs, ⟨se1, op1, li, dw1, sg1, sz1, rk1, tm1, hth⟩, hin2, hv⟩ := lw_end fnl_Rv hmid hq2 (fun _ _ h => h) (fun _ _ h => h)
  obtain ⟨y, rfl⟩ := hs.1 rfl
  show bj_Z (sc_I b N0 xs) (bw_G l D c) Y_La_law 12 KL ad QL (cs + 1) (sl + 6) 255 [some (.ref b), some (.ref (ad 0)), some (.ref (ad 80)), some (.ref (ad 93)), some (.int (nI i)), some (.int (nI k)), none] [.int y] N2
  refine zj_istore (L' := [some (.ref b), some (.ref (ad 0)), some (.ref (ad 80)), some (.ref (ad 93)), some (.int (nI i)), some (.int (nI k)), some (.int y)]) d_La_law_255 (by decide) rfl ?_
  refine zj_aload_n d_La_law_257 rfl rfl ?_
  refine zj_cv sv_La_89 d_La_law_258 (sc_st _ _ _) (zj_of (t_Mo_thrown l D c ad N2 hth hN)) rfl rfl (by decide) (by show cs + 1 + 0 + (0 + 0) ≤ 647849 + 0; omega) (by show sl + 6 + 0 + (0 + 0) ≤ 7152524 + 0; omega) (Nat.le_of_ble_eq_true rfl) rfl hth.1 rfl rfl (fun v3 N3 hq3 => ?_) (fun _ _ h => h)
  obtain ⟨rfl, rfl⟩ := hq3
  show bj_Z (sc_I b N0 xs) (bw_G l D c) Y_La_law 12 KL ad QL (cs + 1) (sl + 6) 261 [some (.ref b), some (.ref (ad 0)), some (.ref (ad 80)), some (.ref (ad 93)), some (.int (nI i)), some (.int (nI k)), some (.int y)] [.int (nI k)] N3
  refine zj_iload d_La_law_261 rfl ?_
  refine zj_icmp_eqN (tgt := 268) d_La_law_263 (by decide) (by omega) (by omega) (fun _ => ?_) (fun h => absurd rfl h)
  refine zj_iload d_La_law_268 rfl ?_
  refine zj_if_neN (tgt := 285) d_La_law_270 (by decide) (by omega) (fun hk0 => ?_) (fun hk0 => ?_)
  · skip
    refine zj_goto (tgt := 1284) d_La_law_285 (by decide) ?_
    refine zj_fg (L' := [some (.ref b), some (.ref (ad 0)), some (.ref (ad 80)), some (.ref (ad 93)), some (.int (nI i)), none, none]) rfl fg2 ?_
    exact hK _ _ _ hin2 (Nat.le_refl _) (Nat.le_refl _)
  · obtain ⟨x, f2, hR0, hx, h932, hf2⟩ := hv hk0
    cases hx
    refine zj_aload_n d_La_law_273 rfl rfl ?_
    refine zj_iconst (v := (nI 0)) d_La_law_274 (by decide) ?_
    refine zj_lald d_La_law_275 2 rfl h932 rfl (by decide) (by decide) ?_
    rw [hf2]
    refine zj_iload d_La_law_276 rfl ?_
    refine zj_i2l (v := y.toInt64) d_La_law_278 rfl ?_
    refine zj_lcmp d_La_law_279 ?_
    refine zj_if_eq (tgt := 285) d_La_law_280 (by decide) (fun _ => ?_) (fun h => absurd (lgc _) h)
    refine zj_goto (tgt := 1284) d_La_law_285 (by decide) ?_
    refine zj_fg (L' := [some (.ref b), some (.ref (ad 0)), some (.ref (ad 80)), some (.ref (ad 93)), some (.int (nI i)), none, none]) rfl fg2 ?_
    exact hK _ _ _ hin2 (Nat.le_refl _) (Nat.le_refl _)
set_option maxRecDepth 100000 in
set_option maxHeartbeats 4000000 in
/-- ballot -/
theorem lc_ballot (htr : l.stackTraces = false) {b N0 i cs sl : Nat} {xs : Nat → Int32} (hi : i + 6 ≤ N0) (hN0 : N0 ≤ 3073) (hcs : cs ≤ 5000) (hsl : sl ≤ 50000) (hin : lw_in c ad M) (hK : ∀ M' cs' sl', lw_in c ad M' → cs' ≤ cs + 1 → sl' ≤ sl + 6 → bj_Z (sc_I b N0 xs) (bw_G l D c) Y_La_law 12 KL ad QL cs' sl' 1284 [some (.ref b), some (.ref (ad 0)), some (.ref (ad 80)), some (.ref (ad 93)), some (.int (nI i)), none, none] [] M') : bj_Z (sc_I b N0 xs) (bw_G l D c) Y_La_law 12 KL ad QL cs sl 288 [some (.ref b), some (.ref (ad 0)), some (.ref (ad 80)), some (.ref (ad 93)), some (.int (nI i)), none, none] [] M := by
  obtain ⟨N, op, se, dw, sg, sz, rk, tm, cd, f, hO, hm, h93⟩ := hin
  have hN : N ≤ 8 := hO.1.2.1
  have hps : ∀ but a b, psum sg sz rk tm but a b < 2 ^ 31 := fun but a b => Nat.lt_of_le_of_lt (psum_le (fun j hj => ⟨(hO.1.2.2.2.2.1 j hj).2.1, (hO.1.2.2.2.2.1 j hj).2.2⟩)) (by decide)
  refine zj_aload_n d_La_law_288 rfl rfl ?_
  refine zj_aload_n d_La_law_289 rfl rfl ?_
  refine zj_iload d_La_law_290 rfl ?_
  refine zj_iconst (v := (nI 1)) d_La_law_292 (by decide) ?_
  refine zj_iadd (v := (nI (i + 1))) d_La_law_293 (nI_add _ _) ?_
  refine zj_sld d_La_law_294 (by omega) (by omega) ?_
  refine zj_aload_n d_La_law_295 rfl rfl ?_
  refine zj_iload d_La_law_296 rfl ?_
  refine zj_iconst (v := (nI 2)) d_La_law_298 (by decide) ?_
  refine zj_iadd (v := (nI (i + 2))) d_La_law_299 (nI_add _ _) ?_
  refine zj_sld d_La_law_300 (by omega) (by omega) ?_
  refine zj_aload_n d_La_law_301 rfl rfl ?_
  refine zj_iload d_La_law_302 rfl ?_
  refine zj_iconst (v := (nI 3)) d_La_law_304 (by decide) ?_
  refine zj_iadd (v := (nI (i + 3))) d_La_law_305 (nI_add _ _) ?_
  refine zj_sld d_La_law_306 (by omega) (by omega) ?_
  refine zj_aload_n d_La_law_307 rfl rfl ?_
  refine zj_cs ss_La_100 d_La_law_308 (sc_st _ _ _) (zj_of (t_La_ballot l D c ad M (t_Of_ballot l D c ad M htr hO) hO.2.1.1 (fun n h => Nat.le_of_lt_succ (le_Rc _ 1 (by decide) _ _ h)) (int_Rc _ 1 (by decide)) (fun M1 h => (h.2 93 (by omega)).trans h93))) rfl rfl (by decide) (by show cs + (1 + 0) ≤ 647849 + 0; omega) (by show sl + (6 + 0) ≤ 7152524 + 0; omega) (Nat.le_of_ble_eq_true rfl) rfl (fun v1 N1 hq1 => ?_) (fun _ _ h => h)
  obtain ⟨k, hk4, rfl, hfr, hmid⟩ := lw_mid h93 hq1 (fun _ h => h) (fun _ h => h)
  have hm1 := hm.kp (M' := N1) (fun q q1 q2 => hfr q (by omega) (by omega))
  obtain ⟨li0, hm1o⟩ := hm1.1
  show bj_Z (sc_I b N0 xs) (bw_G l D c) Y_La_law 12 KL ad QL (cs + 1) (sl + 6) 311 [some (.ref b), some (.ref (ad 0)), some (.ref (ad 80)), some (.ref (ad 93)), some (.int (nI i)), none, none] [.int (nI k)] N1
  refine zj_istore (L' := [some (.ref b), some (.ref (ad 0)), some (.ref (ad 80)), some (.ref (ad 93)), some (.int (nI i)), some (.int (nI k)), none]) d_La_law_311 (by decide) rfl ?_
  refine zj_aload_n d_La_law_313 rfl rfl ?_
  refine zj_aload_n d_La_law_314 rfl rfl ?_
  refine zj_iload d_La_law_315 rfl ?_
  refine zj_iconst (v := (nI 1)) d_La_law_317 (by decide) ?_
  refine zj_iadd (v := (nI (i + 1))) d_La_law_318 (nI_add _ _) ?_
  refine zj_sld d_La_law_319 (by omega) (by omega) ?_
  refine zj_aload_n d_La_law_320 rfl rfl ?_
  refine zj_iload d_La_law_321 rfl ?_
  refine zj_iconst (v := (nI 2)) d_La_law_323 (by decide) ?_
  refine zj_iadd (v := (nI (i + 2))) d_La_law_324 (nI_add _ _) ?_
  refine zj_sld d_La_law_325 (by omega) (by omega) ?_
  refine zj_aload_n d_La_law_326 rfl rfl ?_
  refine zj_iload d_La_law_327 rfl ?_
  refine zj_iconst (v := (nI 3)) d_La_law_329 (by decide) ?_
  refine zj_iadd (v := (nI (i + 3))) d_La_law_330 (nI_add _ _) ?_
  refine zj_sld d_La_law_331 (by omega) (by omega) ?_
  refine zj_cv sv_La_103 d_La_law_332 (sc_st _ _ _) (zj_of (t_Mo_ballot l D c ad N1 hm1 hO.1)) rfl rfl (by decide) (by show cs + 1 + (0 + 0) ≤ 647849 + 0; omega) (by show sl + 6 + (0 + 0) ≤ 7152524 + 0; omega) (Nat.le_of_ble_eq_true rfl) rfl hm1o.1 rfl rfl (fun v2 N2 hq2 => ?_) (fun _ _ h => h)
  obtain ⟨hs, ⟨se1, op1, li, dw1, sg1, sz1, rk1, tm1, hth⟩, hin2, hv⟩ := lw_end (fnl_Rc _ 1) hmid hq2 (fun _ _ h => h) (fun _ _ h => h)
  obtain ⟨y, rfl⟩ := hs.1 rfl
  show bj_Z (sc_I b N0 xs) (bw_G l D c) Y_La_law 12 KL ad QL (cs + 1) (sl + 6) 335 [some (.ref b), some (.ref (ad 0)), some (.ref (ad 80)), some (.ref (ad 93)), some (.int (nI i)), some (.int (nI k)), none] [.int y] N2
  refine zj_istore (L' := [some (.ref b), some (.ref (ad 0)), some (.ref (ad 80)), some (.ref (ad 93)), some (.int (nI i)), some (.int (nI k)), some (.int y)]) d_La_law_335 (by decide) rfl ?_
  refine zj_aload_n d_La_law_337 rfl rfl ?_
  refine zj_cv sv_La_89 d_La_law_338 (sc_st _ _ _) (zj_of (t_Mo_thrown l D c ad N2 hth hN)) rfl rfl (by decide) (by show cs + 1 + 0 + (0 + 0) ≤ 647849 + 0; omega) (by show sl + 6 + 0 + (0 + 0) ≤ 7152524 + 0; omega) (Nat.le_of_ble_eq_true rfl) rfl hth.1 rfl rfl (fun v3 N3 hq3 => ?_) (fun _ _ h => h)
  obtain ⟨rfl, rfl⟩ := hq3
  show bj_Z (sc_I b N0 xs) (bw_G l D c) Y_La_law 12 KL ad QL (cs + 1) (sl + 6) 341 [some (.ref b), some (.ref (ad 0)), some (.ref (ad 80)), some (.ref (ad 93)), some (.int (nI i)), some (.int (nI k)), some (.int y)] [.int (nI k)] N3
  refine zj_iload d_La_law_341 rfl ?_
  refine zj_icmp_eqN (tgt := 348) d_La_law_343 (by decide) (by omega) (by omega) (fun _ => ?_) (fun h => absurd rfl h)
  refine zj_iload d_La_law_348 rfl ?_
  refine zj_if_neN (tgt := 365) d_La_law_350 (by decide) (by omega) (fun hk0 => ?_) (fun hk0 => ?_)
  · skip
    refine zj_goto (tgt := 1284) d_La_law_365 (by decide) ?_
    refine zj_fg (L' := [some (.ref b), some (.ref (ad 0)), some (.ref (ad 80)), some (.ref (ad 93)), some (.int (nI i)), none, none]) rfl fg2 ?_
    exact hK _ _ _ hin2 (Nat.le_refl _) (Nat.le_refl _)
  · obtain ⟨x, f2, hR0, hx, h932, hf2⟩ := hv hk0
    cases hx
    refine zj_aload_n d_La_law_353 rfl rfl ?_
    refine zj_iconst (v := (nI 0)) d_La_law_354 (by decide) ?_
    refine zj_lald d_La_law_355 2 rfl h932 rfl (by decide) (by decide) ?_
    rw [hf2]
    refine zj_iload d_La_law_356 rfl ?_
    refine zj_i2l (v := y.toInt64) d_La_law_358 rfl ?_
    refine zj_lcmp d_La_law_359 ?_
    refine zj_if_eq (tgt := 365) d_La_law_360 (by decide) (fun _ => ?_) (fun h => absurd (lgc _) h)
    refine zj_goto (tgt := 1284) d_La_law_365 (by decide) ?_
    refine zj_fg (L' := [some (.ref b), some (.ref (ad 0)), some (.ref (ad 80)), some (.ref (ad 93)), some (.int (nI i)), none, none]) rfl fg2 ?_
    exact hK _ _ _ hin2 (Nat.le_refl _) (Nat.le_refl _)
set_option maxRecDepth 100000 in
set_option maxHeartbeats 4000000 in
/-- turn -/
theorem lc_turn (htr : l.stackTraces = false) {b N0 i cs sl : Nat} {xs : Nat → Int32} (hi : i + 6 ≤ N0) (hN0 : N0 ≤ 3073) (hcs : cs ≤ 5000) (hsl : sl ≤ 50000) (hin : lw_in c ad M) (hK : ∀ M' cs' sl', lw_in c ad M' → cs' ≤ cs + 1 → sl' ≤ sl + 6 → bj_Z (sc_I b N0 xs) (bw_G l D c) Y_La_law 12 KL ad QL cs' sl' 1284 [some (.ref b), some (.ref (ad 0)), some (.ref (ad 80)), some (.ref (ad 93)), some (.int (nI i)), none, none] [] M') : bj_Z (sc_I b N0 xs) (bw_G l D c) Y_La_law 12 KL ad QL cs sl 368 [some (.ref b), some (.ref (ad 0)), some (.ref (ad 80)), some (.ref (ad 93)), some (.int (nI i)), none, none] [] M := by
  obtain ⟨N, op, se, dw, sg, sz, rk, tm, cd, f, hO, hm, h93⟩ := hin
  have hN : N ≤ 8 := hO.1.2.1
  have hps : ∀ but a b, psum sg sz rk tm but a b < 2 ^ 31 := fun but a b => Nat.lt_of_le_of_lt (psum_le (fun j hj => ⟨(hO.1.2.2.2.2.1 j hj).2.1, (hO.1.2.2.2.2.1 j hj).2.2⟩)) (by decide)
  refine zj_aload_n d_La_law_368 rfl rfl ?_
  refine zj_aload_n d_La_law_369 rfl rfl ?_
  refine zj_iload d_La_law_370 rfl ?_
  refine zj_iconst (v := (nI 1)) d_La_law_372 (by decide) ?_
  refine zj_iadd (v := (nI (i + 1))) d_La_law_373 (nI_add _ _) ?_
  refine zj_sld d_La_law_374 (by omega) (by omega) ?_
  refine zj_aload_n d_La_law_375 rfl rfl ?_
  refine zj_iload d_La_law_376 rfl ?_
  refine zj_iconst (v := (nI 2)) d_La_law_378 (by decide) ?_
  refine zj_iadd (v := (nI (i + 2))) d_La_law_379 (nI_add _ _) ?_
  refine zj_sld d_La_law_380 (by omega) (by omega) ?_
  refine zj_cs ss_La_104 d_La_law_381 (sc_st _ _ _) (zj_of (t_La_turn l D c ad M (t_Of_turn l D c ad M htr hO) hO.2.1.1 (fun n h => Nat.le_of_lt_succ (le_Rc _ 1 (by decide) _ _ h)) (fun v h => none_Rc _ _ _ _ h))) rfl rfl (by decide) (by show cs + (1 + 0) ≤ 647849 + 0; omega) (by show sl + (6 + 0) ≤ 7152524 + 0; omega) (Nat.le_of_ble_eq_true rfl) rfl (fun v1 N1 hq1 => ?_) (fun _ _ h => h)
  obtain ⟨k, hk4, rfl, hfr, hmid⟩ := lw_midv h93 hq1 (fun _ h => h) (fun _ h => h)
  have hm1 := hm.kp (M' := N1) (fun q q1 q2 => hfr q (by omega) (by omega))
  obtain ⟨li0, hm1o⟩ := hm1.1
  show bj_Z (sc_I b N0 xs) (bw_G l D c) Y_La_law 12 KL ad QL (cs + 1) (sl + 6) 384 [some (.ref b), some (.ref (ad 0)), some (.ref (ad 80)), some (.ref (ad 93)), some (.int (nI i)), none, none] [.int (nI k)] N1
  refine zj_istore (L' := [some (.ref b), some (.ref (ad 0)), some (.ref (ad 80)), some (.ref (ad 93)), some (.int (nI i)), some (.int (nI k)), none]) d_La_law_384 (by decide) rfl ?_
  refine zj_aload_n d_La_law_386 rfl rfl ?_
  refine zj_aload_n d_La_law_387 rfl rfl ?_
  refine zj_iload d_La_law_388 rfl ?_
  refine zj_iconst (v := (nI 1)) d_La_law_390 (by decide) ?_
  refine zj_iadd (v := (nI (i + 1))) d_La_law_391 (nI_add _ _) ?_
  refine zj_sld d_La_law_392 (by omega) (by omega) ?_
  refine zj_aload_n d_La_law_393 rfl rfl ?_
  refine zj_iload d_La_law_394 rfl ?_
  refine zj_iconst (v := (nI 2)) d_La_law_396 (by decide) ?_
  refine zj_iadd (v := (nI (i + 2))) d_La_law_397 (nI_add _ _) ?_
  refine zj_sld d_La_law_398 (by omega) (by omega) ?_
  refine zj_cv sv_La_106 d_La_law_399 (sc_st _ _ _) (zj_of (t_Mo_turn l D c ad N1 hm1 hO.1)) rfl rfl (by decide) (by show cs + 1 + (0 + 0) ≤ 647849 + 0; omega) (by show sl + 6 + (0 + 0) ≤ 7152524 + 0; omega) (Nat.le_of_ble_eq_true rfl) rfl hm1o.1 rfl rfl (fun v2 N2 hq2 => ?_) (fun _ _ h => h)
  obtain ⟨hs, ⟨se1, op1, li, dw1, sg1, sz1, rk1, tm1, hth⟩, hin2⟩ := lw_endv (fnl_Rc _ 1) hmid hq2 (fun _ _ h => h) (fun _ _ h => h)
  obtain rfl := hs.2 rfl
  show bj_Z (sc_I b N0 xs) (bw_G l D c) Y_La_law 12 KL ad QL (cs + 1) (sl + 6) 402 [some (.ref b), some (.ref (ad 0)), some (.ref (ad 80)), some (.ref (ad 93)), some (.int (nI i)), some (.int (nI k)), none] [] N2
  refine zj_aload_n d_La_law_402 rfl rfl ?_
  refine zj_cv sv_La_89 d_La_law_403 (sc_st _ _ _) (zj_of (t_Mo_thrown l D c ad N2 hth hN)) rfl rfl (by decide) (by show cs + 1 + 0 + (0 + 0) ≤ 647849 + 0; omega) (by show sl + 6 + 0 + (0 + 0) ≤ 7152524 + 0; omega) (Nat.le_of_ble_eq_true rfl) rfl hth.1 rfl rfl (fun v3 N3 hq3 => ?_) (fun _ _ h => h)
  obtain ⟨rfl, rfl⟩ := hq3
  show bj_Z (sc_I b N0 xs) (bw_G l D c) Y_La_law 12 KL ad QL (cs + 1) (sl + 6) 406 [some (.ref b), some (.ref (ad 0)), some (.ref (ad 80)), some (.ref (ad 93)), some (.int (nI i)), some (.int (nI k)), none] [.int (nI k)] N3
  refine zj_iload d_La_law_406 rfl ?_
  refine zj_icmp_eqN (tgt := 413) d_La_law_408 (by decide) (by omega) (by omega) (fun _ => ?_) (fun h => absurd rfl h)
  refine zj_goto (tgt := 1284) d_La_law_413 (by decide) ?_
  refine zj_fg (L' := [some (.ref b), some (.ref (ad 0)), some (.ref (ad 80)), some (.ref (ad 93)), some (.int (nI i)), none, none]) rfl fg2 ?_
  exact hK _ _ _ hin2 (Nat.le_refl _) (Nat.le_refl _)
set_option maxRecDepth 100000 in
set_option maxHeartbeats 4000000 in
/-- correct -/
theorem lc_correct (htr : l.stackTraces = false) {b N0 i cs sl : Nat} {xs : Nat → Int32} (hi : i + 6 ≤ N0) (hN0 : N0 ≤ 3073) (hcs : cs ≤ 5000) (hsl : sl ≤ 50000) (hin : lw_in c ad M) (hK : ∀ M' cs' sl', lw_in c ad M' → cs' ≤ cs + 1 → sl' ≤ sl + 6 → bj_Z (sc_I b N0 xs) (bw_G l D c) Y_La_law 12 KL ad QL cs' sl' 1284 [some (.ref b), some (.ref (ad 0)), some (.ref (ad 80)), some (.ref (ad 93)), some (.int (nI i)), none, none] [] M') : bj_Z (sc_I b N0 xs) (bw_G l D c) Y_La_law 12 KL ad QL cs sl 416 [some (.ref b), some (.ref (ad 0)), some (.ref (ad 80)), some (.ref (ad 93)), some (.int (nI i)), none, none] [] M := by
  obtain ⟨N, op, se, dw, sg, sz, rk, tm, cd, f, hO, hm, h93⟩ := hin
  have hN : N ≤ 8 := hO.1.2.1
  have hps : ∀ but a b, psum sg sz rk tm but a b < 2 ^ 31 := fun but a b => Nat.lt_of_le_of_lt (psum_le (fun j hj => ⟨(hO.1.2.2.2.2.1 j hj).2.1, (hO.1.2.2.2.2.1 j hj).2.2⟩)) (by decide)
  refine zj_aload_n d_La_law_416 rfl rfl ?_
  refine zj_aload_n d_La_law_417 rfl rfl ?_
  refine zj_iload d_La_law_418 rfl ?_
  refine zj_iconst (v := (nI 1)) d_La_law_420 (by decide) ?_
  refine zj_iadd (v := (nI (i + 1))) d_La_law_421 (nI_add _ _) ?_
  refine zj_sld d_La_law_422 (by omega) (by omega) ?_
  refine zj_aload_n d_La_law_423 rfl rfl ?_
  refine zj_iload d_La_law_424 rfl ?_
  refine zj_iconst (v := (nI 2)) d_La_law_426 (by decide) ?_
  refine zj_iadd (v := (nI (i + 2))) d_La_law_427 (nI_add _ _) ?_
  refine zj_sld d_La_law_428 (by omega) (by omega) ?_
  refine zj_aload_n d_La_law_429 rfl rfl ?_
  refine zj_iload d_La_law_430 rfl ?_
  refine zj_iconst (v := (nI 3)) d_La_law_432 (by decide) ?_
  refine zj_iadd (v := (nI (i + 3))) d_La_law_433 (nI_add _ _) ?_
  refine zj_sld d_La_law_434 (by omega) (by omega) ?_
  refine zj_aload_n d_La_law_435 rfl rfl ?_
  refine zj_cs ss_La_107 d_La_law_436 (sc_st _ _ _) (zj_of (t_La_correct l D c ad M (t_Of_correct l D c ad M htr hO) hO.2.1.1 (fun n h => Nat.le_of_lt_succ (le_Rc _ 1 (by decide) _ _ h)) (int_Rc _ 1 (by decide)) (fun M1 h => (h.2 93 (by omega)).trans h93))) rfl rfl (by decide) (by show cs + (1 + 0) ≤ 647849 + 0; omega) (by show sl + (6 + 0) ≤ 7152524 + 0; omega) (Nat.le_of_ble_eq_true rfl) rfl (fun v1 N1 hq1 => ?_) (fun _ _ h => h)
  obtain ⟨k, hk4, rfl, hfr, hmid⟩ := lw_mid h93 hq1 (fun _ h => h) (fun _ h => h)
  have hm1 := hm.kp (M' := N1) (fun q q1 q2 => hfr q (by omega) (by omega))
  obtain ⟨li0, hm1o⟩ := hm1.1
  show bj_Z (sc_I b N0 xs) (bw_G l D c) Y_La_law 12 KL ad QL (cs + 1) (sl + 6) 439 [some (.ref b), some (.ref (ad 0)), some (.ref (ad 80)), some (.ref (ad 93)), some (.int (nI i)), none, none] [.int (nI k)] N1
  refine zj_istore (L' := [some (.ref b), some (.ref (ad 0)), some (.ref (ad 80)), some (.ref (ad 93)), some (.int (nI i)), some (.int (nI k)), none]) d_La_law_439 (by decide) rfl ?_
  refine zj_aload_n d_La_law_441 rfl rfl ?_
  refine zj_aload_n d_La_law_442 rfl rfl ?_
  refine zj_iload d_La_law_443 rfl ?_
  refine zj_iconst (v := (nI 1)) d_La_law_445 (by decide) ?_
  refine zj_iadd (v := (nI (i + 1))) d_La_law_446 (nI_add _ _) ?_
  refine zj_sld d_La_law_447 (by omega) (by omega) ?_
  refine zj_aload_n d_La_law_448 rfl rfl ?_
  refine zj_iload d_La_law_449 rfl ?_
  refine zj_iconst (v := (nI 2)) d_La_law_451 (by decide) ?_
  refine zj_iadd (v := (nI (i + 2))) d_La_law_452 (nI_add _ _) ?_
  refine zj_sld d_La_law_453 (by omega) (by omega) ?_
  refine zj_aload_n d_La_law_454 rfl rfl ?_
  refine zj_iload d_La_law_455 rfl ?_
  refine zj_iconst (v := (nI 3)) d_La_law_457 (by decide) ?_
  refine zj_iadd (v := (nI (i + 3))) d_La_law_458 (nI_add _ _) ?_
  refine zj_sld d_La_law_459 (by omega) (by omega) ?_
  refine zj_cv sv_La_109 d_La_law_460 (sc_st _ _ _) (zj_of (t_Mo_correct l D c ad N1 hm1 hO.1)) rfl rfl (by decide) (by show cs + 1 + (0 + 0) ≤ 647849 + 0; omega) (by show sl + 6 + (0 + 0) ≤ 7152524 + 0; omega) (Nat.le_of_ble_eq_true rfl) rfl hm1o.1 rfl rfl (fun v2 N2 hq2 => ?_) (fun _ _ h => h)
  obtain ⟨hs, ⟨se1, op1, li, dw1, sg1, sz1, rk1, tm1, hth⟩, hin2, hv⟩ := lw_end (fnl_Rc _ 1) hmid hq2 (fun _ _ h => h) (fun _ _ h => h)
  obtain ⟨y, rfl⟩ := hs.1 rfl
  show bj_Z (sc_I b N0 xs) (bw_G l D c) Y_La_law 12 KL ad QL (cs + 1) (sl + 6) 463 [some (.ref b), some (.ref (ad 0)), some (.ref (ad 80)), some (.ref (ad 93)), some (.int (nI i)), some (.int (nI k)), none] [.int y] N2
  refine zj_istore (L' := [some (.ref b), some (.ref (ad 0)), some (.ref (ad 80)), some (.ref (ad 93)), some (.int (nI i)), some (.int (nI k)), some (.int y)]) d_La_law_463 (by decide) rfl ?_
  refine zj_aload_n d_La_law_465 rfl rfl ?_
  refine zj_cv sv_La_89 d_La_law_466 (sc_st _ _ _) (zj_of (t_Mo_thrown l D c ad N2 hth hN)) rfl rfl (by decide) (by show cs + 1 + 0 + (0 + 0) ≤ 647849 + 0; omega) (by show sl + 6 + 0 + (0 + 0) ≤ 7152524 + 0; omega) (Nat.le_of_ble_eq_true rfl) rfl hth.1 rfl rfl (fun v3 N3 hq3 => ?_) (fun _ _ h => h)
  obtain ⟨rfl, rfl⟩ := hq3
  show bj_Z (sc_I b N0 xs) (bw_G l D c) Y_La_law 12 KL ad QL (cs + 1) (sl + 6) 469 [some (.ref b), some (.ref (ad 0)), some (.ref (ad 80)), some (.ref (ad 93)), some (.int (nI i)), some (.int (nI k)), some (.int y)] [.int (nI k)] N3
  refine zj_iload d_La_law_469 rfl ?_
  refine zj_icmp_eqN (tgt := 476) d_La_law_471 (by decide) (by omega) (by omega) (fun _ => ?_) (fun h => absurd rfl h)
  refine zj_iload d_La_law_476 rfl ?_
  refine zj_if_neN (tgt := 493) d_La_law_478 (by decide) (by omega) (fun hk0 => ?_) (fun hk0 => ?_)
  · skip
    refine zj_goto (tgt := 1284) d_La_law_493 (by decide) ?_
    refine zj_fg (L' := [some (.ref b), some (.ref (ad 0)), some (.ref (ad 80)), some (.ref (ad 93)), some (.int (nI i)), none, none]) rfl fg2 ?_
    exact hK _ _ _ hin2 (Nat.le_refl _) (Nat.le_refl _)
  · obtain ⟨x, f2, hR0, hx, h932, hf2⟩ := hv hk0
    cases hx
    refine zj_aload_n d_La_law_481 rfl rfl ?_
    refine zj_iconst (v := (nI 0)) d_La_law_482 (by decide) ?_
    refine zj_lald d_La_law_483 2 rfl h932 rfl (by decide) (by decide) ?_
    rw [hf2]
    refine zj_iload d_La_law_484 rfl ?_
    refine zj_i2l (v := y.toInt64) d_La_law_486 rfl ?_
    refine zj_lcmp d_La_law_487 ?_
    refine zj_if_eq (tgt := 493) d_La_law_488 (by decide) (fun _ => ?_) (fun h => absurd (lgc _) h)
    refine zj_goto (tgt := 1284) d_La_law_493 (by decide) ?_
    refine zj_fg (L' := [some (.ref b), some (.ref (ad 0)), some (.ref (ad 80)), some (.ref (ad 93)), some (.int (nI i)), none, none]) rfl fg2 ?_
    exact hK _ _ _ hin2 (Nat.le_refl _) (Nat.le_refl _)
set_option maxRecDepth 100000 in
set_option maxHeartbeats 4000000 in
/-- state -/
theorem lc_state (htr : l.stackTraces = false) {b N0 i cs sl : Nat} {xs : Nat → Int32} (hi : i + 6 ≤ N0) (hN0 : N0 ≤ 3073) (hcs : cs ≤ 5000) (hsl : sl ≤ 50000) (hin : lw_in c ad M) (hK : ∀ M' cs' sl', lw_in c ad M' → cs' ≤ cs + 1 → sl' ≤ sl + 6 → bj_Z (sc_I b N0 xs) (bw_G l D c) Y_La_law 12 KL ad QL cs' sl' 1284 [some (.ref b), some (.ref (ad 0)), some (.ref (ad 80)), some (.ref (ad 93)), some (.int (nI i)), none, none] [] M') : bj_Z (sc_I b N0 xs) (bw_G l D c) Y_La_law 12 KL ad QL cs sl 496 [some (.ref b), some (.ref (ad 0)), some (.ref (ad 80)), some (.ref (ad 93)), some (.int (nI i)), none, none] [] M := by
  obtain ⟨N, op, se, dw, sg, sz, rk, tm, cd, f, hO, hm, h93⟩ := hin
  have hN : N ≤ 8 := hO.1.2.1
  have hps : ∀ but a b, psum sg sz rk tm but a b < 2 ^ 31 := fun but a b => Nat.lt_of_le_of_lt (psum_le (fun j hj => ⟨(hO.1.2.2.2.2.1 j hj).2.1, (hO.1.2.2.2.2.1 j hj).2.2⟩)) (by decide)
  refine zj_aload_n d_La_law_496 rfl rfl ?_
  refine zj_aload_n d_La_law_497 rfl rfl ?_
  refine zj_iload d_La_law_498 rfl ?_
  refine zj_iconst (v := (nI 1)) d_La_law_500 (by decide) ?_
  refine zj_iadd (v := (nI (i + 1))) d_La_law_501 (nI_add _ _) ?_
  refine zj_sld d_La_law_502 (by omega) (by omega) ?_
  refine zj_aload_n d_La_law_503 rfl rfl ?_
  refine zj_cs ss_La_110 d_La_law_504 (sc_st _ _ _) (zj_of (t_La_state l D c ad M (t_Of_state l D c ad M htr hO) hO.2.1.1 (fun n h => h.1 ▸ le_icC) int_Rv (fun M1 h => (h.2 93 (by omega)).trans h93))) rfl rfl (by decide) (by show cs + (1 + 0) ≤ 647849 + 0; omega) (by show sl + (6 + 0) ≤ 7152524 + 0; omega) (Nat.le_of_ble_eq_true rfl) rfl (fun v1 N1 hq1 => ?_) (fun _ _ h => h)
  obtain ⟨k, hk4, rfl, hfr, hmid⟩ := lw_mid h93 hq1 (fun _ h => h) (fun _ h => h)
  have hm1 := hm.kp (M' := N1) (fun q q1 q2 => hfr q (by omega) (by omega))
  obtain ⟨li0, hm1o⟩ := hm1.1
  show bj_Z (sc_I b N0 xs) (bw_G l D c) Y_La_law 12 KL ad QL (cs + 1) (sl + 6) 507 [some (.ref b), some (.ref (ad 0)), some (.ref (ad 80)), some (.ref (ad 93)), some (.int (nI i)), none, none] [.int (nI k)] N1
  refine zj_istore (L' := [some (.ref b), some (.ref (ad 0)), some (.ref (ad 80)), some (.ref (ad 93)), some (.int (nI i)), some (.int (nI k)), none]) d_La_law_507 (by decide) rfl ?_
  refine zj_aload_n d_La_law_509 rfl rfl ?_
  refine zj_aload_n d_La_law_510 rfl rfl ?_
  refine zj_iload d_La_law_511 rfl ?_
  refine zj_iconst (v := (nI 1)) d_La_law_513 (by decide) ?_
  refine zj_iadd (v := (nI (i + 1))) d_La_law_514 (nI_add _ _) ?_
  refine zj_sld d_La_law_515 (by omega) (by omega) ?_
  refine zj_cv sv_La_112 d_La_law_516 (sc_st _ _ _) (zj_of (t_Mo_state l D c ad N1 hm1 hO.1)) rfl rfl (by decide) (by show cs + 1 + (0 + 0) ≤ 647849 + 0; omega) (by show sl + 6 + (0 + 0) ≤ 7152524 + 0; omega) (Nat.le_of_ble_eq_true rfl) rfl hm1o.1 rfl rfl (fun v2 N2 hq2 => ?_) (fun _ _ h => h)
  obtain ⟨hs, ⟨se1, op1, li, dw1, sg1, sz1, rk1, tm1, hth⟩, hin2, hv⟩ := lw_end fnl_Rv hmid hq2 (fun _ _ h => h) (fun _ _ h => h)
  obtain ⟨y, rfl⟩ := hs.1 rfl
  show bj_Z (sc_I b N0 xs) (bw_G l D c) Y_La_law 12 KL ad QL (cs + 1) (sl + 6) 519 [some (.ref b), some (.ref (ad 0)), some (.ref (ad 80)), some (.ref (ad 93)), some (.int (nI i)), some (.int (nI k)), none] [.int y] N2
  refine zj_istore (L' := [some (.ref b), some (.ref (ad 0)), some (.ref (ad 80)), some (.ref (ad 93)), some (.int (nI i)), some (.int (nI k)), some (.int y)]) d_La_law_519 (by decide) rfl ?_
  refine zj_aload_n d_La_law_521 rfl rfl ?_
  refine zj_cv sv_La_89 d_La_law_522 (sc_st _ _ _) (zj_of (t_Mo_thrown l D c ad N2 hth hN)) rfl rfl (by decide) (by show cs + 1 + 0 + (0 + 0) ≤ 647849 + 0; omega) (by show sl + 6 + 0 + (0 + 0) ≤ 7152524 + 0; omega) (Nat.le_of_ble_eq_true rfl) rfl hth.1 rfl rfl (fun v3 N3 hq3 => ?_) (fun _ _ h => h)
  obtain ⟨rfl, rfl⟩ := hq3
  show bj_Z (sc_I b N0 xs) (bw_G l D c) Y_La_law 12 KL ad QL (cs + 1) (sl + 6) 525 [some (.ref b), some (.ref (ad 0)), some (.ref (ad 80)), some (.ref (ad 93)), some (.int (nI i)), some (.int (nI k)), some (.int y)] [.int (nI k)] N3
  refine zj_iload d_La_law_525 rfl ?_
  refine zj_icmp_eqN (tgt := 532) d_La_law_527 (by decide) (by omega) (by omega) (fun _ => ?_) (fun h => absurd rfl h)
  refine zj_iload d_La_law_532 rfl ?_
  refine zj_if_neN (tgt := 549) d_La_law_534 (by decide) (by omega) (fun hk0 => ?_) (fun hk0 => ?_)
  · skip
    refine zj_goto (tgt := 1284) d_La_law_549 (by decide) ?_
    refine zj_fg (L' := [some (.ref b), some (.ref (ad 0)), some (.ref (ad 80)), some (.ref (ad 93)), some (.int (nI i)), none, none]) rfl fg2 ?_
    exact hK _ _ _ hin2 (Nat.le_refl _) (Nat.le_refl _)
  · obtain ⟨x, f2, hR0, hx, h932, hf2⟩ := hv hk0
    cases hx
    refine zj_aload_n d_La_law_537 rfl rfl ?_
    refine zj_iconst (v := (nI 0)) d_La_law_538 (by decide) ?_
    refine zj_lald d_La_law_539 2 rfl h932 rfl (by decide) (by decide) ?_
    rw [hf2]
    refine zj_iload d_La_law_540 rfl ?_
    refine zj_i2l (v := y.toInt64) d_La_law_542 rfl ?_
    refine zj_lcmp d_La_law_543 ?_
    refine zj_if_eq (tgt := 549) d_La_law_544 (by decide) (fun _ => ?_) (fun h => absurd (lgc _) h)
    refine zj_goto (tgt := 1284) d_La_law_549 (by decide) ?_
    refine zj_fg (L' := [some (.ref b), some (.ref (ad 0)), some (.ref (ad 80)), some (.ref (ad 93)), some (.int (nI i)), none, none]) rfl fg2 ?_
    exact hK _ _ _ hin2 (Nat.le_refl _) (Nat.le_refl _)
set_option maxRecDepth 100000 in
set_option maxHeartbeats 4000000 in
/-- voters -/
theorem lc_voters (htr : l.stackTraces = false) {b N0 i cs sl : Nat} {xs : Nat → Int32} (hi : i + 6 ≤ N0) (hN0 : N0 ≤ 3073) (hcs : cs ≤ 5000) (hsl : sl ≤ 50000) (hin : lw_in c ad M) (hK : ∀ M' cs' sl', lw_in c ad M' → cs' ≤ cs + 1 → sl' ≤ sl + 6 → bj_Z (sc_I b N0 xs) (bw_G l D c) Y_La_law 12 KL ad QL cs' sl' 1284 [some (.ref b), some (.ref (ad 0)), some (.ref (ad 80)), some (.ref (ad 93)), some (.int (nI i)), none, none] [] M') : bj_Z (sc_I b N0 xs) (bw_G l D c) Y_La_law 12 KL ad QL cs sl 552 [some (.ref b), some (.ref (ad 0)), some (.ref (ad 80)), some (.ref (ad 93)), some (.int (nI i)), none, none] [] M := by
  obtain ⟨N, op, se, dw, sg, sz, rk, tm, cd, f, hO, hm, h93⟩ := hin
  have hN : N ≤ 8 := hO.1.2.1
  refine zj_aload_n d_La_law_552 rfl rfl ?_
  refine zj_cv sv_La_113 d_La_law_553 (sc_st _ _ _) (zj_of (t_Of_voters l D c ad M htr hO)) rfl rfl (by decide) (by show cs + (0 + 1) ≤ 647849 + 0; omega) (by show sl + (0 + 6) ≤ 7152524 + 0; omega) (Nat.le_of_ble_eq_true rfl) rfl hO.2.1.1 rfl rfl (fun v1 N1 hq1 => ?_) (fun _ _ h => by obtain ⟨n, hn, -, hR, -⟩ := h; exact hn hR.1)
  obtain ⟨⟨-, rfl⟩, hO1, hfr⟩ := hq1
  have hm1 := hm.kp (M' := N1) (fun q q1 q2 => hfr q (by omega))
  obtain ⟨li0, hm1o⟩ := hm1.1
  show bj_Z (sc_I b N0 xs) (bw_G l D c) Y_La_law 12 KL ad QL cs sl 556 [some (.ref b), some (.ref (ad 0)), some (.ref (ad 80)), some (.ref (ad 93)), some (.int (nI i)), none, none] [.int (nI (vsum sg sz tm))] N1
  refine zj_aload_n d_La_law_556 rfl rfl ?_
  refine zj_cv sv_La_116 d_La_law_557 (sc_st _ _ _) (zj_of (t_Mo_voters l D c ad N1 hm1 hO.1)) rfl rfl (by decide) (by show cs + (0 + 0) ≤ 647849 + 0; omega) (by show sl + (0 + 0) ≤ 7152524 + 0; omega) (Nat.le_of_ble_eq_true rfl) rfl hm1o.1 rfl rfl (fun v2 N2 hq2 => ?_) (fun _ _ h => h)
  obtain ⟨k, hR, hS, -, hs⟩ := hq2
  obtain ⟨rfl, hr⟩ := hR
  rw [if_pos rfl] at hS hr
  rw [if_pos rfl] at hr
  subst hr
  obtain ⟨hin2, -, -⟩ := lw_mo (cd := 0) hO1 ((hfr 93 (by omega)).trans h93) hS
  show bj_Z (sc_I b N0 xs) (bw_G l D c) Y_La_law 12 KL ad QL cs sl 560 [some (.ref b), some (.ref (ad 0)), some (.ref (ad 80)), some (.ref (ad 93)), some (.int (nI i)), none, none] [.int (nI (vsum sg sz tm)), .int (nI (vsum sg sz tm))] N2
  refine zj_icmp_eq (tgt := 1284) d_La_law_560 (by decide) (fun _ => ?_) (fun h => absurd rfl h)
  exact hK _ _ _ hin2 (by omega) (by omega)
set_option maxRecDepth 100000 in
set_option maxHeartbeats 4000000 in
/-- prefer -/
theorem lc_prefer (htr : l.stackTraces = false) {b N0 i cs sl : Nat} {xs : Nat → Int32} (hi : i + 6 ≤ N0) (hN0 : N0 ≤ 3073) (hcs : cs ≤ 5000) (hsl : sl ≤ 50000) (hin : lw_in c ad M) (hK : ∀ M' cs' sl', lw_in c ad M' → cs' ≤ cs + 1 → sl' ≤ sl + 6 → bj_Z (sc_I b N0 xs) (bw_G l D c) Y_La_law 12 KL ad QL cs' sl' 1284 [some (.ref b), some (.ref (ad 0)), some (.ref (ad 80)), some (.ref (ad 93)), some (.int (nI i)), none, none] [] M') : bj_Z (sc_I b N0 xs) (bw_G l D c) Y_La_law 12 KL ad QL cs sl 565 [some (.ref b), some (.ref (ad 0)), some (.ref (ad 80)), some (.ref (ad 93)), some (.int (nI i)), none, none] [] M := by
  obtain ⟨N, op, se, dw, sg, sz, rk, tm, cd, f, hO, hm, h93⟩ := hin
  have hN : N ≤ 8 := hO.1.2.1
  have hps : ∀ but a b, psum sg sz rk tm but a b < 2 ^ 31 := fun but a b => Nat.lt_of_le_of_lt (psum_le (fun j hj => ⟨(hO.1.2.2.2.2.1 j hj).2.1, (hO.1.2.2.2.2.1 j hj).2.2⟩)) (by decide)
  refine zj_aload_n d_La_law_565 rfl rfl ?_
  refine zj_aload_n d_La_law_566 rfl rfl ?_
  refine zj_iload d_La_law_567 rfl ?_
  refine zj_iconst (v := (nI 1)) d_La_law_569 (by decide) ?_
  refine zj_iadd (v := (nI (i + 1))) d_La_law_570 (nI_add _ _) ?_
  refine zj_sld d_La_law_571 (by omega) (by omega) ?_
  refine zj_aload_n d_La_law_572 rfl rfl ?_
  refine zj_iload d_La_law_573 rfl ?_
  refine zj_iconst (v := (nI 2)) d_La_law_575 (by decide) ?_
  refine zj_iadd (v := (nI (i + 2))) d_La_law_576 (nI_add _ _) ?_
  refine zj_sld d_La_law_577 (by omega) (by omega) ?_
  refine zj_aload_n d_La_law_578 rfl rfl ?_
  refine zj_cs ss_La_117 d_La_law_579 (sc_st _ _ _) (zj_of (t_La_prefer l D c ad M (t_Of_prefer l D c ad M htr hO) hO.2.1.1 (fun n h => h.1 ▸ le_prC) int_Rv (fun M1 h => (h.2 93 (by omega)).trans h93))) rfl rfl (by decide) (by show cs + (1 + 0) ≤ 647849 + 0; omega) (by show sl + (6 + 0) ≤ 7152524 + 0; omega) (Nat.le_of_ble_eq_true rfl) rfl (fun v1 N1 hq1 => ?_) (fun _ _ h => h)
  obtain ⟨k, hk4, rfl, hfr, hmid⟩ := lw_mid h93 hq1 (fun _ h => h) (fun _ h => h)
  have hm1 := hm.kp (M' := N1) (fun q q1 q2 => hfr q (by omega) (by omega))
  obtain ⟨li0, hm1o⟩ := hm1.1
  show bj_Z (sc_I b N0 xs) (bw_G l D c) Y_La_law 12 KL ad QL (cs + 1) (sl + 6) 582 [some (.ref b), some (.ref (ad 0)), some (.ref (ad 80)), some (.ref (ad 93)), some (.int (nI i)), none, none] [.int (nI k)] N1
  refine zj_istore (L' := [some (.ref b), some (.ref (ad 0)), some (.ref (ad 80)), some (.ref (ad 93)), some (.int (nI i)), some (.int (nI k)), none]) d_La_law_582 (by decide) rfl ?_
  refine zj_aload_n d_La_law_584 rfl rfl ?_
  refine zj_aload_n d_La_law_585 rfl rfl ?_
  refine zj_iload d_La_law_586 rfl ?_
  refine zj_iconst (v := (nI 1)) d_La_law_588 (by decide) ?_
  refine zj_iadd (v := (nI (i + 1))) d_La_law_589 (nI_add _ _) ?_
  refine zj_sld d_La_law_590 (by omega) (by omega) ?_
  refine zj_aload_n d_La_law_591 rfl rfl ?_
  refine zj_iload d_La_law_592 rfl ?_
  refine zj_iconst (v := (nI 2)) d_La_law_594 (by decide) ?_
  refine zj_iadd (v := (nI (i + 2))) d_La_law_595 (nI_add _ _) ?_
  refine zj_sld d_La_law_596 (by omega) (by omega) ?_
  refine zj_cv sv_La_120 d_La_law_597 (sc_st _ _ _) (zj_of (t_Mo_prefer l D c ad N1 hm1 hO.1)) rfl rfl (by decide) (by show cs + 1 + (0 + 0) ≤ 647849 + 0; omega) (by show sl + 6 + (0 + 0) ≤ 7152524 + 0; omega) (Nat.le_of_ble_eq_true rfl) rfl hm1o.1 rfl rfl (fun v2 N2 hq2 => ?_) (fun _ _ h => h)
  obtain ⟨hs, ⟨se1, op1, li, dw1, sg1, sz1, rk1, tm1, hth⟩, hin2, hv⟩ := lw_end fnl_Rv hmid hq2 (fun _ _ h => h) (fun _ _ h => h)
  obtain ⟨y, rfl⟩ := hs.1 rfl
  show bj_Z (sc_I b N0 xs) (bw_G l D c) Y_La_law 12 KL ad QL (cs + 1) (sl + 6) 600 [some (.ref b), some (.ref (ad 0)), some (.ref (ad 80)), some (.ref (ad 93)), some (.int (nI i)), some (.int (nI k)), none] [.int y] N2
  refine zj_istore (L' := [some (.ref b), some (.ref (ad 0)), some (.ref (ad 80)), some (.ref (ad 93)), some (.int (nI i)), some (.int (nI k)), some (.int y)]) d_La_law_600 (by decide) rfl ?_
  refine zj_aload_n d_La_law_602 rfl rfl ?_
  refine zj_cv sv_La_89 d_La_law_603 (sc_st _ _ _) (zj_of (t_Mo_thrown l D c ad N2 hth hN)) rfl rfl (by decide) (by show cs + 1 + 0 + (0 + 0) ≤ 647849 + 0; omega) (by show sl + 6 + 0 + (0 + 0) ≤ 7152524 + 0; omega) (Nat.le_of_ble_eq_true rfl) rfl hth.1 rfl rfl (fun v3 N3 hq3 => ?_) (fun _ _ h => h)
  obtain ⟨rfl, rfl⟩ := hq3
  show bj_Z (sc_I b N0 xs) (bw_G l D c) Y_La_law 12 KL ad QL (cs + 1) (sl + 6) 606 [some (.ref b), some (.ref (ad 0)), some (.ref (ad 80)), some (.ref (ad 93)), some (.int (nI i)), some (.int (nI k)), some (.int y)] [.int (nI k)] N3
  refine zj_iload d_La_law_606 rfl ?_
  refine zj_icmp_eqN (tgt := 613) d_La_law_608 (by decide) (by omega) (by omega) (fun _ => ?_) (fun h => absurd rfl h)
  refine zj_iload d_La_law_613 rfl ?_
  refine zj_if_neN (tgt := 630) d_La_law_615 (by decide) (by omega) (fun hk0 => ?_) (fun hk0 => ?_)
  · skip
    refine zj_goto (tgt := 1284) d_La_law_630 (by decide) ?_
    refine zj_fg (L' := [some (.ref b), some (.ref (ad 0)), some (.ref (ad 80)), some (.ref (ad 93)), some (.int (nI i)), none, none]) rfl fg2 ?_
    exact hK _ _ _ hin2 (Nat.le_refl _) (Nat.le_refl _)
  · obtain ⟨x, f2, hR0, hx, h932, hf2⟩ := hv hk0
    cases hx
    refine zj_aload_n d_La_law_618 rfl rfl ?_
    refine zj_iconst (v := (nI 0)) d_La_law_619 (by decide) ?_
    refine zj_lald d_La_law_620 2 rfl h932 rfl (by decide) (by decide) ?_
    rw [hf2]
    refine zj_iload d_La_law_621 rfl ?_
    refine zj_i2l (v := y.toInt64) d_La_law_623 rfl ?_
    refine zj_lcmp d_La_law_624 ?_
    refine zj_if_eq (tgt := 630) d_La_law_625 (by decide) (fun _ => ?_) (fun h => absurd (lgc _) h)
    refine zj_goto (tgt := 1284) d_La_law_630 (by decide) ?_
    refine zj_fg (L' := [some (.ref b), some (.ref (ad 0)), some (.ref (ad 80)), some (.ref (ad 93)), some (.int (nI i)), none, none]) rfl fg2 ?_
    exact hK _ _ _ hin2 (Nat.le_refl _) (Nat.le_refl _)
set_option maxRecDepth 100000 in
set_option maxHeartbeats 4000000 in
/-- strength -/
theorem lc_strength (htr : l.stackTraces = false) {b N0 i cs sl : Nat} {xs : Nat → Int32} (hi : i + 6 ≤ N0) (hN0 : N0 ≤ 3073) (hcs : cs ≤ 5000) (hsl : sl ≤ 50000) (hin : lw_in c ad M) (hK : ∀ M' cs' sl', lw_in c ad M' → cs' ≤ cs + 1 → sl' ≤ sl + 6 → bj_Z (sc_I b N0 xs) (bw_G l D c) Y_La_law 12 KL ad QL cs' sl' 1284 [some (.ref b), some (.ref (ad 0)), some (.ref (ad 80)), some (.ref (ad 93)), some (.int (nI i)), none, none] [] M') : bj_Z (sc_I b N0 xs) (bw_G l D c) Y_La_law 12 KL ad QL cs sl 633 [some (.ref b), some (.ref (ad 0)), some (.ref (ad 80)), some (.ref (ad 93)), some (.int (nI i)), none, none] [] M := by
  obtain ⟨N, op, se, dw, sg, sz, rk, tm, cd, f, hO, hm, h93⟩ := hin
  have hN : N ≤ 8 := hO.1.2.1
  have hps : ∀ but a b, psum sg sz rk tm but a b < 2 ^ 31 := fun but a b => Nat.lt_of_le_of_lt (psum_le (fun j hj => ⟨(hO.1.2.2.2.2.1 j hj).2.1, (hO.1.2.2.2.2.1 j hj).2.2⟩)) (by decide)
  refine zj_aload_n d_La_law_633 rfl rfl ?_
  refine zj_aload_n d_La_law_634 rfl rfl ?_
  refine zj_iload d_La_law_635 rfl ?_
  refine zj_iconst (v := (nI 1)) d_La_law_637 (by decide) ?_
  refine zj_iadd (v := (nI (i + 1))) d_La_law_638 (nI_add _ _) ?_
  refine zj_sld d_La_law_639 (by omega) (by omega) ?_
  refine zj_aload_n d_La_law_640 rfl rfl ?_
  refine zj_iload d_La_law_641 rfl ?_
  refine zj_iconst (v := (nI 2)) d_La_law_643 (by decide) ?_
  refine zj_iadd (v := (nI (i + 2))) d_La_law_644 (nI_add _ _) ?_
  refine zj_sld d_La_law_645 (by omega) (by omega) ?_
  refine zj_aload_n d_La_law_646 rfl rfl ?_
  refine zj_cs ss_La_121 d_La_law_647 (sc_st _ _ _) (zj_of (t_La_strength l D c ad M (t_Of_strength l D c ad M htr hO) hO.2.1.1 (fun n h => h.1 ▸ le_prC) int_Rv (fun M1 h => (h.2 93 (by omega)).trans h93))) rfl rfl (by decide) (by show cs + (1 + 0) ≤ 647849 + 0; omega) (by show sl + (6 + 0) ≤ 7152524 + 0; omega) (Nat.le_of_ble_eq_true rfl) rfl (fun v1 N1 hq1 => ?_) (fun _ _ h => h)
  obtain ⟨k, hk4, rfl, hfr, hmid⟩ := lw_mid h93 hq1 (fun _ h => h) (fun _ h => h)
  have hm1 := hm.kp (M' := N1) (fun q q1 q2 => hfr q (by omega) (by omega))
  obtain ⟨li0, hm1o⟩ := hm1.1
  show bj_Z (sc_I b N0 xs) (bw_G l D c) Y_La_law 12 KL ad QL (cs + 1) (sl + 6) 650 [some (.ref b), some (.ref (ad 0)), some (.ref (ad 80)), some (.ref (ad 93)), some (.int (nI i)), none, none] [.int (nI k)] N1
  refine zj_istore (L' := [some (.ref b), some (.ref (ad 0)), some (.ref (ad 80)), some (.ref (ad 93)), some (.int (nI i)), some (.int (nI k)), none]) d_La_law_650 (by decide) rfl ?_
  refine zj_aload_n d_La_law_652 rfl rfl ?_
  refine zj_aload_n d_La_law_653 rfl rfl ?_
  refine zj_iload d_La_law_654 rfl ?_
  refine zj_iconst (v := (nI 1)) d_La_law_656 (by decide) ?_
  refine zj_iadd (v := (nI (i + 1))) d_La_law_657 (nI_add _ _) ?_
  refine zj_sld d_La_law_658 (by omega) (by omega) ?_
  refine zj_aload_n d_La_law_659 rfl rfl ?_
  refine zj_iload d_La_law_660 rfl ?_
  refine zj_iconst (v := (nI 2)) d_La_law_662 (by decide) ?_
  refine zj_iadd (v := (nI (i + 2))) d_La_law_663 (nI_add _ _) ?_
  refine zj_sld d_La_law_664 (by omega) (by omega) ?_
  refine zj_cv sv_La_123 d_La_law_665 (sc_st _ _ _) (zj_of (t_Mo_strength l D c ad N1 hm1 hO.1)) rfl rfl (by decide) (by show cs + 1 + (0 + 0) ≤ 647849 + 0; omega) (by show sl + 6 + (0 + 0) ≤ 7152524 + 0; omega) (Nat.le_of_ble_eq_true rfl) rfl hm1o.1 rfl rfl (fun v2 N2 hq2 => ?_) (fun _ _ h => h)
  obtain ⟨hs, ⟨se1, op1, li, dw1, sg1, sz1, rk1, tm1, hth⟩, hin2, hv⟩ := lw_end fnl_Rv hmid hq2 (fun _ _ h => h) (fun _ _ h => h)
  obtain ⟨y, rfl⟩ := hs.1 rfl
  show bj_Z (sc_I b N0 xs) (bw_G l D c) Y_La_law 12 KL ad QL (cs + 1) (sl + 6) 668 [some (.ref b), some (.ref (ad 0)), some (.ref (ad 80)), some (.ref (ad 93)), some (.int (nI i)), some (.int (nI k)), none] [.int y] N2
  refine zj_istore (L' := [some (.ref b), some (.ref (ad 0)), some (.ref (ad 80)), some (.ref (ad 93)), some (.int (nI i)), some (.int (nI k)), some (.int y)]) d_La_law_668 (by decide) rfl ?_
  refine zj_aload_n d_La_law_670 rfl rfl ?_
  refine zj_cv sv_La_89 d_La_law_671 (sc_st _ _ _) (zj_of (t_Mo_thrown l D c ad N2 hth hN)) rfl rfl (by decide) (by show cs + 1 + 0 + (0 + 0) ≤ 647849 + 0; omega) (by show sl + 6 + 0 + (0 + 0) ≤ 7152524 + 0; omega) (Nat.le_of_ble_eq_true rfl) rfl hth.1 rfl rfl (fun v3 N3 hq3 => ?_) (fun _ _ h => h)
  obtain ⟨rfl, rfl⟩ := hq3
  show bj_Z (sc_I b N0 xs) (bw_G l D c) Y_La_law 12 KL ad QL (cs + 1) (sl + 6) 674 [some (.ref b), some (.ref (ad 0)), some (.ref (ad 80)), some (.ref (ad 93)), some (.int (nI i)), some (.int (nI k)), some (.int y)] [.int (nI k)] N3
  refine zj_iload d_La_law_674 rfl ?_
  refine zj_icmp_eqN (tgt := 681) d_La_law_676 (by decide) (by omega) (by omega) (fun _ => ?_) (fun h => absurd rfl h)
  refine zj_iload d_La_law_681 rfl ?_
  refine zj_if_neN (tgt := 698) d_La_law_683 (by decide) (by omega) (fun hk0 => ?_) (fun hk0 => ?_)
  · skip
    refine zj_goto (tgt := 1284) d_La_law_698 (by decide) ?_
    refine zj_fg (L' := [some (.ref b), some (.ref (ad 0)), some (.ref (ad 80)), some (.ref (ad 93)), some (.int (nI i)), none, none]) rfl fg2 ?_
    exact hK _ _ _ hin2 (Nat.le_refl _) (Nat.le_refl _)
  · obtain ⟨x, f2, hR0, hx, h932, hf2⟩ := hv hk0
    cases hx
    refine zj_aload_n d_La_law_686 rfl rfl ?_
    refine zj_iconst (v := (nI 0)) d_La_law_687 (by decide) ?_
    refine zj_lald d_La_law_688 2 rfl h932 rfl (by decide) (by decide) ?_
    rw [hf2]
    refine zj_iload d_La_law_689 rfl ?_
    refine zj_i2l (v := y.toInt64) d_La_law_691 rfl ?_
    refine zj_lcmp d_La_law_692 ?_
    refine zj_if_eq (tgt := 698) d_La_law_693 (by decide) (fun _ => ?_) (fun h => absurd (lgc _) h)
    refine zj_goto (tgt := 1284) d_La_law_698 (by decide) ?_
    refine zj_fg (L' := [some (.ref b), some (.ref (ad 0)), some (.ref (ad 80)), some (.ref (ad 93)), some (.int (nI i)), none, none]) rfl fg2 ?_
    exact hK _ _ _ hin2 (Nat.le_refl _) (Nat.le_refl _)
set_option maxRecDepth 100000 in
set_option maxHeartbeats 4000000 in
/-- way -/
theorem lc_way (htr : l.stackTraces = false) {b N0 i cs sl : Nat} {xs : Nat → Int32} (hi : i + 6 ≤ N0) (hN0 : N0 ≤ 3073) (hcs : cs ≤ 5000) (hsl : sl ≤ 50000) (hin : lw_in c ad M) (hK : ∀ M' cs' sl', lw_in c ad M' → cs' ≤ cs + 1 → sl' ≤ sl + 6 → bj_Z (sc_I b N0 xs) (bw_G l D c) Y_La_law 12 KL ad QL cs' sl' 1284 [some (.ref b), some (.ref (ad 0)), some (.ref (ad 80)), some (.ref (ad 93)), some (.int (nI i)), none, none] [] M') : bj_Z (sc_I b N0 xs) (bw_G l D c) Y_La_law 12 KL ad QL cs sl 701 [some (.ref b), some (.ref (ad 0)), some (.ref (ad 80)), some (.ref (ad 93)), some (.int (nI i)), none, none] [] M := by
  obtain ⟨N, op, se, dw, sg, sz, rk, tm, cd, f, hO, hm, h93⟩ := hin
  have hN : N ≤ 8 := hO.1.2.1
  have hps : ∀ but a b, psum sg sz rk tm but a b < 2 ^ 31 := fun but a b => Nat.lt_of_le_of_lt (psum_le (fun j hj => ⟨(hO.1.2.2.2.2.1 j hj).2.1, (hO.1.2.2.2.2.1 j hj).2.2⟩)) (by decide)
  refine zj_aload_n d_La_law_701 rfl rfl ?_
  refine zj_aload_n d_La_law_702 rfl rfl ?_
  refine zj_iload d_La_law_703 rfl ?_
  refine zj_iconst (v := (nI 1)) d_La_law_705 (by decide) ?_
  refine zj_iadd (v := (nI (i + 1))) d_La_law_706 (nI_add _ _) ?_
  refine zj_sld d_La_law_707 (by omega) (by omega) ?_
  refine zj_aload_n d_La_law_708 rfl rfl ?_
  refine zj_iload d_La_law_709 rfl ?_
  refine zj_iconst (v := (nI 2)) d_La_law_711 (by decide) ?_
  refine zj_iadd (v := (nI (i + 2))) d_La_law_712 (nI_add _ _) ?_
  refine zj_sld d_La_law_713 (by omega) (by omega) ?_
  refine zj_aload_n d_La_law_714 rfl rfl ?_
  refine zj_cs ss_La_124 d_La_law_715 (sc_st _ _ _) (zj_of (t_La_way l D c ad M (t_Of_way l D c ad M htr hO) hO.2.1.1 (fun n h => h.1 ▸ le_prC) int_way (fun M1 h => (h.2 93 (by omega)).trans h93))) rfl rfl (by decide) (by show cs + (1 + 0) ≤ 647849 + 0; omega) (by show sl + (6 + 0) ≤ 7152524 + 0; omega) (Nat.le_of_ble_eq_true rfl) rfl (fun v1 N1 hq1 => ?_) (fun _ _ h => h)
  obtain ⟨k, hk4, rfl, hfr, hmid⟩ := lw_mid h93 hq1 (fun _ h => h) (fun _ h => h)
  have hm1 := hm.kp (M' := N1) (fun q q1 q2 => hfr q (by omega) (by omega))
  obtain ⟨li0, hm1o⟩ := hm1.1
  show bj_Z (sc_I b N0 xs) (bw_G l D c) Y_La_law 12 KL ad QL (cs + 1) (sl + 6) 718 [some (.ref b), some (.ref (ad 0)), some (.ref (ad 80)), some (.ref (ad 93)), some (.int (nI i)), none, none] [.int (nI k)] N1
  refine zj_istore (L' := [some (.ref b), some (.ref (ad 0)), some (.ref (ad 80)), some (.ref (ad 93)), some (.int (nI i)), some (.int (nI k)), none]) d_La_law_718 (by decide) rfl ?_
  refine zj_aload_n d_La_law_720 rfl rfl ?_
  refine zj_aload_n d_La_law_721 rfl rfl ?_
  refine zj_iload d_La_law_722 rfl ?_
  refine zj_iconst (v := (nI 1)) d_La_law_724 (by decide) ?_
  refine zj_iadd (v := (nI (i + 1))) d_La_law_725 (nI_add _ _) ?_
  refine zj_sld d_La_law_726 (by omega) (by omega) ?_
  refine zj_aload_n d_La_law_727 rfl rfl ?_
  refine zj_iload d_La_law_728 rfl ?_
  refine zj_iconst (v := (nI 2)) d_La_law_730 (by decide) ?_
  refine zj_iadd (v := (nI (i + 2))) d_La_law_731 (nI_add _ _) ?_
  refine zj_sld d_La_law_732 (by omega) (by omega) ?_
  refine zj_cv sv_La_126 d_La_law_733 (sc_st _ _ _) (zj_of (t_Mo_way l D c ad N1 hm1 hO.1)) rfl rfl (by decide) (by show cs + 1 + (0 + 0) ≤ 647849 + 0; omega) (by show sl + 6 + (0 + 0) ≤ 7152524 + 0; omega) (Nat.le_of_ble_eq_true rfl) rfl hm1o.1 rfl rfl (fun v2 N2 hq2 => ?_) (fun _ _ h => h)
  obtain ⟨hs, ⟨se1, op1, li, dw1, sg1, sz1, rk1, tm1, hth⟩, hin2, hv⟩ := lw_end (fnl_Rw (fn_way hN)) hmid hq2 (fun _ _ h => h) (fun _ _ h => h)
  obtain ⟨y, rfl⟩ := hs.1 rfl
  show bj_Z (sc_I b N0 xs) (bw_G l D c) Y_La_law 12 KL ad QL (cs + 1) (sl + 6) 736 [some (.ref b), some (.ref (ad 0)), some (.ref (ad 80)), some (.ref (ad 93)), some (.int (nI i)), some (.int (nI k)), none] [.int y] N2
  refine zj_istore (L' := [some (.ref b), some (.ref (ad 0)), some (.ref (ad 80)), some (.ref (ad 93)), some (.int (nI i)), some (.int (nI k)), some (.int y)]) d_La_law_736 (by decide) rfl ?_
  refine zj_aload_n d_La_law_738 rfl rfl ?_
  refine zj_cv sv_La_89 d_La_law_739 (sc_st _ _ _) (zj_of (t_Mo_thrown l D c ad N2 hth hN)) rfl rfl (by decide) (by show cs + 1 + 0 + (0 + 0) ≤ 647849 + 0; omega) (by show sl + 6 + 0 + (0 + 0) ≤ 7152524 + 0; omega) (Nat.le_of_ble_eq_true rfl) rfl hth.1 rfl rfl (fun v3 N3 hq3 => ?_) (fun _ _ h => h)
  obtain ⟨rfl, rfl⟩ := hq3
  show bj_Z (sc_I b N0 xs) (bw_G l D c) Y_La_law 12 KL ad QL (cs + 1) (sl + 6) 742 [some (.ref b), some (.ref (ad 0)), some (.ref (ad 80)), some (.ref (ad 93)), some (.int (nI i)), some (.int (nI k)), some (.int y)] [.int (nI k)] N3
  refine zj_iload d_La_law_742 rfl ?_
  refine zj_icmp_eqN (tgt := 749) d_La_law_744 (by decide) (by omega) (by omega) (fun _ => ?_) (fun h => absurd rfl h)
  refine zj_iload d_La_law_749 rfl ?_
  refine zj_if_neN (tgt := 766) d_La_law_751 (by decide) (by omega) (fun hk0 => ?_) (fun hk0 => ?_)
  · skip
    refine zj_goto (tgt := 1284) d_La_law_766 (by decide) ?_
    refine zj_fg (L' := [some (.ref b), some (.ref (ad 0)), some (.ref (ad 80)), some (.ref (ad 93)), some (.int (nI i)), none, none]) rfl fg2 ?_
    exact hK _ _ _ hin2 (Nat.le_refl _) (Nat.le_refl _)
  · obtain ⟨x, f2, hR0, hx, h932, hf2⟩ := hv hk0
    cases hx
    refine zj_aload_n d_La_law_754 rfl rfl ?_
    refine zj_iconst (v := (nI 0)) d_La_law_755 (by decide) ?_
    refine zj_lald d_La_law_756 2 rfl h932 rfl (by decide) (by decide) ?_
    rw [hf2]
    refine zj_iload d_La_law_757 rfl ?_
    refine zj_i2l (v := y.toInt64) d_La_law_759 rfl ?_
    refine zj_lcmp d_La_law_760 ?_
    refine zj_if_eq (tgt := 766) d_La_law_761 (by decide) (fun _ => ?_) (fun h => absurd (lgc _) h)
    refine zj_goto (tgt := 1284) d_La_law_766 (by decide) ?_
    refine zj_fg (L' := [some (.ref b), some (.ref (ad 0)), some (.ref (ad 80)), some (.ref (ad 93)), some (.int (nI i)), none, none]) rfl fg2 ?_
    exact hK _ _ _ hin2 (Nat.le_refl _) (Nat.le_refl _)
set_option maxRecDepth 100000 in
set_option maxHeartbeats 4000000 in
/-- cut -/
theorem lc_cut (htr : l.stackTraces = false) {b N0 i cs sl : Nat} {xs : Nat → Int32} (hi : i + 6 ≤ N0) (hN0 : N0 ≤ 3073) (hcs : cs ≤ 5000) (hsl : sl ≤ 50000) (hin : lw_in c ad M) (hK : ∀ M' cs' sl', lw_in c ad M' → cs' ≤ cs + 1 → sl' ≤ sl + 6 → bj_Z (sc_I b N0 xs) (bw_G l D c) Y_La_law 12 KL ad QL cs' sl' 1284 [some (.ref b), some (.ref (ad 0)), some (.ref (ad 80)), some (.ref (ad 93)), some (.int (nI i)), none, none] [] M') : bj_Z (sc_I b N0 xs) (bw_G l D c) Y_La_law 12 KL ad QL cs sl 769 [some (.ref b), some (.ref (ad 0)), some (.ref (ad 80)), some (.ref (ad 93)), some (.int (nI i)), none, none] [] M := by
  obtain ⟨N, op, se, dw, sg, sz, rk, tm, cd, f, hO, hm, h93⟩ := hin
  have hN : N ≤ 8 := hO.1.2.1
  have hps : ∀ but a b, psum sg sz rk tm but a b < 2 ^ 31 := fun but a b => Nat.lt_of_le_of_lt (psum_le (fun j hj => ⟨(hO.1.2.2.2.2.1 j hj).2.1, (hO.1.2.2.2.2.1 j hj).2.2⟩)) (by decide)
  refine zj_aload_n d_La_law_769 rfl rfl ?_
  refine zj_aload_n d_La_law_770 rfl rfl ?_
  refine zj_iload d_La_law_771 rfl ?_
  refine zj_iconst (v := (nI 1)) d_La_law_773 (by decide) ?_
  refine zj_iadd (v := (nI (i + 1))) d_La_law_774 (nI_add _ _) ?_
  refine zj_sld d_La_law_775 (by omega) (by omega) ?_
  refine zj_aload_n d_La_law_776 rfl rfl ?_
  refine zj_iload d_La_law_777 rfl ?_
  refine zj_iconst (v := (nI 2)) d_La_law_779 (by decide) ?_
  refine zj_iadd (v := (nI (i + 2))) d_La_law_780 (nI_add _ _) ?_
  refine zj_sld d_La_law_781 (by omega) (by omega) ?_
  refine zj_aload_n d_La_law_782 rfl rfl ?_
  refine zj_cs ss_La_127 d_La_law_783 (sc_st _ _ _) (zj_of (t_La_cut l D c ad M (t_Of_cut l D c ad M htr hO) hO.2.1.1 (fun n h => h.1 ▸ le_prC) int_Rv (fun M1 h => (h.2 93 (by omega)).trans h93))) rfl rfl (by decide) (by show cs + (1 + 0) ≤ 647849 + 0; omega) (by show sl + (6 + 0) ≤ 7152524 + 0; omega) (Nat.le_of_ble_eq_true rfl) rfl (fun v1 N1 hq1 => ?_) (fun _ _ h => h)
  obtain ⟨k, hk4, rfl, hfr, hmid⟩ := lw_mid h93 hq1 (fun _ h => h) (fun _ h => h)
  have hm1 := hm.kp (M' := N1) (fun q q1 q2 => hfr q (by omega) (by omega))
  obtain ⟨li0, hm1o⟩ := hm1.1
  show bj_Z (sc_I b N0 xs) (bw_G l D c) Y_La_law 12 KL ad QL (cs + 1) (sl + 6) 786 [some (.ref b), some (.ref (ad 0)), some (.ref (ad 80)), some (.ref (ad 93)), some (.int (nI i)), none, none] [.int (nI k)] N1
  refine zj_istore (L' := [some (.ref b), some (.ref (ad 0)), some (.ref (ad 80)), some (.ref (ad 93)), some (.int (nI i)), some (.int (nI k)), none]) d_La_law_786 (by decide) rfl ?_
  refine zj_aload_n d_La_law_788 rfl rfl ?_
  refine zj_aload_n d_La_law_789 rfl rfl ?_
  refine zj_iload d_La_law_790 rfl ?_
  refine zj_iconst (v := (nI 1)) d_La_law_792 (by decide) ?_
  refine zj_iadd (v := (nI (i + 1))) d_La_law_793 (nI_add _ _) ?_
  refine zj_sld d_La_law_794 (by omega) (by omega) ?_
  refine zj_aload_n d_La_law_795 rfl rfl ?_
  refine zj_iload d_La_law_796 rfl ?_
  refine zj_iconst (v := (nI 2)) d_La_law_798 (by decide) ?_
  refine zj_iadd (v := (nI (i + 2))) d_La_law_799 (nI_add _ _) ?_
  refine zj_sld d_La_law_800 (by omega) (by omega) ?_
  refine zj_cv sv_La_129 d_La_law_801 (sc_st _ _ _) (zj_of (t_Mo_cut l D c ad N1 hm1 hO.1)) rfl rfl (by decide) (by show cs + 1 + (0 + 0) ≤ 647849 + 0; omega) (by show sl + 6 + (0 + 0) ≤ 7152524 + 0; omega) (Nat.le_of_ble_eq_true rfl) rfl hm1o.1 rfl rfl (fun v2 N2 hq2 => ?_) (fun _ _ h => h)
  obtain ⟨hs, ⟨se1, op1, li, dw1, sg1, sz1, rk1, tm1, hth⟩, hin2, hv⟩ := lw_end fnl_Rv hmid hq2 (fun _ _ h => h) (fun _ _ h => h)
  obtain ⟨y, rfl⟩ := hs.1 rfl
  show bj_Z (sc_I b N0 xs) (bw_G l D c) Y_La_law 12 KL ad QL (cs + 1) (sl + 6) 804 [some (.ref b), some (.ref (ad 0)), some (.ref (ad 80)), some (.ref (ad 93)), some (.int (nI i)), some (.int (nI k)), none] [.int y] N2
  refine zj_istore (L' := [some (.ref b), some (.ref (ad 0)), some (.ref (ad 80)), some (.ref (ad 93)), some (.int (nI i)), some (.int (nI k)), some (.int y)]) d_La_law_804 (by decide) rfl ?_
  refine zj_aload_n d_La_law_806 rfl rfl ?_
  refine zj_cv sv_La_89 d_La_law_807 (sc_st _ _ _) (zj_of (t_Mo_thrown l D c ad N2 hth hN)) rfl rfl (by decide) (by show cs + 1 + 0 + (0 + 0) ≤ 647849 + 0; omega) (by show sl + 6 + 0 + (0 + 0) ≤ 7152524 + 0; omega) (Nat.le_of_ble_eq_true rfl) rfl hth.1 rfl rfl (fun v3 N3 hq3 => ?_) (fun _ _ h => h)
  obtain ⟨rfl, rfl⟩ := hq3
  show bj_Z (sc_I b N0 xs) (bw_G l D c) Y_La_law 12 KL ad QL (cs + 1) (sl + 6) 810 [some (.ref b), some (.ref (ad 0)), some (.ref (ad 80)), some (.ref (ad 93)), some (.int (nI i)), some (.int (nI k)), some (.int y)] [.int (nI k)] N3
  refine zj_iload d_La_law_810 rfl ?_
  refine zj_icmp_eqN (tgt := 817) d_La_law_812 (by decide) (by omega) (by omega) (fun _ => ?_) (fun h => absurd rfl h)
  refine zj_iload d_La_law_817 rfl ?_
  refine zj_if_neN (tgt := 834) d_La_law_819 (by decide) (by omega) (fun hk0 => ?_) (fun hk0 => ?_)
  · skip
    refine zj_goto (tgt := 1284) d_La_law_834 (by decide) ?_
    refine zj_fg (L' := [some (.ref b), some (.ref (ad 0)), some (.ref (ad 80)), some (.ref (ad 93)), some (.int (nI i)), none, none]) rfl fg2 ?_
    exact hK _ _ _ hin2 (Nat.le_refl _) (Nat.le_refl _)
  · obtain ⟨x, f2, hR0, hx, h932, hf2⟩ := hv hk0
    cases hx
    refine zj_aload_n d_La_law_822 rfl rfl ?_
    refine zj_iconst (v := (nI 0)) d_La_law_823 (by decide) ?_
    refine zj_lald d_La_law_824 2 rfl h932 rfl (by decide) (by decide) ?_
    rw [hf2]
    refine zj_iload d_La_law_825 rfl ?_
    refine zj_i2l (v := y.toInt64) d_La_law_827 rfl ?_
    refine zj_lcmp d_La_law_828 ?_
    refine zj_if_eq (tgt := 834) d_La_law_829 (by decide) (fun _ => ?_) (fun h => absurd (lgc _) h)
    refine zj_goto (tgt := 1284) d_La_law_834 (by decide) ?_
    refine zj_fg (L' := [some (.ref b), some (.ref (ad 0)), some (.ref (ad 80)), some (.ref (ad 93)), some (.int (nI i)), none, none]) rfl fg2 ?_
    exact hK _ _ _ hin2 (Nat.le_refl _) (Nat.le_refl _)
set_option maxRecDepth 100000 in
set_option maxHeartbeats 4000000 in
/-- proves -/
theorem lc_proves (htr : l.stackTraces = false) {b N0 i cs sl : Nat} {xs : Nat → Int32} (hi : i + 6 ≤ N0) (hN0 : N0 ≤ 3073) (hcs : cs ≤ 5000) (hsl : sl ≤ 50000) (hin : lw_in c ad M) (hK : ∀ M' cs' sl', lw_in c ad M' → cs' ≤ cs + 1 → sl' ≤ sl + 6 → bj_Z (sc_I b N0 xs) (bw_G l D c) Y_La_law 12 KL ad QL cs' sl' 1284 [some (.ref b), some (.ref (ad 0)), some (.ref (ad 80)), some (.ref (ad 93)), some (.int (nI i)), none, none] [] M') : bj_Z (sc_I b N0 xs) (bw_G l D c) Y_La_law 12 KL ad QL cs sl 837 [some (.ref b), some (.ref (ad 0)), some (.ref (ad 80)), some (.ref (ad 93)), some (.int (nI i)), none, none] [] M := by
  obtain ⟨N, op, se, dw, sg, sz, rk, tm, cd, f, hO, hm, h93⟩ := hin
  have hN : N ≤ 8 := hO.1.2.1
  have hps : ∀ but a b, psum sg sz rk tm but a b < 2 ^ 31 := fun but a b => Nat.lt_of_le_of_lt (psum_le (fun j hj => ⟨(hO.1.2.2.2.2.1 j hj).2.1, (hO.1.2.2.2.2.1 j hj).2.2⟩)) (by decide)
  refine zj_aload_n d_La_law_837 rfl rfl ?_
  refine zj_aload_n d_La_law_838 rfl rfl ?_
  refine zj_iload d_La_law_839 rfl ?_
  refine zj_iconst (v := (nI 1)) d_La_law_841 (by decide) ?_
  refine zj_iadd (v := (nI (i + 1))) d_La_law_842 (nI_add _ _) ?_
  refine zj_sld d_La_law_843 (by omega) (by omega) ?_
  refine zj_aload_n d_La_law_844 rfl rfl ?_
  refine zj_iload d_La_law_845 rfl ?_
  refine zj_iconst (v := (nI 2)) d_La_law_847 (by decide) ?_
  refine zj_iadd (v := (nI (i + 2))) d_La_law_848 (nI_add _ _) ?_
  refine zj_sld d_La_law_849 (by omega) (by omega) ?_
  refine zj_aload_n d_La_law_850 rfl rfl ?_
  refine zj_iload d_La_law_851 rfl ?_
  refine zj_iconst (v := (nI 3)) d_La_law_853 (by decide) ?_
  refine zj_iadd (v := (nI (i + 3))) d_La_law_854 (nI_add _ _) ?_
  refine zj_sld d_La_law_855 (by omega) (by omega) ?_
  refine zj_aload_n d_La_law_856 rfl rfl ?_
  refine zj_iload d_La_law_857 rfl ?_
  refine zj_iconst (v := (nI 4)) d_La_law_859 (by decide) ?_
  refine zj_iadd (v := (nI (i + 4))) d_La_law_860 (nI_add _ _) ?_
  refine zj_sld d_La_law_861 (by omega) (by omega) ?_
  refine zj_aload_n d_La_law_862 rfl rfl ?_
  refine zj_iload d_La_law_863 rfl ?_
  refine zj_iconst (v := (nI 5)) d_La_law_865 (by decide) ?_
  refine zj_iadd (v := (nI (i + 5))) d_La_law_866 (nI_add _ _) ?_
  refine zj_sld d_La_law_867 (by omega) (by omega) ?_
  refine zj_aload_n d_La_law_868 rfl rfl ?_
  refine zj_cs ss_La_130 d_La_law_869 (sc_st _ _ _) (zj_of (t_La_proves l D c ad M (t_Of_proves l D c ad M htr hO) hO.2.1.1 (fun n h => h.1 ▸ le_prC) int_prv (fun M1 h => (h.2 93 (by omega)).trans h93))) rfl rfl (by decide) (by show cs + (1 + 0) ≤ 647849 + 0; omega) (by show sl + (6 + 0) ≤ 7152524 + 0; omega) (Nat.le_of_ble_eq_true rfl) rfl (fun v1 N1 hq1 => ?_) (fun _ _ h => h)
  obtain ⟨k, hk4, rfl, hfr, hmid⟩ := lw_mid h93 hq1 (fun _ h => h) (fun _ h => h)
  have hm1 := hm.kp (M' := N1) (fun q q1 q2 => hfr q (by omega) (by omega))
  obtain ⟨li0, hm1o⟩ := hm1.1
  show bj_Z (sc_I b N0 xs) (bw_G l D c) Y_La_law 12 KL ad QL (cs + 1) (sl + 6) 872 [some (.ref b), some (.ref (ad 0)), some (.ref (ad 80)), some (.ref (ad 93)), some (.int (nI i)), none, none] [.int (nI k)] N1
  refine zj_istore (L' := [some (.ref b), some (.ref (ad 0)), some (.ref (ad 80)), some (.ref (ad 93)), some (.int (nI i)), some (.int (nI k)), none]) d_La_law_872 (by decide) rfl ?_
  refine zj_aload_n d_La_law_874 rfl rfl ?_
  refine zj_aload_n d_La_law_875 rfl rfl ?_
  refine zj_iload d_La_law_876 rfl ?_
  refine zj_iconst (v := (nI 1)) d_La_law_878 (by decide) ?_
  refine zj_iadd (v := (nI (i + 1))) d_La_law_879 (nI_add _ _) ?_
  refine zj_sld d_La_law_880 (by omega) (by omega) ?_
  refine zj_aload_n d_La_law_881 rfl rfl ?_
  refine zj_iload d_La_law_882 rfl ?_
  refine zj_iconst (v := (nI 2)) d_La_law_884 (by decide) ?_
  refine zj_iadd (v := (nI (i + 2))) d_La_law_885 (nI_add _ _) ?_
  refine zj_sld d_La_law_886 (by omega) (by omega) ?_
  refine zj_aload_n d_La_law_887 rfl rfl ?_
  refine zj_iload d_La_law_888 rfl ?_
  refine zj_iconst (v := (nI 3)) d_La_law_890 (by decide) ?_
  refine zj_iadd (v := (nI (i + 3))) d_La_law_891 (nI_add _ _) ?_
  refine zj_sld d_La_law_892 (by omega) (by omega) ?_
  refine zj_aload_n d_La_law_893 rfl rfl ?_
  refine zj_iload d_La_law_894 rfl ?_
  refine zj_iconst (v := (nI 4)) d_La_law_896 (by decide) ?_
  refine zj_iadd (v := (nI (i + 4))) d_La_law_897 (nI_add _ _) ?_
  refine zj_sld d_La_law_898 (by omega) (by omega) ?_
  refine zj_aload_n d_La_law_899 rfl rfl ?_
  refine zj_iload d_La_law_900 rfl ?_
  refine zj_iconst (v := (nI 5)) d_La_law_902 (by decide) ?_
  refine zj_iadd (v := (nI (i + 5))) d_La_law_903 (nI_add _ _) ?_
  refine zj_sld d_La_law_904 (by omega) (by omega) ?_
  refine zj_cv sv_La_133 d_La_law_905 (sc_st _ _ _) (zj_of (t_Mo_proves l D c ad N1 hm1 hO.1)) rfl rfl (by decide) (by show cs + 1 + (0 + 0) ≤ 647849 + 0; omega) (by show sl + 6 + (0 + 0) ≤ 7152524 + 0; omega) (Nat.le_of_ble_eq_true rfl) rfl hm1o.1 rfl rfl (fun v2 N2 hq2 => ?_) (fun _ _ h => h)
  obtain ⟨hs, ⟨se1, op1, li, dw1, sg1, sz1, rk1, tm1, hth⟩, hin2, hv⟩ := lw_end (fnl_Rw (fn_prv hN)) hmid hq2 (fun _ _ h => h) (fun _ _ h => h)
  obtain ⟨y, rfl⟩ := hs.1 rfl
  show bj_Z (sc_I b N0 xs) (bw_G l D c) Y_La_law 12 KL ad QL (cs + 1) (sl + 6) 908 [some (.ref b), some (.ref (ad 0)), some (.ref (ad 80)), some (.ref (ad 93)), some (.int (nI i)), some (.int (nI k)), none] [.int y] N2
  refine zj_istore (L' := [some (.ref b), some (.ref (ad 0)), some (.ref (ad 80)), some (.ref (ad 93)), some (.int (nI i)), some (.int (nI k)), some (.int y)]) d_La_law_908 (by decide) rfl ?_
  refine zj_aload_n d_La_law_910 rfl rfl ?_
  refine zj_cv sv_La_89 d_La_law_911 (sc_st _ _ _) (zj_of (t_Mo_thrown l D c ad N2 hth hN)) rfl rfl (by decide) (by show cs + 1 + 0 + (0 + 0) ≤ 647849 + 0; omega) (by show sl + 6 + 0 + (0 + 0) ≤ 7152524 + 0; omega) (Nat.le_of_ble_eq_true rfl) rfl hth.1 rfl rfl (fun v3 N3 hq3 => ?_) (fun _ _ h => h)
  obtain ⟨rfl, rfl⟩ := hq3
  show bj_Z (sc_I b N0 xs) (bw_G l D c) Y_La_law 12 KL ad QL (cs + 1) (sl + 6) 914 [some (.ref b), some (.ref (ad 0)), some (.ref (ad 80)), some (.ref (ad 93)), some (.int (nI i)), some (.int (nI k)), some (.int y)] [.int (nI k)] N3
  refine zj_iload d_La_law_914 rfl ?_
  refine zj_icmp_eqN (tgt := 921) d_La_law_916 (by decide) (by omega) (by omega) (fun _ => ?_) (fun h => absurd rfl h)
  refine zj_iload d_La_law_921 rfl ?_
  refine zj_if_neN (tgt := 945) d_La_law_923 (by decide) (by omega) (fun hk0 => ?_) (fun hk0 => ?_)
  · skip
    refine zj_goto (tgt := 1284) d_La_law_945 (by decide) ?_
    refine zj_fg (L' := [some (.ref b), some (.ref (ad 0)), some (.ref (ad 80)), some (.ref (ad 93)), some (.int (nI i)), none, none]) rfl fg2 ?_
    exact hK _ _ _ hin2 (Nat.le_refl _) (Nat.le_refl _)
  · obtain ⟨x, f2, hR0, hx, h932, hf2⟩ := hv hk0
    cases hx
    refine zj_aload_n d_La_law_926 rfl rfl ?_
    refine zj_iconst (v := (nI 0)) d_La_law_927 (by decide) ?_
    refine zj_lald d_La_law_928 2 rfl h932 rfl (by decide) (by decide) ?_
    rw [hf2]
    refine zj_iload d_La_law_929 rfl ?_
    obtain ⟨b9, hb9⟩ := int_prv _ hR0
    cases hb9
    refine zj_if_eq (tgt := 938) d_La_law_931 (by decide) (fun h0 => ?_) (fun h0 => ?_)
    · refine zj_lconst (v := 0) d_La_law_938 (by decide) ?_
      refine zj_lcmp d_La_law_939 ?_
      refine zj_if_eq (tgt := 945) d_La_law_940 (by decide) (fun _ => ?_) (fun h => absurd (by rw [bn_0 h0]; exact lgc _) h)
      refine zj_goto (tgt := 1284) d_La_law_945 (by decide) ?_
      refine zj_fg (L' := [some (.ref b), some (.ref (ad 0)), some (.ref (ad 80)), some (.ref (ad 93)), some (.int (nI i)), none, none]) rfl fg2 ?_
      exact hK _ _ _ hin2 (Nat.le_refl _) (Nat.le_refl _)
    · refine zj_lconst (v := 1) d_La_law_934 (by decide) ?_
      refine zj_goto (tgt := 939) d_La_law_935 (by decide) ?_
      refine zj_lcmp d_La_law_939 ?_
      refine zj_if_eq (tgt := 945) d_La_law_940 (by decide) (fun _ => ?_) (fun h => absurd (by rw [bn_1 h0]; exact lgc _) h)
      refine zj_goto (tgt := 1284) d_La_law_945 (by decide) ?_
      refine zj_fg (L' := [some (.ref b), some (.ref (ad 0)), some (.ref (ad 80)), some (.ref (ad 93)), some (.int (nI i)), none, none]) rfl fg2 ?_
      exact hK _ _ _ hin2 (Nat.le_refl _) (Nat.le_refl _)
set_option maxRecDepth 100000 in
set_option maxHeartbeats 4000000 in
/-- winner -/
theorem lc_winner (htr : l.stackTraces = false) {b N0 i cs sl : Nat} {xs : Nat → Int32} (hi : i + 6 ≤ N0) (hN0 : N0 ≤ 3073) (hcs : cs ≤ 5000) (hsl : sl ≤ 50000) (hin : lw_in c ad M) (hK : ∀ M' cs' sl', lw_in c ad M' → cs' ≤ cs + 1 → sl' ≤ sl + 6 → bj_Z (sc_I b N0 xs) (bw_G l D c) Y_La_law 12 KL ad QL cs' sl' 1284 [some (.ref b), some (.ref (ad 0)), some (.ref (ad 80)), some (.ref (ad 93)), some (.int (nI i)), none, none] [] M') : bj_Z (sc_I b N0 xs) (bw_G l D c) Y_La_law 12 KL ad QL cs sl 948 [some (.ref b), some (.ref (ad 0)), some (.ref (ad 80)), some (.ref (ad 93)), some (.int (nI i)), none, none] [] M := by
  obtain ⟨N, op, se, dw, sg, sz, rk, tm, cd, f, hO, hm, h93⟩ := hin
  have hN : N ≤ 8 := hO.1.2.1
  have hps : ∀ but a b, psum sg sz rk tm but a b < 2 ^ 31 := fun but a b => Nat.lt_of_le_of_lt (psum_le (fun j hj => ⟨(hO.1.2.2.2.2.1 j hj).2.1, (hO.1.2.2.2.2.1 j hj).2.2⟩)) (by decide)
  refine zj_aload_n d_La_law_948 rfl rfl ?_
  refine zj_aload_n d_La_law_949 rfl rfl ?_
  refine zj_iload d_La_law_950 rfl ?_
  refine zj_iconst (v := (nI 1)) d_La_law_952 (by decide) ?_
  refine zj_iadd (v := (nI (i + 1))) d_La_law_953 (nI_add _ _) ?_
  refine zj_sld d_La_law_954 (by omega) (by omega) ?_
  refine zj_aload_n d_La_law_955 rfl rfl ?_
  refine zj_cs ss_La_134 d_La_law_956 (sc_st _ _ _) (zj_of (t_La_winner l D c ad M (t_Of_winner l D c ad M htr hO) hO.2.1.1 (fun n h => le_Rf h) (int_Rf (by decide)) (fun M1 h => (h.2 93 (by omega)).trans h93))) rfl rfl (by decide) (by show cs + (1 + 0) ≤ 647849 + 0; omega) (by show sl + (6 + 0) ≤ 7152524 + 0; omega) (Nat.le_of_ble_eq_true rfl) rfl (fun v1 N1 hq1 => ?_) (fun _ _ h => h)
  obtain ⟨k, hk4, rfl, hfr, hmid⟩ := lw_mid h93 hq1 (fun _ h => h) (fun _ h => h)
  have hm1 := hm.kp (M' := N1) (fun q q1 q2 => hfr q (by omega) (by omega))
  obtain ⟨li0, hm1o⟩ := hm1.1
  show bj_Z (sc_I b N0 xs) (bw_G l D c) Y_La_law 12 KL ad QL (cs + 1) (sl + 6) 959 [some (.ref b), some (.ref (ad 0)), some (.ref (ad 80)), some (.ref (ad 93)), some (.int (nI i)), none, none] [.int (nI k)] N1
  refine zj_istore (L' := [some (.ref b), some (.ref (ad 0)), some (.ref (ad 80)), some (.ref (ad 93)), some (.int (nI i)), some (.int (nI k)), none]) d_La_law_959 (by decide) rfl ?_
  refine zj_aload_n d_La_law_961 rfl rfl ?_
  refine zj_aload_n d_La_law_962 rfl rfl ?_
  refine zj_iload d_La_law_963 rfl ?_
  refine zj_iconst (v := (nI 1)) d_La_law_965 (by decide) ?_
  refine zj_iadd (v := (nI (i + 1))) d_La_law_966 (nI_add _ _) ?_
  refine zj_sld d_La_law_967 (by omega) (by omega) ?_
  refine zj_cv sv_La_136 d_La_law_968 (sc_st _ _ _) (zj_of (t_Mo_winner l D c ad N1 hm1 hO.1)) rfl rfl (by decide) (by show cs + 1 + (0 + 0) ≤ 647849 + 0; omega) (by show sl + 6 + (0 + 0) ≤ 7152524 + 0; omega) (Nat.le_of_ble_eq_true rfl) rfl hm1o.1 rfl rfl (fun v2 N2 hq2 => ?_) (fun _ _ h => h)
  obtain ⟨hs, ⟨se1, op1, li, dw1, sg1, sz1, rk1, tm1, hth⟩, hin2, hv⟩ := lw_end fnl_Rf hmid hq2 (fun _ _ h => h) (fun _ _ h => h)
  obtain ⟨y, rfl⟩ := hs.1 rfl
  show bj_Z (sc_I b N0 xs) (bw_G l D c) Y_La_law 12 KL ad QL (cs + 1) (sl + 6) 971 [some (.ref b), some (.ref (ad 0)), some (.ref (ad 80)), some (.ref (ad 93)), some (.int (nI i)), some (.int (nI k)), none] [.int y] N2
  refine zj_istore (L' := [some (.ref b), some (.ref (ad 0)), some (.ref (ad 80)), some (.ref (ad 93)), some (.int (nI i)), some (.int (nI k)), some (.int y)]) d_La_law_971 (by decide) rfl ?_
  refine zj_aload_n d_La_law_973 rfl rfl ?_
  refine zj_cv sv_La_89 d_La_law_974 (sc_st _ _ _) (zj_of (t_Mo_thrown l D c ad N2 hth hN)) rfl rfl (by decide) (by show cs + 1 + 0 + (0 + 0) ≤ 647849 + 0; omega) (by show sl + 6 + 0 + (0 + 0) ≤ 7152524 + 0; omega) (Nat.le_of_ble_eq_true rfl) rfl hth.1 rfl rfl (fun v3 N3 hq3 => ?_) (fun _ _ h => h)
  obtain ⟨rfl, rfl⟩ := hq3
  show bj_Z (sc_I b N0 xs) (bw_G l D c) Y_La_law 12 KL ad QL (cs + 1) (sl + 6) 977 [some (.ref b), some (.ref (ad 0)), some (.ref (ad 80)), some (.ref (ad 93)), some (.int (nI i)), some (.int (nI k)), some (.int y)] [.int (nI k)] N3
  refine zj_iload d_La_law_977 rfl ?_
  refine zj_icmp_eqN (tgt := 984) d_La_law_979 (by decide) (by omega) (by omega) (fun _ => ?_) (fun h => absurd rfl h)
  refine zj_iload d_La_law_984 rfl ?_
  refine zj_if_neN (tgt := 1001) d_La_law_986 (by decide) (by omega) (fun hk0 => ?_) (fun hk0 => ?_)
  · skip
    refine zj_goto (tgt := 1284) d_La_law_1001 (by decide) ?_
    refine zj_fg (L' := [some (.ref b), some (.ref (ad 0)), some (.ref (ad 80)), some (.ref (ad 93)), some (.int (nI i)), none, none]) rfl fg2 ?_
    exact hK _ _ _ hin2 (Nat.le_refl _) (Nat.le_refl _)
  · obtain ⟨x, f2, hR0, hx, h932, hf2⟩ := hv hk0
    cases hx
    refine zj_aload_n d_La_law_989 rfl rfl ?_
    refine zj_iconst (v := (nI 0)) d_La_law_990 (by decide) ?_
    refine zj_lald d_La_law_991 2 rfl h932 rfl (by decide) (by decide) ?_
    rw [hf2]
    refine zj_iload d_La_law_992 rfl ?_
    refine zj_i2l (v := y.toInt64) d_La_law_994 rfl ?_
    refine zj_lcmp d_La_law_995 ?_
    refine zj_if_eq (tgt := 1001) d_La_law_996 (by decide) (fun _ => ?_) (fun h => absurd (lgc _) h)
    refine zj_goto (tgt := 1284) d_La_law_1001 (by decide) ?_
    refine zj_fg (L' := [some (.ref b), some (.ref (ad 0)), some (.ref (ad 80)), some (.ref (ad 93)), some (.int (nI i)), none, none]) rfl fg2 ?_
    exact hK _ _ _ hin2 (Nat.le_refl _) (Nat.le_refl _)
set_option maxRecDepth 100000 in
set_option maxHeartbeats 4000000 in
/-- locked -/
theorem lc_locked (htr : l.stackTraces = false) {b N0 i cs sl : Nat} {xs : Nat → Int32} (hi : i + 6 ≤ N0) (hN0 : N0 ≤ 3073) (hcs : cs ≤ 5000) (hsl : sl ≤ 50000) (hin : lw_in c ad M) (hK : ∀ M' cs' sl', lw_in c ad M' → cs' ≤ cs + 1 → sl' ≤ sl + 6 → bj_Z (sc_I b N0 xs) (bw_G l D c) Y_La_law 12 KL ad QL cs' sl' 1284 [some (.ref b), some (.ref (ad 0)), some (.ref (ad 80)), some (.ref (ad 93)), some (.int (nI i)), none, none] [] M') : bj_Z (sc_I b N0 xs) (bw_G l D c) Y_La_law 12 KL ad QL cs sl 1004 [some (.ref b), some (.ref (ad 0)), some (.ref (ad 80)), some (.ref (ad 93)), some (.int (nI i)), none, none] [] M := by
  obtain ⟨N, op, se, dw, sg, sz, rk, tm, cd, f, hO, hm, h93⟩ := hin
  have hN : N ≤ 8 := hO.1.2.1
  have hps : ∀ but a b, psum sg sz rk tm but a b < 2 ^ 31 := fun but a b => Nat.lt_of_le_of_lt (psum_le (fun j hj => ⟨(hO.1.2.2.2.2.1 j hj).2.1, (hO.1.2.2.2.2.1 j hj).2.2⟩)) (by decide)
  refine zj_aload_n d_La_law_1004 rfl rfl ?_
  refine zj_aload_n d_La_law_1005 rfl rfl ?_
  refine zj_iload d_La_law_1006 rfl ?_
  refine zj_iconst (v := (nI 1)) d_La_law_1008 (by decide) ?_
  refine zj_iadd (v := (nI (i + 1))) d_La_law_1009 (nI_add _ _) ?_
  refine zj_sld d_La_law_1010 (by omega) (by omega) ?_
  refine zj_aload_n d_La_law_1011 rfl rfl ?_
  refine zj_iload d_La_law_1012 rfl ?_
  refine zj_iconst (v := (nI 2)) d_La_law_1014 (by decide) ?_
  refine zj_iadd (v := (nI (i + 2))) d_La_law_1015 (nI_add _ _) ?_
  refine zj_sld d_La_law_1016 (by omega) (by omega) ?_
  refine zj_aload_n d_La_law_1017 rfl rfl ?_
  refine zj_cs ss_La_137 d_La_law_1018 (sc_st _ _ _) (zj_of (t_La_locked l D c ad M (t_Of_locked l D c ad M htr hO) hO.2.1.1 (fun n h => h.1 ▸ le_prC) int_lock (fun M1 h => (h.2 93 (by omega)).trans h93))) rfl rfl (by decide) (by show cs + (1 + 0) ≤ 647849 + 0; omega) (by show sl + (6 + 0) ≤ 7152524 + 0; omega) (Nat.le_of_ble_eq_true rfl) rfl (fun v1 N1 hq1 => ?_) (fun _ _ h => h)
  obtain ⟨k, hk4, rfl, hfr, hmid⟩ := lw_mid h93 hq1 (fun _ h => h) (fun _ h => h)
  have hm1 := hm.kp (M' := N1) (fun q q1 q2 => hfr q (by omega) (by omega))
  obtain ⟨li0, hm1o⟩ := hm1.1
  show bj_Z (sc_I b N0 xs) (bw_G l D c) Y_La_law 12 KL ad QL (cs + 1) (sl + 6) 1021 [some (.ref b), some (.ref (ad 0)), some (.ref (ad 80)), some (.ref (ad 93)), some (.int (nI i)), none, none] [.int (nI k)] N1
  refine zj_istore (L' := [some (.ref b), some (.ref (ad 0)), some (.ref (ad 80)), some (.ref (ad 93)), some (.int (nI i)), some (.int (nI k)), none]) d_La_law_1021 (by decide) rfl ?_
  refine zj_aload_n d_La_law_1023 rfl rfl ?_
  refine zj_aload_n d_La_law_1024 rfl rfl ?_
  refine zj_iload d_La_law_1025 rfl ?_
  refine zj_iconst (v := (nI 1)) d_La_law_1027 (by decide) ?_
  refine zj_iadd (v := (nI (i + 1))) d_La_law_1028 (nI_add _ _) ?_
  refine zj_sld d_La_law_1029 (by omega) (by omega) ?_
  refine zj_aload_n d_La_law_1030 rfl rfl ?_
  refine zj_iload d_La_law_1031 rfl ?_
  refine zj_iconst (v := (nI 2)) d_La_law_1033 (by decide) ?_
  refine zj_iadd (v := (nI (i + 2))) d_La_law_1034 (nI_add _ _) ?_
  refine zj_sld d_La_law_1035 (by omega) (by omega) ?_
  refine zj_cv sv_La_139 d_La_law_1036 (sc_st _ _ _) (zj_of (t_Mo_locked l D c ad N1 hm1 hO.1)) rfl rfl (by decide) (by show cs + 1 + (0 + 0) ≤ 647849 + 0; omega) (by show sl + 6 + (0 + 0) ≤ 7152524 + 0; omega) (Nat.le_of_ble_eq_true rfl) rfl hm1o.1 rfl rfl (fun v2 N2 hq2 => ?_) (fun _ _ h => h)
  obtain ⟨hs, ⟨se1, op1, li, dw1, sg1, sz1, rk1, tm1, hth⟩, hin2, hv⟩ := lw_end (fnl_Rw (fn_lock hN)) hmid hq2 (fun _ _ h => h) (fun _ _ h => h)
  obtain ⟨y, rfl⟩ := hs.1 rfl
  show bj_Z (sc_I b N0 xs) (bw_G l D c) Y_La_law 12 KL ad QL (cs + 1) (sl + 6) 1039 [some (.ref b), some (.ref (ad 0)), some (.ref (ad 80)), some (.ref (ad 93)), some (.int (nI i)), some (.int (nI k)), none] [.int y] N2
  refine zj_istore (L' := [some (.ref b), some (.ref (ad 0)), some (.ref (ad 80)), some (.ref (ad 93)), some (.int (nI i)), some (.int (nI k)), some (.int y)]) d_La_law_1039 (by decide) rfl ?_
  refine zj_aload_n d_La_law_1041 rfl rfl ?_
  refine zj_cv sv_La_89 d_La_law_1042 (sc_st _ _ _) (zj_of (t_Mo_thrown l D c ad N2 hth hN)) rfl rfl (by decide) (by show cs + 1 + 0 + (0 + 0) ≤ 647849 + 0; omega) (by show sl + 6 + 0 + (0 + 0) ≤ 7152524 + 0; omega) (Nat.le_of_ble_eq_true rfl) rfl hth.1 rfl rfl (fun v3 N3 hq3 => ?_) (fun _ _ h => h)
  obtain ⟨rfl, rfl⟩ := hq3
  show bj_Z (sc_I b N0 xs) (bw_G l D c) Y_La_law 12 KL ad QL (cs + 1) (sl + 6) 1045 [some (.ref b), some (.ref (ad 0)), some (.ref (ad 80)), some (.ref (ad 93)), some (.int (nI i)), some (.int (nI k)), some (.int y)] [.int (nI k)] N3
  refine zj_iload d_La_law_1045 rfl ?_
  refine zj_icmp_eqN (tgt := 1052) d_La_law_1047 (by decide) (by omega) (by omega) (fun _ => ?_) (fun h => absurd rfl h)
  refine zj_iload d_La_law_1052 rfl ?_
  refine zj_if_neN (tgt := 1076) d_La_law_1054 (by decide) (by omega) (fun hk0 => ?_) (fun hk0 => ?_)
  · skip
    refine zj_goto (tgt := 1284) d_La_law_1076 (by decide) ?_
    refine zj_fg (L' := [some (.ref b), some (.ref (ad 0)), some (.ref (ad 80)), some (.ref (ad 93)), some (.int (nI i)), none, none]) rfl fg2 ?_
    exact hK _ _ _ hin2 (Nat.le_refl _) (Nat.le_refl _)
  · obtain ⟨x, f2, hR0, hx, h932, hf2⟩ := hv hk0
    cases hx
    refine zj_aload_n d_La_law_1057 rfl rfl ?_
    refine zj_iconst (v := (nI 0)) d_La_law_1058 (by decide) ?_
    refine zj_lald d_La_law_1059 2 rfl h932 rfl (by decide) (by decide) ?_
    rw [hf2]
    refine zj_iload d_La_law_1060 rfl ?_
    obtain ⟨b9, hb9⟩ := int_lock _ hR0
    cases hb9
    refine zj_if_eq (tgt := 1069) d_La_law_1062 (by decide) (fun h0 => ?_) (fun h0 => ?_)
    · refine zj_lconst (v := 0) d_La_law_1069 (by decide) ?_
      refine zj_lcmp d_La_law_1070 ?_
      refine zj_if_eq (tgt := 1076) d_La_law_1071 (by decide) (fun _ => ?_) (fun h => absurd (by rw [bn_0 h0]; exact lgc _) h)
      refine zj_goto (tgt := 1284) d_La_law_1076 (by decide) ?_
      refine zj_fg (L' := [some (.ref b), some (.ref (ad 0)), some (.ref (ad 80)), some (.ref (ad 93)), some (.int (nI i)), none, none]) rfl fg2 ?_
      exact hK _ _ _ hin2 (Nat.le_refl _) (Nat.le_refl _)
    · refine zj_lconst (v := 1) d_La_law_1065 (by decide) ?_
      refine zj_goto (tgt := 1070) d_La_law_1066 (by decide) ?_
      refine zj_lcmp d_La_law_1070 ?_
      refine zj_if_eq (tgt := 1076) d_La_law_1071 (by decide) (fun _ => ?_) (fun h => absurd (by rw [bn_1 h0]; exact lgc _) h)
      refine zj_goto (tgt := 1284) d_La_law_1076 (by decide) ?_
      refine zj_fg (L' := [some (.ref b), some (.ref (ad 0)), some (.ref (ad 80)), some (.ref (ad 93)), some (.int (nI i)), none, none]) rfl fg2 ?_
      exact hK _ _ _ hin2 (Nat.le_refl _) (Nat.le_refl _)
set_option maxRecDepth 100000 in
set_option maxHeartbeats 4000000 in
/-- order -/
theorem lc_order (htr : l.stackTraces = false) {b N0 i cs sl : Nat} {xs : Nat → Int32} (hi : i + 6 ≤ N0) (hN0 : N0 ≤ 3073) (hcs : cs ≤ 5000) (hsl : sl ≤ 50000) (hin : lw_in c ad M) (hK : ∀ M' cs' sl', lw_in c ad M' → cs' ≤ cs + 1 → sl' ≤ sl + 6 → bj_Z (sc_I b N0 xs) (bw_G l D c) Y_La_law 12 KL ad QL cs' sl' 1284 [some (.ref b), some (.ref (ad 0)), some (.ref (ad 80)), some (.ref (ad 93)), some (.int (nI i)), none, none] [] M') : bj_Z (sc_I b N0 xs) (bw_G l D c) Y_La_law 12 KL ad QL cs sl 1079 [some (.ref b), some (.ref (ad 0)), some (.ref (ad 80)), some (.ref (ad 93)), some (.int (nI i)), none, none] [] M := by
  obtain ⟨N, op, se, dw, sg, sz, rk, tm, cd, f, hO, hm, h93⟩ := hin
  have hN : N ≤ 8 := hO.1.2.1
  have hps : ∀ but a b, psum sg sz rk tm but a b < 2 ^ 31 := fun but a b => Nat.lt_of_le_of_lt (psum_le (fun j hj => ⟨(hO.1.2.2.2.2.1 j hj).2.1, (hO.1.2.2.2.2.1 j hj).2.2⟩)) (by decide)
  refine zj_aload_n d_La_law_1079 rfl rfl ?_
  refine zj_aload_n d_La_law_1080 rfl rfl ?_
  refine zj_iload d_La_law_1081 rfl ?_
  refine zj_iconst (v := (nI 1)) d_La_law_1083 (by decide) ?_
  refine zj_iadd (v := (nI (i + 1))) d_La_law_1084 (nI_add _ _) ?_
  refine zj_sld d_La_law_1085 (by omega) (by omega) ?_
  refine zj_aload_n d_La_law_1086 rfl rfl ?_
  refine zj_cs ss_La_140 d_La_law_1087 (sc_st _ _ _) (zj_of (t_La_order l D c ad M (t_Of_order l D c ad M htr hO) hO.2.1.1 (fun n h => le_ord h) (int_ord (by decide)) (fun M1 h => (h.2 93 (by omega)).trans h93))) rfl rfl (by decide) (by show cs + (1 + 0) ≤ 647849 + 0; omega) (by show sl + (6 + 0) ≤ 7152524 + 0; omega) (Nat.le_of_ble_eq_true rfl) rfl (fun v1 N1 hq1 => ?_) (fun _ _ h => h)
  obtain ⟨k, hk4, rfl, hfr, hmid⟩ := lw_mid h93 hq1 (fun _ h => h) (fun _ h => h)
  have hm1 := hm.kp (M' := N1) (fun q q1 q2 => hfr q (by omega) (by omega))
  obtain ⟨li0, hm1o⟩ := hm1.1
  show bj_Z (sc_I b N0 xs) (bw_G l D c) Y_La_law 12 KL ad QL (cs + 1) (sl + 6) 1090 [some (.ref b), some (.ref (ad 0)), some (.ref (ad 80)), some (.ref (ad 93)), some (.int (nI i)), none, none] [.int (nI k)] N1
  refine zj_istore (L' := [some (.ref b), some (.ref (ad 0)), some (.ref (ad 80)), some (.ref (ad 93)), some (.int (nI i)), some (.int (nI k)), none]) d_La_law_1090 (by decide) rfl ?_
  refine zj_aload_n d_La_law_1092 rfl rfl ?_
  refine zj_aload_n d_La_law_1093 rfl rfl ?_
  refine zj_iload d_La_law_1094 rfl ?_
  refine zj_iconst (v := (nI 1)) d_La_law_1096 (by decide) ?_
  refine zj_iadd (v := (nI (i + 1))) d_La_law_1097 (nI_add _ _) ?_
  refine zj_sld d_La_law_1098 (by omega) (by omega) ?_
  refine zj_cv sv_La_142 d_La_law_1099 (sc_st _ _ _) (zj_of (t_Mo_order l D c ad N1 hm1 hO.1)) rfl rfl (by decide) (by show cs + 1 + (0 + 0) ≤ 647849 + 0; omega) (by show sl + 6 + (0 + 0) ≤ 7152524 + 0; omega) (Nat.le_of_ble_eq_true rfl) rfl hm1o.1 rfl rfl (fun v2 N2 hq2 => ?_) (fun _ _ h => h)
  obtain ⟨hs, ⟨se1, op1, li, dw1, sg1, sz1, rk1, tm1, hth⟩, hin2, hv⟩ := lw_end (fnl_ord hN) hmid hq2 (fun _ _ h => h) (fun _ _ h => h)
  obtain ⟨y, rfl⟩ := hs.1 rfl
  show bj_Z (sc_I b N0 xs) (bw_G l D c) Y_La_law 12 KL ad QL (cs + 1) (sl + 6) 1102 [some (.ref b), some (.ref (ad 0)), some (.ref (ad 80)), some (.ref (ad 93)), some (.int (nI i)), some (.int (nI k)), none] [.int y] N2
  refine zj_istore (L' := [some (.ref b), some (.ref (ad 0)), some (.ref (ad 80)), some (.ref (ad 93)), some (.int (nI i)), some (.int (nI k)), some (.int y)]) d_La_law_1102 (by decide) rfl ?_
  refine zj_aload_n d_La_law_1104 rfl rfl ?_
  refine zj_cv sv_La_89 d_La_law_1105 (sc_st _ _ _) (zj_of (t_Mo_thrown l D c ad N2 hth hN)) rfl rfl (by decide) (by show cs + 1 + 0 + (0 + 0) ≤ 647849 + 0; omega) (by show sl + 6 + 0 + (0 + 0) ≤ 7152524 + 0; omega) (Nat.le_of_ble_eq_true rfl) rfl hth.1 rfl rfl (fun v3 N3 hq3 => ?_) (fun _ _ h => h)
  obtain ⟨rfl, rfl⟩ := hq3
  show bj_Z (sc_I b N0 xs) (bw_G l D c) Y_La_law 12 KL ad QL (cs + 1) (sl + 6) 1108 [some (.ref b), some (.ref (ad 0)), some (.ref (ad 80)), some (.ref (ad 93)), some (.int (nI i)), some (.int (nI k)), some (.int y)] [.int (nI k)] N3
  refine zj_iload d_La_law_1108 rfl ?_
  refine zj_icmp_eqN (tgt := 1115) d_La_law_1110 (by decide) (by omega) (by omega) (fun _ => ?_) (fun h => absurd rfl h)
  refine zj_iload d_La_law_1115 rfl ?_
  refine zj_if_neN (tgt := 1132) d_La_law_1117 (by decide) (by omega) (fun hk0 => ?_) (fun hk0 => ?_)
  · skip
    refine zj_goto (tgt := 1284) d_La_law_1132 (by decide) ?_
    refine zj_fg (L' := [some (.ref b), some (.ref (ad 0)), some (.ref (ad 80)), some (.ref (ad 93)), some (.int (nI i)), none, none]) rfl fg2 ?_
    exact hK _ _ _ hin2 (Nat.le_refl _) (Nat.le_refl _)
  · obtain ⟨x, f2, hR0, hx, h932, hf2⟩ := hv hk0
    cases hx
    refine zj_aload_n d_La_law_1120 rfl rfl ?_
    refine zj_iconst (v := (nI 0)) d_La_law_1121 (by decide) ?_
    refine zj_lald d_La_law_1122 2 rfl h932 rfl (by decide) (by decide) ?_
    rw [hf2]
    refine zj_iload d_La_law_1123 rfl ?_
    refine zj_i2l (v := y.toInt64) d_La_law_1125 rfl ?_
    refine zj_lcmp d_La_law_1126 ?_
    refine zj_if_eq (tgt := 1132) d_La_law_1127 (by decide) (fun _ => ?_) (fun h => absurd (lgc _) h)
    refine zj_goto (tgt := 1284) d_La_law_1132 (by decide) ?_
    refine zj_fg (L' := [some (.ref b), some (.ref (ad 0)), some (.ref (ad 80)), some (.ref (ad 93)), some (.int (nI i)), none, none]) rfl fg2 ?_
    exact hK _ _ _ hin2 (Nat.le_refl _) (Nat.le_refl _)
set_option maxRecDepth 100000 in
set_option maxHeartbeats 4000000 in
/-- top -/
theorem lc_top (htr : l.stackTraces = false) {b N0 i cs sl : Nat} {xs : Nat → Int32} (hi : i + 6 ≤ N0) (hN0 : N0 ≤ 3073) (hcs : cs ≤ 5000) (hsl : sl ≤ 50000) (hin : lw_in c ad M) (hK : ∀ M' cs' sl', lw_in c ad M' → cs' ≤ cs + 1 → sl' ≤ sl + 6 → bj_Z (sc_I b N0 xs) (bw_G l D c) Y_La_law 12 KL ad QL cs' sl' 1284 [some (.ref b), some (.ref (ad 0)), some (.ref (ad 80)), some (.ref (ad 93)), some (.int (nI i)), none, none] [] M') : bj_Z (sc_I b N0 xs) (bw_G l D c) Y_La_law 12 KL ad QL cs sl 1135 [some (.ref b), some (.ref (ad 0)), some (.ref (ad 80)), some (.ref (ad 93)), some (.int (nI i)), none, none] [] M := by
  obtain ⟨N, op, se, dw, sg, sz, rk, tm, cd, f, hO, hm, h93⟩ := hin
  have hN : N ≤ 8 := hO.1.2.1
  have hps : ∀ but a b, psum sg sz rk tm but a b < 2 ^ 31 := fun but a b => Nat.lt_of_le_of_lt (psum_le (fun j hj => ⟨(hO.1.2.2.2.2.1 j hj).2.1, (hO.1.2.2.2.2.1 j hj).2.2⟩)) (by decide)
  refine zj_aload_n d_La_law_1135 rfl rfl ?_
  refine zj_aload_n d_La_law_1136 rfl rfl ?_
  refine zj_iload d_La_law_1137 rfl ?_
  refine zj_iconst (v := (nI 1)) d_La_law_1139 (by decide) ?_
  refine zj_iadd (v := (nI (i + 1))) d_La_law_1140 (nI_add _ _) ?_
  refine zj_sld d_La_law_1141 (by omega) (by omega) ?_
  refine zj_aload_n d_La_law_1142 rfl rfl ?_
  refine zj_cs ss_La_143 d_La_law_1143 (sc_st _ _ _) (zj_of (t_La_top l D c ad M (t_Of_top l D c ad M htr hO) hO.2.1.1 (fun n h => le_top h) (int_top (by decide)) (fun M1 h => (h.2 93 (by omega)).trans h93))) rfl rfl (by decide) (by show cs + (1 + 0) ≤ 647849 + 0; omega) (by show sl + (6 + 0) ≤ 7152524 + 0; omega) (Nat.le_of_ble_eq_true rfl) rfl (fun v1 N1 hq1 => ?_) (fun _ _ h => h)
  obtain ⟨k, hk4, rfl, hfr, hmid⟩ := lw_mid h93 hq1 (fun _ h => h) (fun _ h => h)
  have hm1 := hm.kp (M' := N1) (fun q q1 q2 => hfr q (by omega) (by omega))
  obtain ⟨li0, hm1o⟩ := hm1.1
  show bj_Z (sc_I b N0 xs) (bw_G l D c) Y_La_law 12 KL ad QL (cs + 1) (sl + 6) 1146 [some (.ref b), some (.ref (ad 0)), some (.ref (ad 80)), some (.ref (ad 93)), some (.int (nI i)), none, none] [.int (nI k)] N1
  refine zj_istore (L' := [some (.ref b), some (.ref (ad 0)), some (.ref (ad 80)), some (.ref (ad 93)), some (.int (nI i)), some (.int (nI k)), none]) d_La_law_1146 (by decide) rfl ?_
  refine zj_aload_n d_La_law_1148 rfl rfl ?_
  refine zj_aload_n d_La_law_1149 rfl rfl ?_
  refine zj_iload d_La_law_1150 rfl ?_
  refine zj_iconst (v := (nI 1)) d_La_law_1152 (by decide) ?_
  refine zj_iadd (v := (nI (i + 1))) d_La_law_1153 (nI_add _ _) ?_
  refine zj_sld d_La_law_1154 (by omega) (by omega) ?_
  refine zj_cv sv_La_145 d_La_law_1155 (sc_st _ _ _) (zj_of (t_Mo_top l D c ad N1 hm1 hO.1)) rfl rfl (by decide) (by show cs + 1 + (0 + 0) ≤ 647849 + 0; omega) (by show sl + 6 + (0 + 0) ≤ 7152524 + 0; omega) (Nat.le_of_ble_eq_true rfl) rfl hm1o.1 rfl rfl (fun v2 N2 hq2 => ?_) (fun _ _ h => h)
  obtain ⟨hs, ⟨se1, op1, li, dw1, sg1, sz1, rk1, tm1, hth⟩, hin2, hv⟩ := lw_end (fnl_top (fun a b _ _ => hps 12 a b)) hmid hq2 (fun _ _ h => h) (fun _ _ h => h)
  obtain ⟨y, rfl⟩ := hs.1 rfl
  show bj_Z (sc_I b N0 xs) (bw_G l D c) Y_La_law 12 KL ad QL (cs + 1) (sl + 6) 1158 [some (.ref b), some (.ref (ad 0)), some (.ref (ad 80)), some (.ref (ad 93)), some (.int (nI i)), some (.int (nI k)), none] [.int y] N2
  refine zj_istore (L' := [some (.ref b), some (.ref (ad 0)), some (.ref (ad 80)), some (.ref (ad 93)), some (.int (nI i)), some (.int (nI k)), some (.int y)]) d_La_law_1158 (by decide) rfl ?_
  refine zj_aload_n d_La_law_1160 rfl rfl ?_
  refine zj_cv sv_La_89 d_La_law_1161 (sc_st _ _ _) (zj_of (t_Mo_thrown l D c ad N2 hth hN)) rfl rfl (by decide) (by show cs + 1 + 0 + (0 + 0) ≤ 647849 + 0; omega) (by show sl + 6 + 0 + (0 + 0) ≤ 7152524 + 0; omega) (Nat.le_of_ble_eq_true rfl) rfl hth.1 rfl rfl (fun v3 N3 hq3 => ?_) (fun _ _ h => h)
  obtain ⟨rfl, rfl⟩ := hq3
  show bj_Z (sc_I b N0 xs) (bw_G l D c) Y_La_law 12 KL ad QL (cs + 1) (sl + 6) 1164 [some (.ref b), some (.ref (ad 0)), some (.ref (ad 80)), some (.ref (ad 93)), some (.int (nI i)), some (.int (nI k)), some (.int y)] [.int (nI k)] N3
  refine zj_iload d_La_law_1164 rfl ?_
  refine zj_icmp_eqN (tgt := 1171) d_La_law_1166 (by decide) (by omega) (by omega) (fun _ => ?_) (fun h => absurd rfl h)
  refine zj_iload d_La_law_1171 rfl ?_
  refine zj_if_neN (tgt := 1188) d_La_law_1173 (by decide) (by omega) (fun hk0 => ?_) (fun hk0 => ?_)
  · skip
    refine zj_goto (tgt := 1284) d_La_law_1188 (by decide) ?_
    refine zj_fg (L' := [some (.ref b), some (.ref (ad 0)), some (.ref (ad 80)), some (.ref (ad 93)), some (.int (nI i)), none, none]) rfl fg2 ?_
    exact hK _ _ _ hin2 (Nat.le_refl _) (Nat.le_refl _)
  · obtain ⟨x, f2, hR0, hx, h932, hf2⟩ := hv hk0
    cases hx
    refine zj_aload_n d_La_law_1176 rfl rfl ?_
    refine zj_iconst (v := (nI 0)) d_La_law_1177 (by decide) ?_
    refine zj_lald d_La_law_1178 2 rfl h932 rfl (by decide) (by decide) ?_
    rw [hf2]
    refine zj_iload d_La_law_1179 rfl ?_
    refine zj_i2l (v := y.toInt64) d_La_law_1181 rfl ?_
    refine zj_lcmp d_La_law_1182 ?_
    refine zj_if_eq (tgt := 1188) d_La_law_1183 (by decide) (fun _ => ?_) (fun h => absurd (lgc _) h)
    refine zj_goto (tgt := 1284) d_La_law_1188 (by decide) ?_
    refine zj_fg (L' := [some (.ref b), some (.ref (ad 0)), some (.ref (ad 80)), some (.ref (ad 93)), some (.int (nI i)), none, none]) rfl fg2 ?_
    exact hK _ _ _ hin2 (Nat.le_refl _) (Nat.le_refl _)
set_option maxRecDepth 100000 in
set_option maxHeartbeats 4000000 in
/-- without -/
theorem lc_without (htr : l.stackTraces = false) {b N0 i cs sl : Nat} {xs : Nat → Int32} (hi : i + 6 ≤ N0) (hN0 : N0 ≤ 3073) (hcs : cs ≤ 5000) (hsl : sl ≤ 50000) (hin : lw_in c ad M) (hK : ∀ M' cs' sl', lw_in c ad M' → cs' ≤ cs + 1 → sl' ≤ sl + 6 → bj_Z (sc_I b N0 xs) (bw_G l D c) Y_La_law 12 KL ad QL cs' sl' 1284 [some (.ref b), some (.ref (ad 0)), some (.ref (ad 80)), some (.ref (ad 93)), some (.int (nI i)), none, none] [] M') : bj_Z (sc_I b N0 xs) (bw_G l D c) Y_La_law 12 KL ad QL cs sl 1191 [some (.ref b), some (.ref (ad 0)), some (.ref (ad 80)), some (.ref (ad 93)), some (.int (nI i)), none, none] [] M := by
  obtain ⟨N, op, se, dw, sg, sz, rk, tm, cd, f, hO, hm, h93⟩ := hin
  have hN : N ≤ 8 := hO.1.2.1
  have hps : ∀ but a b, psum sg sz rk tm but a b < 2 ^ 31 := fun but a b => Nat.lt_of_le_of_lt (psum_le (fun j hj => ⟨(hO.1.2.2.2.2.1 j hj).2.1, (hO.1.2.2.2.2.1 j hj).2.2⟩)) (by decide)
  refine zj_aload_n d_La_law_1191 rfl rfl ?_
  refine zj_aload_n d_La_law_1192 rfl rfl ?_
  refine zj_iload d_La_law_1193 rfl ?_
  refine zj_iconst (v := (nI 1)) d_La_law_1195 (by decide) ?_
  refine zj_iadd (v := (nI (i + 1))) d_La_law_1196 (nI_add _ _) ?_
  refine zj_sld d_La_law_1197 (by omega) (by omega) ?_
  refine zj_aload_n d_La_law_1198 rfl rfl ?_
  refine zj_iload d_La_law_1199 rfl ?_
  refine zj_iconst (v := (nI 2)) d_La_law_1201 (by decide) ?_
  refine zj_iadd (v := (nI (i + 2))) d_La_law_1202 (nI_add _ _) ?_
  refine zj_sld d_La_law_1203 (by omega) (by omega) ?_
  refine zj_aload_n d_La_law_1204 rfl rfl ?_
  refine zj_iload d_La_law_1205 rfl ?_
  refine zj_iconst (v := (nI 3)) d_La_law_1207 (by decide) ?_
  refine zj_iadd (v := (nI (i + 3))) d_La_law_1208 (nI_add _ _) ?_
  refine zj_sld d_La_law_1209 (by omega) (by omega) ?_
  refine zj_aload_n d_La_law_1210 rfl rfl ?_
  refine zj_cs ss_La_146 d_La_law_1211 (sc_st _ _ _) (zj_of (t_La_without l D c ad M (t_Of_without l D c ad M htr hO) hO.2.1.1 (fun n h => le_with h) int_with (fun M1 h => (h.2 93 (by omega)).trans h93))) rfl rfl (by decide) (by show cs + (1 + 0) ≤ 647849 + 0; omega) (by show sl + (6 + 0) ≤ 7152524 + 0; omega) (Nat.le_of_ble_eq_true rfl) rfl (fun v1 N1 hq1 => ?_) (fun _ _ h => h)
  obtain ⟨k, hk4, rfl, hfr, hmid⟩ := lw_mid h93 hq1 (fun _ h => h) (fun _ h => h)
  have hm1 := hm.kp (M' := N1) (fun q q1 q2 => hfr q (by omega) (by omega))
  obtain ⟨li0, hm1o⟩ := hm1.1
  show bj_Z (sc_I b N0 xs) (bw_G l D c) Y_La_law 12 KL ad QL (cs + 1) (sl + 6) 1214 [some (.ref b), some (.ref (ad 0)), some (.ref (ad 80)), some (.ref (ad 93)), some (.int (nI i)), none, none] [.int (nI k)] N1
  refine zj_istore (L' := [some (.ref b), some (.ref (ad 0)), some (.ref (ad 80)), some (.ref (ad 93)), some (.int (nI i)), some (.int (nI k)), none]) d_La_law_1214 (by decide) rfl ?_
  refine zj_aload_n d_La_law_1216 rfl rfl ?_
  refine zj_aload_n d_La_law_1217 rfl rfl ?_
  refine zj_iload d_La_law_1218 rfl ?_
  refine zj_iconst (v := (nI 1)) d_La_law_1220 (by decide) ?_
  refine zj_iadd (v := (nI (i + 1))) d_La_law_1221 (nI_add _ _) ?_
  refine zj_sld d_La_law_1222 (by omega) (by omega) ?_
  refine zj_aload_n d_La_law_1223 rfl rfl ?_
  refine zj_iload d_La_law_1224 rfl ?_
  refine zj_iconst (v := (nI 2)) d_La_law_1226 (by decide) ?_
  refine zj_iadd (v := (nI (i + 2))) d_La_law_1227 (nI_add _ _) ?_
  refine zj_sld d_La_law_1228 (by omega) (by omega) ?_
  refine zj_aload_n d_La_law_1229 rfl rfl ?_
  refine zj_iload d_La_law_1230 rfl ?_
  refine zj_iconst (v := (nI 3)) d_La_law_1232 (by decide) ?_
  refine zj_iadd (v := (nI (i + 3))) d_La_law_1233 (nI_add _ _) ?_
  refine zj_sld d_La_law_1234 (by omega) (by omega) ?_
  refine zj_cv sv_La_148 d_La_law_1235 (sc_st _ _ _) (zj_of (t_Mo_without l D c ad N1 hm1 hO.1)) rfl rfl (by decide) (by show cs + 1 + (0 + 0) ≤ 647849 + 0; omega) (by show sl + 6 + (0 + 0) ≤ 7152524 + 0; omega) (Nat.le_of_ble_eq_true rfl) rfl hm1o.1 rfl rfl (fun v2 N2 hq2 => ?_) (fun _ _ h => h)
  obtain ⟨hs, ⟨se1, op1, li, dw1, sg1, sz1, rk1, tm1, hth⟩, hin2, hv⟩ := lw_end (fnl_with hN (fun but a b _ _ => hps but a b)) hmid hq2 (fun _ _ h => h) (fun _ _ h => h)
  obtain ⟨y, rfl⟩ := hs.1 rfl
  show bj_Z (sc_I b N0 xs) (bw_G l D c) Y_La_law 12 KL ad QL (cs + 1) (sl + 6) 1238 [some (.ref b), some (.ref (ad 0)), some (.ref (ad 80)), some (.ref (ad 93)), some (.int (nI i)), some (.int (nI k)), none] [.int y] N2
  refine zj_istore (L' := [some (.ref b), some (.ref (ad 0)), some (.ref (ad 80)), some (.ref (ad 93)), some (.int (nI i)), some (.int (nI k)), some (.int y)]) d_La_law_1238 (by decide) rfl ?_
  refine zj_aload_n d_La_law_1240 rfl rfl ?_
  refine zj_cv sv_La_89 d_La_law_1241 (sc_st _ _ _) (zj_of (t_Mo_thrown l D c ad N2 hth hN)) rfl rfl (by decide) (by show cs + 1 + 0 + (0 + 0) ≤ 647849 + 0; omega) (by show sl + 6 + 0 + (0 + 0) ≤ 7152524 + 0; omega) (Nat.le_of_ble_eq_true rfl) rfl hth.1 rfl rfl (fun v3 N3 hq3 => ?_) (fun _ _ h => h)
  obtain ⟨rfl, rfl⟩ := hq3
  show bj_Z (sc_I b N0 xs) (bw_G l D c) Y_La_law 12 KL ad QL (cs + 1) (sl + 6) 1244 [some (.ref b), some (.ref (ad 0)), some (.ref (ad 80)), some (.ref (ad 93)), some (.int (nI i)), some (.int (nI k)), some (.int y)] [.int (nI k)] N3
  refine zj_iload d_La_law_1244 rfl ?_
  refine zj_icmp_eqN (tgt := 1251) d_La_law_1246 (by decide) (by omega) (by omega) (fun _ => ?_) (fun h => absurd rfl h)
  refine zj_iload d_La_law_1251 rfl ?_
  refine zj_if_neN (tgt := 1268) d_La_law_1253 (by decide) (by omega) (fun hk0 => ?_) (fun hk0 => ?_)
  · skip
    refine zj_goto (tgt := 1284) d_La_law_1268 (by decide) ?_
    refine zj_fg (L' := [some (.ref b), some (.ref (ad 0)), some (.ref (ad 80)), some (.ref (ad 93)), some (.int (nI i)), none, none]) rfl fg2 ?_
    exact hK _ _ _ hin2 (Nat.le_refl _) (Nat.le_refl _)
  · obtain ⟨x, f2, hR0, hx, h932, hf2⟩ := hv hk0
    cases hx
    refine zj_aload_n d_La_law_1256 rfl rfl ?_
    refine zj_iconst (v := (nI 0)) d_La_law_1257 (by decide) ?_
    refine zj_lald d_La_law_1258 2 rfl h932 rfl (by decide) (by decide) ?_
    rw [hf2]
    refine zj_iload d_La_law_1259 rfl ?_
    refine zj_i2l (v := y.toInt64) d_La_law_1261 rfl ?_
    refine zj_lcmp d_La_law_1262 ?_
    refine zj_if_eq (tgt := 1268) d_La_law_1263 (by decide) (fun _ => ?_) (fun h => absurd (lgc _) h)
    refine zj_goto (tgt := 1284) d_La_law_1268 (by decide) ?_
    refine zj_fg (L' := [some (.ref b), some (.ref (ad 0)), some (.ref (ad 80)), some (.ref (ad 93)), some (.int (nI i)), none, none]) rfl fg2 ?_
    exact hK _ _ _ hin2 (Nat.le_refl _) (Nat.le_refl _)
set_option maxRecDepth 100000 in
set_option maxHeartbeats 4000000 in
/-- seal -/
theorem lc_seal (htr : l.stackTraces = false) {b N0 i cs sl : Nat} {xs : Nat → Int32} (hi : i + 6 ≤ N0) (hN0 : N0 ≤ 3073) (hcs : cs ≤ 5000) (hsl : sl ≤ 50000) (hin : lw_in c ad M) (hK : ∀ M' cs' sl', lw_in c ad M' → cs' ≤ cs + 1 → sl' ≤ sl + 6 → bj_Z (sc_I b N0 xs) (bw_G l D c) Y_La_law 12 KL ad QL cs' sl' 1284 [some (.ref b), some (.ref (ad 0)), some (.ref (ad 80)), some (.ref (ad 93)), some (.int (nI i)), none, none] [] M') : bj_Z (sc_I b N0 xs) (bw_G l D c) Y_La_law 12 KL ad QL cs sl 1271 [some (.ref b), some (.ref (ad 0)), some (.ref (ad 80)), some (.ref (ad 93)), some (.int (nI i)), none, none] [] M := by
  obtain ⟨N, op, se, dw, sg, sz, rk, tm, cd, f, hO, hm, h93⟩ := hin
  have hN : N ≤ 8 := hO.1.2.1
  refine zj_aload_n d_La_law_1271 rfl rfl ?_
  refine zj_cv sv_La_149 d_La_law_1272 (sc_st _ _ _) (zj_of (t_Of_seal l D c ad M htr hO)) rfl rfl (by decide) (by show cs + (0 + 1) ≤ 647849 + 0; omega) (by show sl + (0 + 6) ≤ 7152524 + 0; omega) (Nat.le_of_ble_eq_true rfl) rfl hO.2.1.1 rfl rfl (fun v1 N1 hq1 => ?_) (fun _ _ h => by obtain ⟨n, hn, -, hR, -⟩ := h; exact hn hR.1)
  obtain ⟨⟨-, rfl⟩, hO1, hfr⟩ := hq1
  have hm1 := hm.kp (M' := N1) (fun q q1 q2 => hfr q (by omega))
  obtain ⟨li0, hm1o⟩ := hm1.1
  show bj_Z (sc_I b N0 xs) (bw_G l D c) Y_La_law 12 KL ad QL cs sl 1275 [some (.ref b), some (.ref (ad 0)), some (.ref (ad 80)), some (.ref (ad 93)), some (.int (nI i)), none, none] [.int (bt_n (!se))] N1
  refine zj_aload_n d_La_law_1275 rfl rfl ?_
  refine zj_cv sv_La_153 d_La_law_1276 (sc_st _ _ _) (zj_of (t_Mo_seal l D c ad N1 hm1 hO.1)) rfl rfl (by decide) (by show cs + (0 + 0) ≤ 647849 + 0; omega) (by show sl + (0 + 0) ≤ 7152524 + 0; omega) (Nat.le_of_ble_eq_true rfl) rfl hm1o.1 rfl rfl (fun v2 N2 hq2 => ?_) (fun _ _ h => h)
  obtain ⟨k, hR, hS, -, hs⟩ := hq2
  obtain ⟨rfl, hr⟩ := hR
  rw [if_pos rfl] at hS hr
  rw [if_pos rfl] at hr
  subst hr
  obtain ⟨hin2, -, -⟩ := lw_mo (cd := 0) hO1 ((hfr 93 (by omega)).trans h93) hS
  show bj_Z (sc_I b N0 xs) (bw_G l D c) Y_La_law 12 KL ad QL cs sl 1279 [some (.ref b), some (.ref (ad 0)), some (.ref (ad 80)), some (.ref (ad 93)), some (.int (nI i)), none, none] [.int (bt_n (!se)), .int (bt_n (!se))] N2
  refine zj_icmp_eq (tgt := 1284) d_La_law_1279 (by decide) (fun _ => ?_) (fun h => absurd rfl h)
  exact hK _ _ _ hin2 (by omega) (by omega)
end LW
