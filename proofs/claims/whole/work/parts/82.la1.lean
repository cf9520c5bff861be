/-! the law's own methods that catch (walks by gen/m_la1.py); each over any post of the office's method that it calls -/
section LA
theorem nc_SA : Cond.not (.castable "java/lang/IllegalStateException" "java/lang/IllegalArgumentException") ∈ bw_TB := bw_e (i := 2) (by decide +kernel)
theorem nc_IA : Cond.not (.castable "java/lang/IndexOutOfBoundsException" "java/lang/IllegalArgumentException") ∈ bw_TB := bw_e (i := 3) (by decide +kernel)
theorem nc_AS : Cond.not (.castable "java/lang/IllegalArgumentException" "java/lang/IllegalStateException") ∈ bw_TB := bw_e (i := 4) (by decide +kernel)
theorem nc_IS : Cond.not (.castable "java/lang/IndexOutOfBoundsException" "java/lang/IllegalStateException") ∈ bw_TB := bw_e (i := 5) (by decide +kernel)
theorem nc_AI : Cond.not (.castable "java/lang/IllegalArgumentException" "java/lang/IndexOutOfBoundsException") ∈ bw_TB := bw_e (i := 6) (by decide +kernel)
theorem nc_SI : Cond.not (.castable "java/lang/IllegalStateException" "java/lang/IndexOutOfBoundsException") ∈ bw_TB := bw_e (i := 7) (by decide +kernel)
/-- an answer kept, or a code -/
def q_wr (c : Nat → ClassId) (R : Nat → Option Value → Prop) (Gd Bd : bj_M → Prop) (f : Nat → Int64) : bj_R → bj_M → Prop := bj_ret (fun r M' => ∃ k, k < 4 ∧ r = some (.int (nI k)) ∧ ((k = 0 ∧ ∃ x M1, R 0 (some (.int x)) ∧ Gd M1 ∧ M' = va_up M1 93 (some (.inl (c 2, 1, .inr (.inl (va_up f 0 x.toInt64)))))) ∨ (k ≠ 0 ∧ R k none ∧ Bd M')))
def q_wv (R : Nat → Option Value → Prop) (Gd Bd : bj_M → Prop) : bj_R → bj_M → Prop := bj_ret (fun r M' => ∃ k, k < 4 ∧ r = some (.int (nI k)) ∧ ((k = 0 ∧ R 0 none ∧ Gd M') ∨ (k ≠ 0 ∧ R k none ∧ Bd M')))
theorem bn_1 {b : Bool} (h : ¬ bt_n b = 0) : (1 : Int64) = (bt_n b).toInt64 := by rw [bt_nn h]; decide
theorem bn_0 {b : Bool} (h : bt_n b = 0) : (0 : Int64) = (bt_n b).toInt64 := by rw [bt_n0.mp h]; decide
variable (l : Launch) (D : va_G) (c : Nat → ClassId) (ad : Nat → Nat) (M : bj_M)
set_option maxRecDepth 100000 in
set_option maxHeartbeats 4000000 in
/-- tie -/
theorem t_La_tie {R : Nat → Option Value → Prop} {Gd Bd : bj_M → Prop} {fs : List Value} {x1 x2 : Int32} (hT : bj_T (bw_G l D c) Y_Of_tie 8 (0, 0, 1, 6) ad (q_pub [xA, xS] R Gd Bd) [.ref (ad 0), .int x1, .int x2] M) (hO : M 0 = some (.inr (4, fs))) (hle : ∀ n, R n none → n ≤ 2) (hvd : ∀ v, R 0 v → v = none) : bj_T (bw_G l D c) Y_La_tie 9 (1, 6, 0, 0) ad (q_wv R Gd Bd) [.ref (ad 0), .int x1, .int x2] M := by
  show bj_S _ _ _ _ _ _ 0 0 0 [some (.ref (ad 0)), some (.int x1), some (.int x2), none] [] M
  refine bj_aload_n d_La_tie_0 rfl rfl ?_
  refine bj_iload_n d_La_tie_1 rfl rfl ?_
  refine bj_iload_n d_La_tie_2 rfl rfl ?_
  refine bj_cv sv_La_7 d_La_tie_3 hT rfl rfl (by decide) (by decide) (by decide) (Nat.le_of_ble_eq_true rfl) rfl hO rfl rfl (fun v1 N1 hq1 => ?_) (fun v1 N1 hq1 => ?_)
  rotate_left
  · obtain ⟨n, hn0, rfl, hRn, hBd⟩ := hq1
    have hl := hle n hRn
    have hn9 : n = 1 ∨ n = 2 := by omega
    rcases hn9 with rfl | rfl
    · show bj_X _ _ _ _ _ _ 1 6 _ _ "java/lang/IllegalArgumentException" _
      refine bj_catch [] ⟨0, 6, 9, 13⟩ "java/lang/IllegalArgumentException" [⟨0, 6, 12, 15⟩] rfl (fun z hz => nomatch hz) rfl ⟨by decide, wc_La_13, wz_176⟩ (fun q => ?_)
      show bj_S (bw_G l D c) Y_La_tie 9 (1, 6, 0, 0) ad (q_wv R Gd Bd) 1 6 9 [some (.ref (ad 0)), some (.int x1), some (.int x2), none] [.ref q] N1
      refine bj_astore_n (L' := [some (.ref (ad 0)), some (.int x1), some (.int x2), some (.ref q)]) d_La_tie_9 rfl (by decide) rfl ?_
      refine bj_iconst (v := (nI 1)) d_La_tie_10 (by decide) ?_
      exact bj_iret d_La_tie_11 rfl rfl (by decide) (by decide) ⟨1, by decide, rfl, Or.inr ⟨by decide, hRn, hBd⟩⟩
    · show bj_X _ _ _ _ _ _ 1 6 _ _ "java/lang/IllegalStateException" _
      refine bj_catch [(⟨0, 6, 9, 13⟩, "java/lang/IllegalArgumentException")] ⟨0, 6, 12, 15⟩ "java/lang/IllegalStateException" [] rfl (fun z hz => by
          simp only [List.mem_cons, List.not_mem_nil, or_false] at hz
          subst hz
          exact ⟨rfl, by decide, wc_La_13, nc_SA⟩) rfl ⟨by decide, wc_La_15, wz_249⟩ (fun q => ?_)
      show bj_S (bw_G l D c) Y_La_tie 9 (1, 6, 0, 0) ad (q_wv R Gd Bd) 1 6 12 [some (.ref (ad 0)), some (.int x1), some (.int x2), none] [.ref q] N1
      refine bj_astore_n (L' := [some (.ref (ad 0)), some (.int x1), some (.int x2), some (.ref q)]) d_La_tie_12 rfl (by decide) rfl ?_
      refine bj_iconst (v := (nI 2)) d_La_tie_13 (by decide) ?_
      exact bj_iret d_La_tie_14 rfl rfl (by decide) (by decide) ⟨2, by decide, rfl, Or.inr ⟨by decide, hRn, hBd⟩⟩
  obtain ⟨hR, hG⟩ := hq1
  have hv := hvd _ hR
  subst hv
  show bj_S (bw_G l D c) Y_La_tie 9 (1, 6, 0, 0) ad (q_wv R Gd Bd) 0 0 6 [some (.ref (ad 0)), some (.int x1), some (.int x2), none] [] N1
  refine bj_goto (tgt := 15) d_La_tie_6 (by decide) ?_
  refine bj_iconst (v := (nI 0)) d_La_tie_15 (by decide) ?_
  exact bj_iret d_La_tie_16 rfl rfl (by decide) (by decide) ⟨0, by decide, rfl, Or.inl ⟨rfl, hR, hG⟩⟩
set_option maxRecDepth 100000 in
set_option maxHeartbeats 4000000 in
/-- drawn -/
theorem t_La_drawn {R : Nat → Option Value → Prop} {Gd Bd : bj_M → Prop} {fs : List Value} {x1 : Int32} (hT : bj_T (bw_G l D c) Y_Of_drawn 8 (0, 0, 1, 6) ad (q_pub [xI] R Gd Bd) [.ref (ad 0), .int x1] M) (hO : M 0 = some (.inr (4, fs))) (hle : ∀ n, R n none → n ≤ 1) {f : Nat → Int64} (hint : ∀ v, R 0 v → ∃ x, v = some (.int x)) (h93 : ∀ M1, Gd M1 → M1 93 = some (.inl (c 2, 1, .inr (.inl f)))) : bj_T (bw_G l D c) Y_La_drawn 9 (1, 6, 0, 0) ad (q_wr c R Gd Bd f) [.ref (ad 0), .int x1, .ref (ad 93)] M := by
  show bj_S _ _ _ _ _ _ 0 0 0 [some (.ref (ad 0)), some (.int x1), some (.ref (ad 93)), none] [] M
  refine bj_aload_n d_La_drawn_0 rfl rfl ?_
  refine bj_iconst (v := (nI 0)) d_La_drawn_1 (by decide) ?_
  refine bj_aload_n d_La_drawn_2 rfl rfl ?_
  refine bj_iload_n d_La_drawn_3 rfl rfl ?_
  refine bj_cv sv_La_17 d_La_drawn_4 hT rfl rfl (by decide) (by decide) (by decide) (Nat.le_of_ble_eq_true rfl) rfl hO rfl rfl (fun v1 N1 hq1 => ?_) (fun v1 N1 hq1 => ?_)
  rotate_left
  · obtain ⟨n, hn0, rfl, hRn, hBd⟩ := hq1
    have hl := hle n hRn
    have hn9 : n = 1 := by omega
    subst hn9
    · show bj_X _ _ _ _ _ _ 1 6 _ _ "java/lang/IndexOutOfBoundsException" _
      refine bj_catch [] ⟨0, 9, 12, 21⟩ "java/lang/IndexOutOfBoundsException" [] rfl (fun z hz => nomatch hz) rfl ⟨by decide, wc_La_21, wz_278⟩ (fun q => ?_)
      show bj_S (bw_G l D c) Y_La_drawn 9 (1, 6, 0, 0) ad (q_wr c R Gd Bd f) 1 6 12 [some (.ref (ad 0)), some (.int x1), some (.ref (ad 93)), none] [.ref q] N1
      refine bj_astore_n (L' := [some (.ref (ad 0)), some (.int x1), some (.ref (ad 93)), some (.ref q)]) d_La_drawn_12 rfl (by decide) rfl ?_
      refine bj_iconst (v := (nI 1)) d_La_drawn_13 (by decide) ?_
      exact bj_iret d_La_drawn_14 rfl rfl (by decide) (by decide) ⟨1, by decide, rfl, Or.inr ⟨by decide, hRn, hBd⟩⟩
  obtain ⟨hR, hG⟩ := hq1
  obtain ⟨x9, rfl⟩ := hint _ hR
  show bj_S (bw_G l D c) Y_La_drawn 9 (1, 6, 0, 0) ad (q_wr c R Gd Bd f) 0 0 7 [some (.ref (ad 0)), some (.int x1), some (.ref (ad 93)), none] [.int x9, .int (nI 0), .ref (ad 93)] N1
  refine bj_i2l d_La_drawn_7 rfl ?_
  refine bj_last (j := 0) d_La_drawn_8 2 rfl (h93 _ hG) rfl (by decide) (by decide) ?_
  refine bj_goto (tgt := 15) d_La_drawn_9 (by decide) ?_
  refine bj_iconst (v := (nI 0)) d_La_drawn_15 (by decide) ?_
  exact bj_iret d_La_drawn_16 rfl rfl (by decide) (by decide) ⟨0, by decide, rfl, Or.inl ⟨rfl, x9, N1, hR, hG, rfl⟩⟩
set_option maxRecDepth 100000 in
set_option maxHeartbeats 4000000 in
/-- open -/
theorem t_La_open {R : Nat → Option Value → Prop} {Gd Bd : bj_M → Prop} {fs : List Value} (hT : bj_T (bw_G l D c) Y_Of_open 8 (0, 0, 1, 6) ad (q_pub [xS] R Gd Bd) [.ref (ad 0)] M) (hO : M 0 = some (.inr (4, fs))) (hle : ∀ n, R n none → n ≤ 1) {f : Nat → Int64} (hint : ∀ v, R 0 v → ∃ x, v = some (.int x)) (h93 : ∀ M1, Gd M1 → M1 93 = some (.inl (c 2, 1, .inr (.inl f)))) : bj_T (bw_G l D c) Y_La_open 9 (1, 6, 0, 0) ad (q_wr c R Gd Bd f) [.ref (ad 0), .ref (ad 93)] M := by
  show bj_S _ _ _ _ _ _ 0 0 0 [some (.ref (ad 0)), some (.ref (ad 93)), none] [] M
  refine bj_aload_n d_La_open_0 rfl rfl ?_
  refine bj_iconst (v := (nI 0)) d_La_open_1 (by decide) ?_
  refine bj_aload_n d_La_open_2 rfl rfl ?_
  refine bj_cv sv_La_23 d_La_open_3 hT rfl rfl (by decide) (by decide) (by decide) (Nat.le_of_ble_eq_true rfl) rfl hO rfl rfl (fun v1 N1 hq1 => ?_) (fun v1 N1 hq1 => ?_)
  rotate_left
  · obtain ⟨n, hn0, rfl, hRn, hBd⟩ := hq1
    have hl := hle n hRn
    have hn9 : n = 1 := by omega
    subst hn9
    · show bj_X _ _ _ _ _ _ 1 6 _ _ "java/lang/IllegalStateException" _
      refine bj_catch [] ⟨0, 8, 11, 15⟩ "java/lang/IllegalStateException" [] rfl (fun z hz => nomatch hz) rfl ⟨by decide, wc_La_15, wz_249⟩ (fun q => ?_)
      show bj_S (bw_G l D c) Y_La_open 9 (1, 6, 0, 0) ad (q_wr c R Gd Bd f) 1 6 11 [some (.ref (ad 0)), some (.ref (ad 93)), none] [.ref q] N1
      refine bj_astore_n (L' := [some (.ref (ad 0)), some (.ref (ad 93)), some (.ref q)]) d_La_open_11 rfl (by decide) rfl ?_
      refine bj_iconst (v := (nI 1)) d_La_open_12 (by decide) ?_
      exact bj_iret d_La_open_13 rfl rfl (by decide) (by decide) ⟨1, by decide, rfl, Or.inr ⟨by decide, hRn, hBd⟩⟩
  obtain ⟨hR, hG⟩ := hq1
  obtain ⟨x9, rfl⟩ := hint _ hR
  show bj_S (bw_G l D c) Y_La_open 9 (1, 6, 0, 0) ad (q_wr c R Gd Bd f) 0 0 6 [some (.ref (ad 0)), some (.ref (ad 93)), none] [.int x9, .int (nI 0), .ref (ad 93)] N1
  refine bj_i2l d_La_open_6 rfl ?_
  refine bj_last (j := 0) d_La_open_7 2 rfl (h93 _ hG) rfl (by decide) (by decide) ?_
  refine bj_goto (tgt := 14) d_La_open_8 (by decide) ?_
  refine bj_iconst (v := (nI 0)) d_La_open_14 (by decide) ?_
  exact bj_iret d_La_open_15 rfl rfl (by decide) (by decide) ⟨0, by decide, rfl, Or.inl ⟨rfl, x9, N1, hR, hG, rfl⟩⟩
set_option maxRecDepth 100000 in
set_option maxHeartbeats 4000000 in
/-- ballot -/
theorem t_La_ballot {R : Nat → Option Value → Prop} {Gd Bd : bj_M → Prop} {fs : List Value} {x1 x2 x3 : Int32} (hT : bj_T (bw_G l D c) Y_Of_ballot 8 (0, 0, 1, 6) ad (q_pub [xA, xS] R Gd Bd) [.ref (ad 0), .int x1, .int x2, .int x3] M) (hO : M 0 = some (.inr (4, fs))) (hle : ∀ n, R n none → n ≤ 2) {f : Nat → Int64} (hint : ∀ v, R 0 v → ∃ x, v = some (.int x)) (h93 : ∀ M1, Gd M1 → M1 93 = some (.inl (c 2, 1, .inr (.inl f)))) : bj_T (bw_G l D c) Y_La_ballot 9 (1, 6, 0, 0) ad (q_wr c R Gd Bd f) [.ref (ad 0), .int x1, .int x2, .int x3, .ref (ad 93)] M := by
  show bj_S _ _ _ _ _ _ 0 0 0 [some (.ref (ad 0)), some (.int x1), some (.int x2), some (.int x3), some (.ref (ad 93)), none] [] M
  refine bj_aload d_La_ballot_0 rfl ?_
  refine bj_iconst (v := (nI 0)) d_La_ballot_2 (by decide) ?_
  refine bj_aload_n d_La_ballot_3 rfl rfl ?_
  refine bj_iload_n d_La_ballot_4 rfl rfl ?_
  refine bj_iload_n d_La_ballot_5 rfl rfl ?_
  refine bj_iload_n d_La_ballot_6 rfl rfl ?_
  refine bj_cv sv_La_27 d_La_ballot_7 hT rfl rfl (by decide) (by decide) (by decide) (Nat.le_of_ble_eq_true rfl) rfl hO rfl rfl (fun v1 N1 hq1 => ?_) (fun v1 N1 hq1 => ?_)
  rotate_left
  · obtain ⟨n, hn0, rfl, hRn, hBd⟩ := hq1
    have hl := hle n hRn
    have hn9 : n = 1 ∨ n = 2 := by omega
    rcases hn9 with rfl | rfl
    · show bj_X _ _ _ _ _ _ 1 6 _ _ "java/lang/IllegalArgumentException" _
      refine bj_catch [] ⟨0, 12, 15, 13⟩ "java/lang/IllegalArgumentException" [⟨0, 12, 19, 15⟩] rfl (fun z hz => nomatch hz) rfl ⟨by decide, wc_La_13, wz_176⟩ (fun q => ?_)
      show bj_S (bw_G l D c) Y_La_ballot 9 (1, 6, 0, 0) ad (q_wr c R Gd Bd f) 1 6 15 [some (.ref (ad 0)), some (.int x1), some (.int x2), some (.int x3), some (.ref (ad 93)), none] [.ref q] N1
      refine bj_astore (L' := [some (.ref (ad 0)), some (.int x1), some (.int x2), some (.int x3), some (.ref (ad 93)), some (.ref q)]) d_La_ballot_15 (by decide) rfl ?_
      refine bj_iconst (v := (nI 1)) d_La_ballot_17 (by decide) ?_
      exact bj_iret d_La_ballot_18 rfl rfl (by decide) (by decide) ⟨1, by decide, rfl, Or.inr ⟨by decide, hRn, hBd⟩⟩
    · show bj_X _ _ _ _ _ _ 1 6 _ _ "java/lang/IllegalStateException" _
      refine bj_catch [(⟨0, 12, 15, 13⟩, "java/lang/IllegalArgumentException")] ⟨0, 12, 19, 15⟩ "java/lang/IllegalStateException" [] rfl (fun z hz => by
          simp only [List.mem_cons, List.not_mem_nil, or_false] at hz
          subst hz
          exact ⟨rfl, by decide, wc_La_13, nc_SA⟩) rfl ⟨by decide, wc_La_15, wz_249⟩ (fun q => ?_)
      show bj_S (bw_G l D c) Y_La_ballot 9 (1, 6, 0, 0) ad (q_wr c R Gd Bd f) 1 6 19 [some (.ref (ad 0)), some (.int x1), some (.int x2), some (.int x3), some (.ref (ad 93)), none] [.ref q] N1
      refine bj_astore (L' := [some (.ref (ad 0)), some (.int x1), some (.int x2), some (.int x3), some (.ref (ad 93)), some (.ref q)]) d_La_ballot_19 (by decide) rfl ?_
      refine bj_iconst (v := (nI 2)) d_La_ballot_21 (by decide) ?_
      exact bj_iret d_La_ballot_22 rfl rfl (by decide) (by decide) ⟨2, by decide, rfl, Or.inr ⟨by decide, hRn, hBd⟩⟩
  obtain ⟨hR, hG⟩ := hq1
  obtain ⟨x9, rfl⟩ := hint _ hR
  show bj_S (bw_G l D c) Y_La_ballot 9 (1, 6, 0, 0) ad (q_wr c R Gd Bd f) 0 0 10 [some (.ref (ad 0)), some (.int x1), some (.int x2), some (.int x3), some (.ref (ad 93)), none] [.int x9, .int (nI 0), .ref (ad 93)] N1
  refine bj_i2l d_La_ballot_10 rfl ?_
  refine bj_last (j := 0) d_La_ballot_11 2 rfl (h93 _ hG) rfl (by decide) (by decide) ?_
  refine bj_goto (tgt := 23) d_La_ballot_12 (by decide) ?_
  refine bj_iconst (v := (nI 0)) d_La_ballot_23 (by decide) ?_
  exact bj_iret d_La_ballot_24 rfl rfl (by decide) (by decide) ⟨0, by decide, rfl, Or.inl ⟨rfl, x9, N1, hR, hG, rfl⟩⟩
set_option maxRecDepth 100000 in
set_option maxHeartbeats 4000000 in
/-- turn -/
theorem t_La_turn {R : Nat → Option Value → Prop} {Gd Bd : bj_M → Prop} {fs : List Value} {x1 x2 : Int32} (hT : bj_T (bw_G l D c) Y_Of_turn 8 (0, 0, 1, 6) ad (q_pub [xA, xS] R Gd Bd) [.ref (ad 0), .int x1, .int x2] M) (hO : M 0 = some (.inr (4, fs))) (hle : ∀ n, R n none → n ≤ 2) (hvd : ∀ v, R 0 v → v = none) : bj_T (bw_G l D c) Y_La_turn 9 (1, 6, 0, 0) ad (q_wv R Gd Bd) [.ref (ad 0), .int x1, .int x2] M := by
  show bj_S _ _ _ _ _ _ 0 0 0 [some (.ref (ad 0)), some (.int x1), some (.int x2), none] [] M
  refine bj_aload_n d_La_turn_0 rfl rfl ?_
  refine bj_iload_n d_La_turn_1 rfl rfl ?_
  refine bj_iload_n d_La_turn_2 rfl rfl ?_
  refine bj_cv sv_La_31 d_La_turn_3 hT rfl rfl (by decide) (by decide) (by decide) (Nat.le_of_ble_eq_true rfl) rfl hO rfl rfl (fun v1 N1 hq1 => ?_) (fun v1 N1 hq1 => ?_)
  rotate_left
  · obtain ⟨n, hn0, rfl, hRn, hBd⟩ := hq1
    have hl := hle n hRn
    have hn9 : n = 1 ∨ n = 2 := by omega
    rcases hn9 with rfl | rfl
    · show bj_X _ _ _ _ _ _ 1 6 _ _ "java/lang/IllegalArgumentException" _
      refine bj_catch [] ⟨0, 6, 9, 13⟩ "java/lang/IllegalArgumentException" [⟨0, 6, 12, 15⟩] rfl (fun z hz => nomatch hz) rfl ⟨by decide, wc_La_13, wz_176⟩ (fun q => ?_)
      show bj_S (bw_G l D c) Y_La_turn 9 (1, 6, 0, 0) ad (q_wv R Gd Bd) 1 6 9 [some (.ref (ad 0)), some (.int x1), some (.int x2), none] [.ref q] N1
      refine bj_astore_n (L' := [some (.ref (ad 0)), some (.int x1), some (.int x2), some (.ref q)]) d_La_turn_9 rfl (by decide) rfl ?_
      refine bj_iconst (v := (nI 1)) d_La_turn_10 (by decide) ?_
      exact bj_iret d_La_turn_11 rfl rfl (by decide) (by decide) ⟨1, by decide, rfl, Or.inr ⟨by decide, hRn, hBd⟩⟩
    · show bj_X _ _ _ _ _ _ 1 6 _ _ "java/lang/IllegalStateException" _
      refine bj_catch [(⟨0, 6, 9, 13⟩, "java/lang/IllegalArgumentException")] ⟨0, 6, 12, 15⟩ "java/lang/IllegalStateException" [] rfl (fun z hz => by
          simp only [List.mem_cons, List.not_mem_nil, or_false] at hz
          subst hz
          exact ⟨rfl, by decide, wc_La_13, nc_SA⟩) rfl ⟨by decide, wc_La_15, wz_249⟩ (fun q => ?_)
      show bj_S (bw_G l D c) Y_La_turn 9 (1, 6, 0, 0) ad (q_wv R Gd Bd) 1 6 12 [some (.ref (ad 0)), some (.int x1), some (.int x2), none] [.ref q] N1
      refine bj_astore_n (L' := [some (.ref (ad 0)), some (.int x1), some (.int x2), some (.ref q)]) d_La_turn_12 rfl (by decide) rfl ?_
      refine bj_iconst (v := (nI 2)) d_La_turn_13 (by decide) ?_
      exact bj_iret d_La_turn_14 rfl rfl (by decide) (by decide) ⟨2, by decide, rfl, Or.inr ⟨by decide, hRn, hBd⟩⟩
  obtain ⟨hR, hG⟩ := hq1
  have hv := hvd _ hR
  subst hv
  show bj_S (bw_G l D c) Y_La_turn 9 (1, 6, 0, 0) ad (q_wv R Gd Bd) 0 0 6 [some (.ref (ad 0)), some (.int x1), some (.int x2), none] [] N1
  refine bj_goto (tgt := 15) d_La_turn_6 (by decide) ?_
  refine bj_iconst (v := (nI 0)) d_La_turn_15 (by decide) ?_
  exact bj_iret d_La_turn_16 rfl rfl (by decide) (by decide) ⟨0, by decide, rfl, Or.inl ⟨rfl, hR, hG⟩⟩
set_option maxRecDepth 100000 in
set_option maxHeartbeats 4000000 in
/-- correct -/
theorem t_La_correct {R : Nat → Option Value → Prop} {Gd Bd : bj_M → Prop} {fs : List Value} {x1 x2 x3 : Int32} (hT : bj_T (bw_G l D c) Y_Of_correct 8 (0, 0, 1, 6) ad (q_pub [xA, xI, xS] R Gd Bd) [.ref (ad 0), .int x1, .int x2, .int x3] M) (hO : M 0 = some (.inr (4, fs))) (hle : ∀ n, R n none → n ≤ 3) {f : Nat → Int64} (hint : ∀ v, R 0 v → ∃ x, v = some (.int x)) (h93 : ∀ M1, Gd M1 → M1 93 = some (.inl (c 2, 1, .inr (.inl f)))) : bj_T (bw_G l D c) Y_La_correct 9 (1, 6, 0, 0) ad (q_wr c R Gd Bd f) [.ref (ad 0), .int x1, .int x2, .int x3, .ref (ad 93)] M := by
  show bj_S _ _ _ _ _ _ 0 0 0 [some (.ref (ad 0)), some (.int x1), some (.int x2), some (.int x3), some (.ref (ad 93)), none] [] M
  refine bj_aload d_La_correct_0 rfl ?_
  refine bj_iconst (v := (nI 0)) d_La_correct_2 (by decide) ?_
  refine bj_aload_n d_La_correct_3 rfl rfl ?_
  refine bj_iload_n d_La_correct_4 rfl rfl ?_
  refine bj_iload_n d_La_correct_5 rfl rfl ?_
  refine bj_iload_n d_La_correct_6 rfl rfl ?_
  refine bj_cv sv_La_34 d_La_correct_7 hT rfl rfl (by decide) (by decide) (by decide) (Nat.le_of_ble_eq_true rfl) rfl hO rfl rfl (fun v1 N1 hq1 => ?_) (fun v1 N1 hq1 => ?_)
  rotate_left
  · obtain ⟨n, hn0, rfl, hRn, hBd⟩ := hq1
    have hl := hle n hRn
    have hn9 : n = 1 ∨ n = 2 ∨ n = 3 := by omega
    rcases hn9 with rfl | rfl | rfl
    · show bj_X _ _ _ _ _ _ 1 6 _ _ "java/lang/IllegalArgumentException" _
      refine bj_catch [] ⟨0, 12, 15, 13⟩ "java/lang/IllegalArgumentException" [⟨0, 12, 19, 21⟩, ⟨0, 12, 23, 15⟩] rfl (fun z hz => nomatch hz) rfl ⟨by decide, wc_La_13, wz_176⟩ (fun q => ?_)
      show bj_S (bw_G l D c) Y_La_correct 9 (1, 6, 0, 0) ad (q_wr c R Gd Bd f) 1 6 15 [some (.ref (ad 0)), some (.int x1), some (.int x2), some (.int x3), some (.ref (ad 93)), none] [.ref q] N1
      refine bj_astore (L' := [some (.ref (ad 0)), some (.int x1), some (.int x2), some (.int x3), some (.ref (ad 93)), some (.ref q)]) d_La_correct_15 (by decide) rfl ?_
      refine bj_iconst (v := (nI 1)) d_La_correct_17 (by decide) ?_
      exact bj_iret d_La_correct_18 rfl rfl (by decide) (by decide) ⟨1, by decide, rfl, Or.inr ⟨by decide, hRn, hBd⟩⟩
    · show bj_X _ _ _ _ _ _ 1 6 _ _ "java/lang/IndexOutOfBoundsException" _
      refine bj_catch [(⟨0, 12, 15, 13⟩, "java/lang/IllegalArgumentException")] ⟨0, 12, 19, 21⟩ "java/lang/IndexOutOfBoundsException" [⟨0, 12, 23, 15⟩] rfl (fun z hz => by
          simp only [List.mem_cons, List.not_mem_nil, or_false] at hz
          subst hz
          exact ⟨rfl, by decide, wc_La_13, nc_IA⟩) rfl ⟨by decide, wc_La_21, wz_278⟩ (fun q => ?_)
      show bj_S (bw_G l D c) Y_La_correct 9 (1, 6, 0, 0) ad (q_wr c R Gd Bd f) 1 6 19 [some (.ref (ad 0)), some (.int x1), some (.int x2), some (.int x3), some (.ref (ad 93)), none] [.ref q] N1
      refine bj_astore (L' := [some (.ref (ad 0)), some (.int x1), some (.int x2), some (.int x3), some (.ref (ad 93)), some (.ref q)]) d_La_correct_19 (by decide) rfl ?_
      refine bj_iconst (v := (nI 2)) d_La_correct_21 (by decide) ?_
      exact bj_iret d_La_correct_22 rfl rfl (by decide) (by decide) ⟨2, by decide, rfl, Or.inr ⟨by decide, hRn, hBd⟩⟩
    · show bj_X _ _ _ _ _ _ 1 6 _ _ "java/lang/IllegalStateException" _
      refine bj_catch [(⟨0, 12, 15, 13⟩, "java/lang/IllegalArgumentException"), (⟨0, 12, 19, 21⟩, "java/lang/IndexOutOfBoundsException")] ⟨0, 12, 23, 15⟩ "java/lang/IllegalStateException" [] rfl (fun z hz => by
          simp only [List.mem_cons, List.not_mem_nil, or_false] at hz
          rcases hz with rfl | rfl
          · exact ⟨rfl, by decide, wc_La_13, nc_SA⟩
          · exact ⟨rfl, by decide, wc_La_21, nc_SI⟩) rfl ⟨by decide, wc_La_15, wz_249⟩ (fun q => ?_)
      show bj_S (bw_G l D c) Y_La_correct 9 (1, 6, 0, 0) ad (q_wr c R Gd Bd f) 1 6 23 [some (.ref (ad 0)), some (.int x1), some (.int x2), some (.int x3), some (.ref (ad 93)), none] [.ref q] N1
      refine bj_astore (L' := [some (.ref (ad 0)), some (.int x1), some (.int x2), some (.int x3), some (.ref (ad 93)), some (.ref q)]) d_La_correct_23 (by decide) rfl ?_
      refine bj_iconst (v := (nI 3)) d_La_correct_25 (by decide) ?_
      exact bj_iret d_La_correct_26 rfl rfl (by decide) (by decide) ⟨3, by decide, rfl, Or.inr ⟨by decide, hRn, hBd⟩⟩
  obtain ⟨hR, hG⟩ := hq1
  obtain ⟨x9, rfl⟩ := hint _ hR
  show bj_S (bw_G l D c) Y_La_correct 9 (1, 6, 0, 0) ad (q_wr c R Gd Bd f) 0 0 10 [some (.ref (ad 0)), some (.int x1), some (.int x2), some (.int x3), some (.ref (ad 93)), none] [.int x9, .int (nI 0), .ref (ad 93)] N1
  refine bj_i2l d_La_correct_10 rfl ?_
  refine bj_last (j := 0) d_La_correct_11 2 rfl (h93 _ hG) rfl (by decide) (by decide) ?_
  refine bj_goto (tgt := 27) d_La_correct_12 (by decide) ?_
  refine bj_iconst (v := (nI 0)) d_La_correct_27 (by decide) ?_
  exact bj_iret d_La_correct_28 rfl rfl (by decide) (by decide) ⟨0, by decide, rfl, Or.inl ⟨rfl, x9, N1, hR, hG, rfl⟩⟩
set_option maxRecDepth 100000 in
set_option maxHeartbeats 4000000 in
/-- state -/
theorem t_La_state {R : Nat → Option Value → Prop} {Gd Bd : bj_M → Prop} {fs : List Value} {x1 : Int32} (hT : bj_T (bw_G l D c) Y_Of_state 8 (0, 0, 1, 6) ad (q_pub [xA] R Gd Bd) [.ref (ad 0), .int x1] M) (hO : M 0 = some (.inr (4, fs))) (hle : ∀ n, R n none → n ≤ 1) {f : Nat → Int64} (hint : ∀ v, R 0 v → ∃ x, v = some (.int x)) (h93 : ∀ M1, Gd M1 → M1 93 = some (.inl (c 2, 1, .inr (.inl f)))) : bj_T (bw_G l D c) Y_La_state 9 (1, 6, 0, 0) ad (q_wr c R Gd Bd f) [.ref (ad 0), .int x1, .ref (ad 93)] M := by
  show bj_S _ _ _ _ _ _ 0 0 0 [some (.ref (ad 0)), some (.int x1), some (.ref (ad 93)), none] [] M
  refine bj_aload_n d_La_state_0 rfl rfl ?_
  refine bj_iconst (v := (nI 0)) d_La_state_1 (by decide) ?_
  refine bj_aload_n d_La_state_2 rfl rfl ?_
  refine bj_iload_n d_La_state_3 rfl rfl ?_
  refine bj_cv sv_La_37 d_La_state_4 hT rfl rfl (by decide) (by decide) (by decide) (Nat.le_of_ble_eq_true rfl) rfl hO rfl rfl (fun v1 N1 hq1 => ?_) (fun v1 N1 hq1 => ?_)
  rotate_left
  · obtain ⟨n, hn0, rfl, hRn, hBd⟩ := hq1
    have hl := hle n hRn
    have hn9 : n = 1 := by omega
    subst hn9
    · show bj_X _ _ _ _ _ _ 1 6 _ _ "java/lang/IllegalArgumentException" _
      refine bj_catch [] ⟨0, 9, 12, 13⟩ "java/lang/IllegalArgumentException" [] rfl (fun z hz => nomatch hz) rfl ⟨by decide, wc_La_13, wz_176⟩ (fun q => ?_)
      show bj_S (bw_G l D c) Y_La_state 9 (1, 6, 0, 0) ad (q_wr c R Gd Bd f) 1 6 12 [some (.ref (ad 0)), some (.int x1), some (.ref (ad 93)), none] [.ref q] N1
      refine bj_astore_n (L' := [some (.ref (ad 0)), some (.int x1), some (.ref (ad 93)), some (.ref q)]) d_La_state_12 rfl (by decide) rfl ?_
      refine bj_iconst (v := (nI 1)) d_La_state_13 (by decide) ?_
      exact bj_iret d_La_state_14 rfl rfl (by decide) (by decide) ⟨1, by decide, rfl, Or.inr ⟨by decide, hRn, hBd⟩⟩
  obtain ⟨hR, hG⟩ := hq1
  obtain ⟨x9, rfl⟩ := hint _ hR
  show bj_S (bw_G l D c) Y_La_state 9 (1, 6, 0, 0) ad (q_wr c R Gd Bd f) 0 0 7 [some (.ref (ad 0)), some (.int x1), some (.ref (ad 93)), none] [.int x9, .int (nI 0), .ref (ad 93)] N1
  refine bj_i2l d_La_state_7 rfl ?_
  refine bj_last (j := 0) d_La_state_8 2 rfl (h93 _ hG) rfl (by decide) (by decide) ?_
  refine bj_goto (tgt := 15) d_La_state_9 (by decide) ?_
  refine bj_iconst (v := (nI 0)) d_La_state_15 (by decide) ?_
  exact bj_iret d_La_state_16 rfl rfl (by decide) (by decide) ⟨0, by decide, rfl, Or.inl ⟨rfl, x9, N1, hR, hG, rfl⟩⟩
set_option maxRecDepth 100000 in
set_option maxHeartbeats 4000000 in
/-- prefer -/
theorem t_La_prefer {R : Nat → Option Value → Prop} {Gd Bd : bj_M → Prop} {fs : List Value} {x1 x2 : Int32} (hT : bj_T (bw_G l D c) Y_Of_prefer 8 (0, 0, 1, 6) ad (q_pub [xA] R Gd Bd) [.ref (ad 0), .int x1, .int x2] M) (hO : M 0 = some (.inr (4, fs))) (hle : ∀ n, R n none → n ≤ 1) {f : Nat → Int64} (hint : ∀ v, R 0 v → ∃ x, v = some (.int x)) (h93 : ∀ M1, Gd M1 → M1 93 = some (.inl (c 2, 1, .inr (.inl f)))) : bj_T (bw_G l D c) Y_La_prefer 9 (1, 6, 0, 0) ad (q_wr c R Gd Bd f) [.ref (ad 0), .int x1, .int x2, .ref (ad 93)] M := by
  show bj_S _ _ _ _ _ _ 0 0 0 [some (.ref (ad 0)), some (.int x1), some (.int x2), some (.ref (ad 93)), none] [] M
  refine bj_aload_n d_La_prefer_0 rfl rfl ?_
  refine bj_iconst (v := (nI 0)) d_La_prefer_1 (by decide) ?_
  refine bj_aload_n d_La_prefer_2 rfl rfl ?_
  refine bj_iload_n d_La_prefer_3 rfl rfl ?_
  refine bj_iload_n d_La_prefer_4 rfl rfl ?_
  refine bj_cv sv_La_40 d_La_prefer_5 hT rfl rfl (by decide) (by decide) (by decide) (Nat.le_of_ble_eq_true rfl) rfl hO rfl rfl (fun v1 N1 hq1 => ?_) (fun v1 N1 hq1 => ?_)
  rotate_left
  · obtain ⟨n, hn0, rfl, hRn, hBd⟩ := hq1
    have hl := hle n hRn
    have hn9 : n = 1 := by omega
    subst hn9
    · show bj_X _ _ _ _ _ _ 1 6 _ _ "java/lang/IllegalArgumentException" _
      refine bj_catch [] ⟨0, 10, 13, 13⟩ "java/lang/IllegalArgumentException" [] rfl (fun z hz => nomatch hz) rfl ⟨by decide, wc_La_13, wz_176⟩ (fun q => ?_)
      show bj_S (bw_G l D c) Y_La_prefer 9 (1, 6, 0, 0) ad (q_wr c R Gd Bd f) 1 6 13 [some (.ref (ad 0)), some (.int x1), some (.int x2), some (.ref (ad 93)), none] [.ref q] N1
      refine bj_astore (L' := [some (.ref (ad 0)), some (.int x1), some (.int x2), some (.ref (ad 93)), some (.ref q)]) d_La_prefer_13 (by decide) rfl ?_
      refine bj_iconst (v := (nI 1)) d_La_prefer_15 (by decide) ?_
      exact bj_iret d_La_prefer_16 rfl rfl (by decide) (by decide) ⟨1, by decide, rfl, Or.inr ⟨by decide, hRn, hBd⟩⟩
  obtain ⟨hR, hG⟩ := hq1
  obtain ⟨x9, rfl⟩ := hint _ hR
  show bj_S (bw_G l D c) Y_La_prefer 9 (1, 6, 0, 0) ad (q_wr c R Gd Bd f) 0 0 8 [some (.ref (ad 0)), some (.int x1), some (.int x2), some (.ref (ad 93)), none] [.int x9, .int (nI 0), .ref (ad 93)] N1
  refine bj_i2l d_La_prefer_8 rfl ?_
  refine bj_last (j := 0) d_La_prefer_9 2 rfl (h93 _ hG) rfl (by decide) (by decide) ?_
  refine bj_goto (tgt := 17) d_La_prefer_10 (by decide) ?_
  refine bj_iconst (v := (nI 0)) d_La_prefer_17 (by decide) ?_
  exact bj_iret d_La_prefer_18 rfl rfl (by decide) (by decide) ⟨0, by decide, rfl, Or.inl ⟨rfl, x9, N1, hR, hG, rfl⟩⟩
set_option maxRecDepth 100000 in
set_option maxHeartbeats 4000000 in
/-- strength -/
theorem t_La_strength {R : Nat → Option Value → Prop} {Gd Bd : bj_M → Prop} {fs : List Value} {x1 x2 : Int32} (hT : bj_T (bw_G l D c) Y_Of_strength 8 (0, 0, 1, 6) ad (q_pub [xA] R Gd Bd) [.ref (ad 0), .int x1, .int x2] M) (hO : M 0 = some (.inr (4, fs))) (hle : ∀ n, R n none → n ≤ 1) {f : Nat → Int64} (hint : ∀ v, R 0 v → ∃ x, v = some (.int x)) (h93 : ∀ M1, Gd M1 → M1 93 = some (.inl (c 2, 1, .inr (.inl f)))) : bj_T (bw_G l D c) Y_La_strength 9 (1, 6, 0, 0) ad (q_wr c R Gd Bd f) [.ref (ad 0), .int x1, .int x2, .ref (ad 93)] M := by
  show bj_S _ _ _ _ _ _ 0 0 0 [some (.ref (ad 0)), some (.int x1), some (.int x2), some (.ref (ad 93)), none] [] M
  refine bj_aload_n d_La_strength_0 rfl rfl ?_
  refine bj_iconst (v := (nI 0)) d_La_strength_1 (by decide) ?_
  refine bj_aload_n d_La_strength_2 rfl rfl ?_
  refine bj_iload_n d_La_strength_3 rfl rfl ?_
  refine bj_iload_n d_La_strength_4 rfl rfl ?_
  refine bj_cv sv_La_44 d_La_strength_5 hT rfl rfl (by decide) (by decide) (by decide) (Nat.le_of_ble_eq_true rfl) rfl hO rfl rfl (fun v1 N1 hq1 => ?_) (fun v1 N1 hq1 => ?_)
  rotate_left
  · obtain ⟨n, hn0, rfl, hRn, hBd⟩ := hq1
    have hl := hle n hRn
    have hn9 : n = 1 := by omega
    subst hn9
    · show bj_X _ _ _ _ _ _ 1 6 _ _ "java/lang/IllegalArgumentException" _
      refine bj_catch [] ⟨0, 10, 13, 13⟩ "java/lang/IllegalArgumentException" [] rfl (fun z hz => nomatch hz) rfl ⟨by decide, wc_La_13, wz_176⟩ (fun q => ?_)
      show bj_S (bw_G l D c) Y_La_strength 9 (1, 6, 0, 0) ad (q_wr c R Gd Bd f) 1 6 13 [some (.ref (ad 0)), some (.int x1), some (.int x2), some (.ref (ad 93)), none] [.ref q] N1
      refine bj_astore (L' := [some (.ref (ad 0)), some (.int x1), some (.int x2), some (.ref (ad 93)), some (.ref q)]) d_La_strength_13 (by decide) rfl ?_
      refine bj_iconst (v := (nI 1)) d_La_strength_15 (by decide) ?_
      exact bj_iret d_La_strength_16 rfl rfl (by decide) (by decide) ⟨1, by decide, rfl, Or.inr ⟨by decide, hRn, hBd⟩⟩
  obtain ⟨hR, hG⟩ := hq1
  obtain ⟨x9, rfl⟩ := hint _ hR
  show bj_S (bw_G l D c) Y_La_strength 9 (1, 6, 0, 0) ad (q_wr c R Gd Bd f) 0 0 8 [some (.ref (ad 0)), some (.int x1), some (.int x2), some (.ref (ad 93)), none] [.int x9, .int (nI 0), .ref (ad 93)] N1
  refine bj_i2l d_La_strength_8 rfl ?_
  refine bj_last (j := 0) d_La_strength_9 2 rfl (h93 _ hG) rfl (by decide) (by decide) ?_
  refine bj_goto (tgt := 17) d_La_strength_10 (by decide) ?_
  refine bj_iconst (v := (nI 0)) d_La_strength_17 (by decide) ?_
  exact bj_iret d_La_strength_18 rfl rfl (by decide) (by decide) ⟨0, by decide, rfl, Or.inl ⟨rfl, x9, N1, hR, hG, rfl⟩⟩
set_option maxRecDepth 100000 in
set_option maxHeartbeats 4000000 in
/-- way -/
theorem t_La_way {R : Nat → Option Value → Prop} {Gd Bd : bj_M → Prop} {fs : List Value} {x1 x2 : Int32} (hT : bj_T (bw_G l D c) Y_Of_way 8 (0, 0, 1, 6) ad (q_pub [xA] R Gd Bd) [.ref (ad 0), .int x1, .int x2] M) (hO : M 0 = some (.inr (4, fs))) (hle : ∀ n, R n none → n ≤ 1) {f : Nat → Int64} (hint : ∀ v, R 0 v → ∃ x, v = some (.int x)) (h93 : ∀ M1, Gd M1 → M1 93 = some (.inl (c 2, 1, .inr (.inl f)))) : bj_T (bw_G l D c) Y_La_way 9 (1, 6, 0, 0) ad (q_wr c R Gd Bd f) [.ref (ad 0), .int x1, .int x2, .ref (ad 93)] M := by
  show bj_S _ _ _ _ _ _ 0 0 0 [some (.ref (ad 0)), some (.int x1), some (.int x2), some (.ref (ad 93)), none] [] M
  refine bj_aload_n d_La_way_0 rfl rfl ?_
  refine bj_iconst (v := (nI 0)) d_La_way_1 (by decide) ?_
  refine bj_aload_n d_La_way_2 rfl rfl ?_
  refine bj_iload_n d_La_way_3 rfl rfl ?_
  refine bj_iload_n d_La_way_4 rfl rfl ?_
  refine bj_cv sv_La_47 d_La_way_5 hT rfl rfl (by decide) (by decide) (by decide) (Nat.le_of_ble_eq_true rfl) rfl hO rfl rfl (fun v1 N1 hq1 => ?_) (fun v1 N1 hq1 => ?_)
  rotate_left
  · obtain ⟨n, hn0, rfl, hRn, hBd⟩ := hq1
    have hl := hle n hRn
    have hn9 : n = 1 := by omega
    subst hn9
    · show bj_X _ _ _ _ _ _ 1 6 _ _ "java/lang/IllegalArgumentException" _
      refine bj_catch [] ⟨0, 10, 13, 13⟩ "java/lang/IllegalArgumentException" [] rfl (fun z hz => nomatch hz) rfl ⟨by decide, wc_La_13, wz_176⟩ (fun q => ?_)
      show bj_S (bw_G l D c) Y_La_way 9 (1, 6, 0, 0) ad (q_wr c R Gd Bd f) 1 6 13 [some (.ref (ad 0)), some (.int x1), some (.int x2), some (.ref (ad 93)), none] [.ref q] N1
      refine bj_astore (L' := [some (.ref (ad 0)), some (.int x1), some (.int x2), some (.ref (ad 93)), some (.ref q)]) d_La_way_13 (by decide) rfl ?_
      refine bj_iconst (v := (nI 1)) d_La_way_15 (by decide) ?_
      exact bj_iret d_La_way_16 rfl rfl (by decide) (by decide) ⟨1, by decide, rfl, Or.inr ⟨by decide, hRn, hBd⟩⟩
  obtain ⟨hR, hG⟩ := hq1
  obtain ⟨x9, rfl⟩ := hint _ hR
  show bj_S (bw_G l D c) Y_La_way 9 (1, 6, 0, 0) ad (q_wr c R Gd Bd f) 0 0 8 [some (.ref (ad 0)), some (.int x1), some (.int x2), some (.ref (ad 93)), none] [.int x9, .int (nI 0), .ref (ad 93)] N1
  refine bj_i2l d_La_way_8 rfl ?_
  refine bj_last (j := 0) d_La_way_9 2 rfl (h93 _ hG) rfl (by decide) (by decide) ?_
  refine bj_goto (tgt := 17) d_La_way_10 (by decide) ?_
  refine bj_iconst (v := (nI 0)) d_La_way_17 (by decide) ?_
  exact bj_iret d_La_way_18 rfl rfl (by decide) (by decide) ⟨0, by decide, rfl, Or.inl ⟨rfl, x9, N1, hR, hG, rfl⟩⟩
set_option maxRecDepth 100000 in
set_option maxHeartbeats 4000000 in
/-- cut -/
theorem t_La_cut {R : Nat → Option Value → Prop} {Gd Bd : bj_M → Prop} {fs : List Value} {x1 x2 : Int32} (hT : bj_T (bw_G l D c) Y_Of_cut 8 (0, 0, 1, 6) ad (q_pub [xA] R Gd Bd) [.ref (ad 0), .int x1, .int x2] M) (hO : M 0 = some (.inr (4, fs))) (hle : ∀ n, R n none → n ≤ 1) {f : Nat → Int64} (hint : ∀ v, R 0 v → ∃ x, v = some (.int x)) (h93 : ∀ M1, Gd M1 → M1 93 = some (.inl (c 2, 1, .inr (.inl f)))) : bj_T (bw_G l D c) Y_La_cut 9 (1, 6, 0, 0) ad (q_wr c R Gd Bd f) [.ref (ad 0), .int x1, .int x2, .ref (ad 93)] M := by
  show bj_S _ _ _ _ _ _ 0 0 0 [some (.ref (ad 0)), some (.int x1), some (.int x2), some (.ref (ad 93)), none] [] M
  refine bj_aload_n d_La_cut_0 rfl rfl ?_
  refine bj_iconst (v := (nI 0)) d_La_cut_1 (by decide) ?_
  refine bj_aload_n d_La_cut_2 rfl rfl ?_
  refine bj_iload_n d_La_cut_3 rfl rfl ?_
  refine bj_iload_n d_La_cut_4 rfl rfl ?_
  refine bj_cv sv_La_50 d_La_cut_5 hT rfl rfl (by decide) (by decide) (by decide) (Nat.le_of_ble_eq_true rfl) rfl hO rfl rfl (fun v1 N1 hq1 => ?_) (fun v1 N1 hq1 => ?_)
  rotate_left
  · obtain ⟨n, hn0, rfl, hRn, hBd⟩ := hq1
    have hl := hle n hRn
    have hn9 : n = 1 := by omega
    subst hn9
    · show bj_X _ _ _ _ _ _ 1 6 _ _ "java/lang/IllegalArgumentException" _
      refine bj_catch [] ⟨0, 10, 13, 13⟩ "java/lang/IllegalArgumentException" [] rfl (fun z hz => nomatch hz) rfl ⟨by decide, wc_La_13, wz_176⟩ (fun q => ?_)
      show bj_S (bw_G l D c) Y_La_cut 9 (1, 6, 0, 0) ad (q_wr c R Gd Bd f) 1 6 13 [some (.ref (ad 0)), some (.int x1), some (.int x2), some (.ref (ad 93)), none] [.ref q] N1
      refine bj_astore (L' := [some (.ref (ad 0)), some (.int x1), some (.int x2), some (.ref (ad 93)), some (.ref q)]) d_La_cut_13 (by decide) rfl ?_
      refine bj_iconst (v := (nI 1)) d_La_cut_15 (by decide) ?_
      exact bj_iret d_La_cut_16 rfl rfl (by decide) (by decide) ⟨1, by decide, rfl, Or.inr ⟨by decide, hRn, hBd⟩⟩
  obtain ⟨hR, hG⟩ := hq1
  obtain ⟨x9, rfl⟩ := hint _ hR
  show bj_S (bw_G l D c) Y_La_cut 9 (1, 6, 0, 0) ad (q_wr c R Gd Bd f) 0 0 8 [some (.ref (ad 0)), some (.int x1), some (.int x2), some (.ref (ad 93)), none] [.int x9, .int (nI 0), .ref (ad 93)] N1
  refine bj_i2l d_La_cut_8 rfl ?_
  refine bj_last (j := 0) d_La_cut_9 2 rfl (h93 _ hG) rfl (by decide) (by decide) ?_
  refine bj_goto (tgt := 17) d_La_cut_10 (by decide) ?_
  refine bj_iconst (v := (nI 0)) d_La_cut_17 (by decide) ?_
  exact bj_iret d_La_cut_18 rfl rfl (by decide) (by decide) ⟨0, by decide, rfl, Or.inl ⟨rfl, x9, N1, hR, hG, rfl⟩⟩
set_option maxRecDepth 100000 in
set_option maxHeartbeats 4000000 in
/-- proves -/
theorem t_La_proves {R : Nat → Option Value → Prop} {Gd Bd : bj_M → Prop} {fs : List Value} {x1 x2 x3 x4 x5 : Int32} (hT : bj_T (bw_G l D c) Y_Of_proves 8 (0, 0, 1, 6) ad (q_pub [xA] R Gd Bd) [.ref (ad 0), .int x1, .int x2, .int x3, .int x4, .int x5] M) (hO : M 0 = some (.inr (4, fs))) (hle : ∀ n, R n none → n ≤ 1) {f : Nat → Int64} (hint : ∀ v, R 0 v → ∃ b, v = some (.int (bt_n b))) (h93 : ∀ M1, Gd M1 → M1 93 = some (.inl (c 2, 1, .inr (.inl f)))) : bj_T (bw_G l D c) Y_La_proves 9 (1, 6, 0, 0) ad (q_wr c R Gd Bd f) [.ref (ad 0), .int x1, .int x2, .int x3, .int x4, .int x5, .ref (ad 93)] M := by
  show bj_S _ _ _ _ _ _ 0 0 0 [some (.ref (ad 0)), some (.int x1), some (.int x2), some (.int x3), some (.int x4), some (.int x5), some (.ref (ad 93)), none] [] M
  refine bj_aload d_La_proves_0 rfl ?_
  refine bj_iconst (v := (nI 0)) d_La_proves_2 (by decide) ?_
  refine bj_aload_n d_La_proves_3 rfl rfl ?_
  refine bj_iload_n d_La_proves_4 rfl rfl ?_
  refine bj_iload_n d_La_proves_5 rfl rfl ?_
  refine bj_iload_n d_La_proves_6 rfl rfl ?_
  refine bj_iload d_La_proves_7 rfl ?_
  refine bj_iload d_La_proves_9 rfl ?_
  refine bj_cv sv_La_53 d_La_proves_11 hT rfl rfl (by decide) (by decide) (by decide) (Nat.le_of_ble_eq_true rfl) rfl hO rfl rfl (fun v1 N1 hq1 => ?_) (fun v1 N1 hq1 => ?_)
  rotate_left
  · obtain ⟨n, hn0, rfl, hRn, hBd⟩ := hq1
    have hl := hle n hRn
    have hn9 : n = 1 := by omega
    subst hn9
    · show bj_X _ _ _ _ _ _ 1 6 _ _ "java/lang/IllegalArgumentException" _
      refine bj_catch [] ⟨0, 23, 26, 13⟩ "java/lang/IllegalArgumentException" [] rfl (fun z hz => nomatch hz) rfl ⟨by decide, wc_La_13, wz_176⟩ (fun q => ?_)
      show bj_S (bw_G l D c) Y_La_proves 9 (1, 6, 0, 0) ad (q_wr c R Gd Bd f) 1 6 26 [some (.ref (ad 0)), some (.int x1), some (.int x2), some (.int x3), some (.int x4), some (.int x5), some (.ref (ad 93)), none] [.ref q] N1
      refine bj_astore (L' := [some (.ref (ad 0)), some (.int x1), some (.int x2), some (.int x3), some (.int x4), some (.int x5), some (.ref (ad 93)), some (.ref q)]) d_La_proves_26 (by decide) rfl ?_
      refine bj_iconst (v := (nI 1)) d_La_proves_28 (by decide) ?_
      exact bj_iret d_La_proves_29 rfl rfl (by decide) (by decide) ⟨1, by decide, rfl, Or.inr ⟨by decide, hRn, hBd⟩⟩
  obtain ⟨hR, hG⟩ := hq1
  obtain ⟨b9, rfl⟩ := hint _ hR
  show bj_S (bw_G l D c) Y_La_proves 9 (1, 6, 0, 0) ad (q_wr c R Gd Bd f) 0 0 14 [some (.ref (ad 0)), some (.int x1), some (.int x2), some (.int x3), some (.int x4), some (.int x5), some (.ref (ad 93)), none] [.int (bt_n b9), .int (nI 0), .ref (ad 93)] N1
  refine bj_if_eq (tgt := 21) d_La_proves_14 (by decide) (fun h14 => ?_) (fun h14 => ?_)
  · have hbb := h14
    refine bj_lconst (v := 0) d_La_proves_21 (by decide) ?_
    rw [bn_0 hbb]
    refine bj_last (j := 0) d_La_proves_22 2 rfl (h93 _ hG) rfl (by decide) (by decide) ?_
    refine bj_goto (tgt := 30) d_La_proves_23 (by decide) ?_
    refine bj_iconst (v := (nI 0)) d_La_proves_30 (by decide) ?_
    exact bj_iret d_La_proves_31 rfl rfl (by decide) (by decide) ⟨0, by decide, rfl, Or.inl ⟨rfl, bt_n b9, N1, hR, hG, rfl⟩⟩
  · have hbb := h14
    refine bj_lconst (v := 1) d_La_proves_17 (by decide) ?_
    refine bj_goto (tgt := 22) d_La_proves_18 (by decide) ?_
    rw [bn_1 hbb]
    refine bj_last (j := 0) d_La_proves_22 2 rfl (h93 _ hG) rfl (by decide) (by decide) ?_
    refine bj_goto (tgt := 30) d_La_proves_23 (by decide) ?_
    refine bj_iconst (v := (nI 0)) d_La_proves_30 (by decide) ?_
    exact bj_iret d_La_proves_31 rfl rfl (by decide) (by decide) ⟨0, by decide, rfl, Or.inl ⟨rfl, bt_n b9, N1, hR, hG, rfl⟩⟩
set_option maxRecDepth 100000 in
set_option maxHeartbeats 4000000 in
/-- winner -/
theorem t_La_winner {R : Nat → Option Value → Prop} {Gd Bd : bj_M → Prop} {fs : List Value} {x1 : Int32} (hT : bj_T (bw_G l D c) Y_Of_winner 8 (0, 0, 1, 6) ad (q_pub [xI] R Gd Bd) [.ref (ad 0), .int x1] M) (hO : M 0 = some (.inr (4, fs))) (hle : ∀ n, R n none → n ≤ 1) {f : Nat → Int64} (hint : ∀ v, R 0 v → ∃ x, v = some (.int x)) (h93 : ∀ M1, Gd M1 → M1 93 = some (.inl (c 2, 1, .inr (.inl f)))) : bj_T (bw_G l D c) Y_La_winner 9 (1, 6, 0, 0) ad (q_wr c R Gd Bd f) [.ref (ad 0), .int x1, .ref (ad 93)] M := by
  show bj_S _ _ _ _ _ _ 0 0 0 [some (.ref (ad 0)), some (.int x1), some (.ref (ad 93)), none] [] M
  refine bj_aload_n d_La_winner_0 rfl rfl ?_
  refine bj_iconst (v := (nI 0)) d_La_winner_1 (by decide) ?_
  refine bj_aload_n d_La_winner_2 rfl rfl ?_
  refine bj_iload_n d_La_winner_3 rfl rfl ?_
  refine bj_cv sv_La_57 d_La_winner_4 hT rfl rfl (by decide) (by decide) (by decide) (Nat.le_of_ble_eq_true rfl) rfl hO rfl rfl (fun v1 N1 hq1 => ?_) (fun v1 N1 hq1 => ?_)
  rotate_left
  · obtain ⟨n, hn0, rfl, hRn, hBd⟩ := hq1
    have hl := hle n hRn
    have hn9 : n = 1 := by omega
    subst hn9
    · show bj_X _ _ _ _ _ _ 1 6 _ _ "java/lang/IndexOutOfBoundsException" _
      refine bj_catch [] ⟨0, 9, 12, 21⟩ "java/lang/IndexOutOfBoundsException" [] rfl (fun z hz => nomatch hz) rfl ⟨by decide, wc_La_21, wz_278⟩ (fun q => ?_)
      show bj_S (bw_G l D c) Y_La_winner 9 (1, 6, 0, 0) ad (q_wr c R Gd Bd f) 1 6 12 [some (.ref (ad 0)), some (.int x1), some (.ref (ad 93)), none] [.ref q] N1
      refine bj_astore_n (L' := [some (.ref (ad 0)), some (.int x1), some (.ref (ad 93)), some (.ref q)]) d_La_winner_12 rfl (by decide) rfl ?_
      refine bj_iconst (v := (nI 1)) d_La_winner_13 (by decide) ?_
      exact bj_iret d_La_winner_14 rfl rfl (by decide) (by decide) ⟨1, by decide, rfl, Or.inr ⟨by decide, hRn, hBd⟩⟩
  obtain ⟨hR, hG⟩ := hq1
  obtain ⟨x9, rfl⟩ := hint _ hR
  show bj_S (bw_G l D c) Y_La_winner 9 (1, 6, 0, 0) ad (q_wr c R Gd Bd f) 0 0 7 [some (.ref (ad 0)), some (.int x1), some (.ref (ad 93)), none] [.int x9, .int (nI 0), .ref (ad 93)] N1
  refine bj_i2l d_La_winner_7 rfl ?_
  refine bj_last (j := 0) d_La_winner_8 2 rfl (h93 _ hG) rfl (by decide) (by decide) ?_
  refine bj_goto (tgt := 15) d_La_winner_9 (by decide) ?_
  refine bj_iconst (v := (nI 0)) d_La_winner_15 (by decide) ?_
  exact bj_iret d_La_winner_16 rfl rfl (by decide) (by decide) ⟨0, by decide, rfl, Or.inl ⟨rfl, x9, N1, hR, hG, rfl⟩⟩
set_option maxRecDepth 100000 in
set_option maxHeartbeats 4000000 in
/-- locked -/
theorem t_La_locked {R : Nat → Option Value → Prop} {Gd Bd : bj_M → Prop} {fs : List Value} {x1 x2 : Int32} (hT : bj_T (bw_G l D c) Y_Of_locked 8 (0, 0, 1, 6) ad (q_pub [xA] R Gd Bd) [.ref (ad 0), .int x1, .int x2] M) (hO : M 0 = some (.inr (4, fs))) (hle : ∀ n, R n none → n ≤ 1) {f : Nat → Int64} (hint : ∀ v, R 0 v → ∃ b, v = some (.int (bt_n b))) (h93 : ∀ M1, Gd M1 → M1 93 = some (.inl (c 2, 1, .inr (.inl f)))) : bj_T (bw_G l D c) Y_La_locked 9 (1, 6, 0, 0) ad (q_wr c R Gd Bd f) [.ref (ad 0), .int x1, .int x2, .ref (ad 93)] M := by
  show bj_S _ _ _ _ _ _ 0 0 0 [some (.ref (ad 0)), some (.int x1), some (.int x2), some (.ref (ad 93)), none] [] M
  refine bj_aload_n d_La_locked_0 rfl rfl ?_
  refine bj_iconst (v := (nI 0)) d_La_locked_1 (by decide) ?_
  refine bj_aload_n d_La_locked_2 rfl rfl ?_
  refine bj_iload_n d_La_locked_3 rfl rfl ?_
  refine bj_iload_n d_La_locked_4 rfl rfl ?_
  refine bj_cv sv_La_60 d_La_locked_5 hT rfl rfl (by decide) (by decide) (by decide) (Nat.le_of_ble_eq_true rfl) rfl hO rfl rfl (fun v1 N1 hq1 => ?_) (fun v1 N1 hq1 => ?_)
  rotate_left
  · obtain ⟨n, hn0, rfl, hRn, hBd⟩ := hq1
    have hl := hle n hRn
    have hn9 : n = 1 := by omega
    subst hn9
    · show bj_X _ _ _ _ _ _ 1 6 _ _ "java/lang/IllegalArgumentException" _
      refine bj_catch [] ⟨0, 17, 20, 13⟩ "java/lang/IllegalArgumentException" [] rfl (fun z hz => nomatch hz) rfl ⟨by decide, wc_La_13, wz_176⟩ (fun q => ?_)
      show bj_S (bw_G l D c) Y_La_locked 9 (1, 6, 0, 0) ad (q_wr c R Gd Bd f) 1 6 20 [some (.ref (ad 0)), some (.int x1), some (.int x2), some (.ref (ad 93)), none] [.ref q] N1
      refine bj_astore (L' := [some (.ref (ad 0)), some (.int x1), some (.int x2), some (.ref (ad 93)), some (.ref q)]) d_La_locked_20 (by decide) rfl ?_
      refine bj_iconst (v := (nI 1)) d_La_locked_22 (by decide) ?_
      exact bj_iret d_La_locked_23 rfl rfl (by decide) (by decide) ⟨1, by decide, rfl, Or.inr ⟨by decide, hRn, hBd⟩⟩
  obtain ⟨hR, hG⟩ := hq1
  obtain ⟨b9, rfl⟩ := hint _ hR
  show bj_S (bw_G l D c) Y_La_locked 9 (1, 6, 0, 0) ad (q_wr c R Gd Bd f) 0 0 8 [some (.ref (ad 0)), some (.int x1), some (.int x2), some (.ref (ad 93)), none] [.int (bt_n b9), .int (nI 0), .ref (ad 93)] N1
  refine bj_if_eq (tgt := 15) d_La_locked_8 (by decide) (fun h8 => ?_) (fun h8 => ?_)
  · have hbb := h8
    refine bj_lconst (v := 0) d_La_locked_15 (by decide) ?_
    rw [bn_0 hbb]
    refine bj_last (j := 0) d_La_locked_16 2 rfl (h93 _ hG) rfl (by decide) (by decide) ?_
    refine bj_goto (tgt := 24) d_La_locked_17 (by decide) ?_
    refine bj_iconst (v := (nI 0)) d_La_locked_24 (by decide) ?_
    exact bj_iret d_La_locked_25 rfl rfl (by decide) (by decide) ⟨0, by decide, rfl, Or.inl ⟨rfl, bt_n b9, N1, hR, hG, rfl⟩⟩
  · have hbb := h8
    refine bj_lconst (v := 1) d_La_locked_11 (by decide) ?_
    refine bj_goto (tgt := 16) d_La_locked_12 (by decide) ?_
    rw [bn_1 hbb]
    refine bj_last (j := 0) d_La_locked_16 2 rfl (h93 _ hG) rfl (by decide) (by decide) ?_
    refine bj_goto (tgt := 24) d_La_locked_17 (by decide) ?_
    refine bj_iconst (v := (nI 0)) d_La_locked_24 (by decide) ?_
    exact bj_iret d_La_locked_25 rfl rfl (by decide) (by decide) ⟨0, by decide, rfl, Or.inl ⟨rfl, bt_n b9, N1, hR, hG, rfl⟩⟩
set_option maxRecDepth 100000 in
set_option maxHeartbeats 4000000 in
/-- order -/
theorem t_La_order {R : Nat → Option Value → Prop} {Gd Bd : bj_M → Prop} {fs : List Value} {x1 : Int32} (hT : bj_T (bw_G l D c) Y_Of_order 8 (0, 0, 1, 6) ad (q_pub [xI] R Gd Bd) [.ref (ad 0), .int x1] M) (hO : M 0 = some (.inr (4, fs))) (hle : ∀ n, R n none → n ≤ 1) {f : Nat → Int64} (hint : ∀ v, R 0 v → ∃ x, v = some (.int x)) (h93 : ∀ M1, Gd M1 → M1 93 = some (.inl (c 2, 1, .inr (.inl f)))) : bj_T (bw_G l D c) Y_La_order 9 (1, 6, 0, 0) ad (q_wr c R Gd Bd f) [.ref (ad 0), .int x1, .ref (ad 93)] M := by
  show bj_S _ _ _ _ _ _ 0 0 0 [some (.ref (ad 0)), some (.int x1), some (.ref (ad 93)), none] [] M
  refine bj_aload_n d_La_order_0 rfl rfl ?_
  refine bj_iconst (v := (nI 0)) d_La_order_1 (by decide) ?_
  refine bj_aload_n d_La_order_2 rfl rfl ?_
  refine bj_iload_n d_La_order_3 rfl rfl ?_
  refine bj_cv sv_La_64 d_La_order_4 hT rfl rfl (by decide) (by decide) (by decide) (Nat.le_of_ble_eq_true rfl) rfl hO rfl rfl (fun v1 N1 hq1 => ?_) (fun v1 N1 hq1 => ?_)
  rotate_left
  · obtain ⟨n, hn0, rfl, hRn, hBd⟩ := hq1
    have hl := hle n hRn
    have hn9 : n = 1 := by omega
    subst hn9
    · show bj_X _ _ _ _ _ _ 1 6 _ _ "java/lang/IndexOutOfBoundsException" _
      refine bj_catch [] ⟨0, 9, 12, 21⟩ "java/lang/IndexOutOfBoundsException" [] rfl (fun z hz => nomatch hz) rfl ⟨by decide, wc_La_21, wz_278⟩ (fun q => ?_)
      show bj_S (bw_G l D c) Y_La_order 9 (1, 6, 0, 0) ad (q_wr c R Gd Bd f) 1 6 12 [some (.ref (ad 0)), some (.int x1), some (.ref (ad 93)), none] [.ref q] N1
      refine bj_astore_n (L' := [some (.ref (ad 0)), some (.int x1), some (.ref (ad 93)), some (.ref q)]) d_La_order_12 rfl (by decide) rfl ?_
      refine bj_iconst (v := (nI 1)) d_La_order_13 (by decide) ?_
      exact bj_iret d_La_order_14 rfl rfl (by decide) (by decide) ⟨1, by decide, rfl, Or.inr ⟨by decide, hRn, hBd⟩⟩
  obtain ⟨hR, hG⟩ := hq1
  obtain ⟨x9, rfl⟩ := hint _ hR
  show bj_S (bw_G l D c) Y_La_order 9 (1, 6, 0, 0) ad (q_wr c R Gd Bd f) 0 0 7 [some (.ref (ad 0)), some (.int x1), some (.ref (ad 93)), none] [.int x9, .int (nI 0), .ref (ad 93)] N1
  refine bj_i2l d_La_order_7 rfl ?_
  refine bj_last (j := 0) d_La_order_8 2 rfl (h93 _ hG) rfl (by decide) (by decide) ?_
  refine bj_goto (tgt := 15) d_La_order_9 (by decide) ?_
  refine bj_iconst (v := (nI 0)) d_La_order_15 (by decide) ?_
  exact bj_iret d_La_order_16 rfl rfl (by decide) (by decide) ⟨0, by decide, rfl, Or.inl ⟨rfl, x9, N1, hR, hG, rfl⟩⟩
set_option maxRecDepth 100000 in
set_option maxHeartbeats 4000000 in
/-- top -/
theorem t_La_top {R : Nat → Option Value → Prop} {Gd Bd : bj_M → Prop} {fs : List Value} {x1 : Int32} (hT : bj_T (bw_G l D c) Y_Of_top 8 (0, 0, 1, 6) ad (q_pub [xI] R Gd Bd) [.ref (ad 0), .int x1] M) (hO : M 0 = some (.inr (4, fs))) (hle : ∀ n, R n none → n ≤ 1) {f : Nat → Int64} (hint : ∀ v, R 0 v → ∃ x, v = some (.int x)) (h93 : ∀ M1, Gd M1 → M1 93 = some (.inl (c 2, 1, .inr (.inl f)))) : bj_T (bw_G l D c) Y_La_top 9 (1, 6, 0, 0) ad (q_wr c R Gd Bd f) [.ref (ad 0), .int x1, .ref (ad 93)] M := by
  show bj_S _ _ _ _ _ _ 0 0 0 [some (.ref (ad 0)), some (.int x1), some (.ref (ad 93)), none] [] M
  refine bj_aload_n d_La_top_0 rfl rfl ?_
  refine bj_iconst (v := (nI 0)) d_La_top_1 (by decide) ?_
  refine bj_aload_n d_La_top_2 rfl rfl ?_
  refine bj_iload_n d_La_top_3 rfl rfl ?_
  refine bj_cv sv_La_67 d_La_top_4 hT rfl rfl (by decide) (by decide) (by decide) (Nat.le_of_ble_eq_true rfl) rfl hO rfl rfl (fun v1 N1 hq1 => ?_) (fun v1 N1 hq1 => ?_)
  rotate_left
  · obtain ⟨n, hn0, rfl, hRn, hBd⟩ := hq1
    have hl := hle n hRn
    have hn9 : n = 1 := by omega
    subst hn9
    · show bj_X _ _ _ _ _ _ 1 6 _ _ "java/lang/IndexOutOfBoundsException" _
      refine bj_catch [] ⟨0, 9, 12, 21⟩ "java/lang/IndexOutOfBoundsException" [] rfl (fun z hz => nomatch hz) rfl ⟨by decide, wc_La_21, wz_278⟩ (fun q => ?_)
      show bj_S (bw_G l D c) Y_La_top 9 (1, 6, 0, 0) ad (q_wr c R Gd Bd f) 1 6 12 [some (.ref (ad 0)), some (.int x1), some (.ref (ad 93)), none] [.ref q] N1
      refine bj_astore_n (L' := [some (.ref (ad 0)), some (.int x1), some (.ref (ad 93)), some (.ref q)]) d_La_top_12 rfl (by decide) rfl ?_
      refine bj_iconst (v := (nI 1)) d_La_top_13 (by decide) ?_
      exact bj_iret d_La_top_14 rfl rfl (by decide) (by decide) ⟨1, by decide, rfl, Or.inr ⟨by decide, hRn, hBd⟩⟩
  obtain ⟨hR, hG⟩ := hq1
  obtain ⟨x9, rfl⟩ := hint _ hR
  show bj_S (bw_G l D c) Y_La_top 9 (1, 6, 0, 0) ad (q_wr c R Gd Bd f) 0 0 7 [some (.ref (ad 0)), some (.int x1), some (.ref (ad 93)), none] [.int x9, .int (nI 0), .ref (ad 93)] N1
  refine bj_i2l d_La_top_7 rfl ?_
  refine bj_last (j := 0) d_La_top_8 2 rfl (h93 _ hG) rfl (by decide) (by decide) ?_
  refine bj_goto (tgt := 15) d_La_top_9 (by decide) ?_
  refine bj_iconst (v := (nI 0)) d_La_top_15 (by decide) ?_
  exact bj_iret d_La_top_16 rfl rfl (by decide) (by decide) ⟨0, by decide, rfl, Or.inl ⟨rfl, x9, N1, hR, hG, rfl⟩⟩
set_option maxRecDepth 100000 in
set_option maxHeartbeats 4000000 in
/-- without -/
theorem t_La_without {R : Nat → Option Value → Prop} {Gd Bd : bj_M → Prop} {fs : List Value} {x1 x2 x3 : Int32} (hT : bj_T (bw_G l D c) Y_Of_without 8 (0, 0, 1, 6) ad (q_pub [xA, xI] R Gd Bd) [.ref (ad 0), .int x1, .int x2, .int x3] M) (hO : M 0 = some (.inr (4, fs))) (hle : ∀ n, R n none → n ≤ 2) {f : Nat → Int64} (hint : ∀ v, R 0 v → ∃ x, v = some (.int x)) (h93 : ∀ M1, Gd M1 → M1 93 = some (.inl (c 2, 1, .inr (.inl f)))) : bj_T (bw_G l D c) Y_La_without 9 (1, 6, 0, 0) ad (q_wr c R Gd Bd f) [.ref (ad 0), .int x1, .int x2, .int x3, .ref (ad 93)] M := by
  show bj_S _ _ _ _ _ _ 0 0 0 [some (.ref (ad 0)), some (.int x1), some (.int x2), some (.int x3), some (.ref (ad 93)), none] [] M
  refine bj_aload d_La_without_0 rfl ?_
  refine bj_iconst (v := (nI 0)) d_La_without_2 (by decide) ?_
  refine bj_aload_n d_La_without_3 rfl rfl ?_
  refine bj_iload_n d_La_without_4 rfl rfl ?_
  refine bj_iload_n d_La_without_5 rfl rfl ?_
  refine bj_iload_n d_La_without_6 rfl rfl ?_
  refine bj_cv sv_La_70 d_La_without_7 hT rfl rfl (by decide) (by decide) (by decide) (Nat.le_of_ble_eq_true rfl) rfl hO rfl rfl (fun v1 N1 hq1 => ?_) (fun v1 N1 hq1 => ?_)
  rotate_left
  · obtain ⟨n, hn0, rfl, hRn, hBd⟩ := hq1
    have hl := hle n hRn
    have hn9 : n = 1 ∨ n = 2 := by omega
    rcases hn9 with rfl | rfl
    · show bj_X _ _ _ _ _ _ 1 6 _ _ "java/lang/IllegalArgumentException" _
      refine bj_catch [] ⟨0, 12, 15, 13⟩ "java/lang/IllegalArgumentException" [⟨0, 12, 19, 21⟩] rfl (fun z hz => nomatch hz) rfl ⟨by decide, wc_La_13, wz_176⟩ (fun q => ?_)
      show bj_S (bw_G l D c) Y_La_without 9 (1, 6, 0, 0) ad (q_wr c R Gd Bd f) 1 6 15 [some (.ref (ad 0)), some (.int x1), some (.int x2), some (.int x3), some (.ref (ad 93)), none] [.ref q] N1
      refine bj_astore (L' := [some (.ref (ad 0)), some (.int x1), some (.int x2), some (.int x3), some (.ref (ad 93)), some (.ref q)]) d_La_without_15 (by decide) rfl ?_
      refine bj_iconst (v := (nI 1)) d_La_without_17 (by decide) ?_
      exact bj_iret d_La_without_18 rfl rfl (by decide) (by decide) ⟨1, by decide, rfl, Or.inr ⟨by decide, hRn, hBd⟩⟩
    · show bj_X _ _ _ _ _ _ 1 6 _ _ "java/lang/IndexOutOfBoundsException" _
      refine bj_catch [(⟨0, 12, 15, 13⟩, "java/lang/IllegalArgumentException")] ⟨0, 12, 19, 21⟩ "java/lang/IndexOutOfBoundsException" [] rfl (fun z hz => by
          simp only [List.mem_cons, List.not_mem_nil, or_false] at hz
          subst hz
          exact ⟨rfl, by decide, wc_La_13, nc_IA⟩) rfl ⟨by decide, wc_La_21, wz_278⟩ (fun q => ?_)
      show bj_S (bw_G l D c) Y_La_without 9 (1, 6, 0, 0) ad (q_wr c R Gd Bd f) 1 6 19 [some (.ref (ad 0)), some (.int x1), some (.int x2), some (.int x3), some (.ref (ad 93)), none] [.ref q] N1
      refine bj_astore (L' := [some (.ref (ad 0)), some (.int x1), some (.int x2), some (.int x3), some (.ref (ad 93)), some (.ref q)]) d_La_without_19 (by decide) rfl ?_
      refine bj_iconst (v := (nI 2)) d_La_without_21 (by decide) ?_
      exact bj_iret d_La_without_22 rfl rfl (by decide) (by decide) ⟨2, by decide, rfl, Or.inr ⟨by decide, hRn, hBd⟩⟩
  obtain ⟨hR, hG⟩ := hq1
  obtain ⟨x9, rfl⟩ := hint _ hR
  show bj_S (bw_G l D c) Y_La_without 9 (1, 6, 0, 0) ad (q_wr c R Gd Bd f) 0 0 10 [some (.ref (ad 0)), some (.int x1), some (.int x2), some (.int x3), some (.ref (ad 93)), none] [.int x9, .int (nI 0), .ref (ad 93)] N1
  refine bj_i2l d_La_without_10 rfl ?_
  refine bj_last (j := 0) d_La_without_11 2 rfl (h93 _ hG) rfl (by decide) (by decide) ?_
  refine bj_goto (tgt := 23) d_La_without_12 (by decide) ?_
  refine bj_iconst (v := (nI 0)) d_La_without_23 (by decide) ?_
  exact bj_iret d_La_without_24 rfl rfl (by decide) (by decide) ⟨0, by decide, rfl, Or.inl ⟨rfl, x9, N1, hR, hG, rfl⟩⟩
end LA
