/-! BeatPathOffice: what is needed, small helpers; Batch.put (walks by gen/m_of1.py) -/
section O1

abbrev of_F (ad : Nat → Nat) (N op : Nat) (se : Bool) : List Value := [.int (nI N), .ref (ad 1), .ref (ad 2), .int (nI op), .int (bt_n se), .ref (ad 39), .ref (ad 49), .ref (ad 59), .ref (ad 70)]
/-- a post: returned where φ, thrown (an exception of class E) where not; nothing written -/
def q_need (E : String) (φ : Prop) (M : bj_M) : bj_R → bj_M → Prop := fun r M' => match r with
  | .inl v => v = none ∧ M = M' ∧ φ
  | .inr X => X = E ∧ M = M' ∧ ¬ φ
def q_found (x : Int32) (M : bj_M) : bj_R → bj_M → Prop := fun r M' => match r with
  | .inl v => v = some (.int x) ∧ M = M' ∧ x ≠ -1
  | .inr X => X = xI ∧ M = M' ∧ x = -1
/-- below N -/
def ic (N : Nat) (x : Int32) : Bool := decide (¬ x < 0 ∧ ¬ nI N ≤ x)
theorem ic_t {N : Nat} {x : Int32} (hN : N < 2 ^ 31) (h : ic N x = true) : ∃ a, a < N ∧ x = nI a := by
  have h1 := of_decide_eq_true h
  rcases pk_ix x hN with h2 | h2 | h2
  · exact absurd h2 h1.1
  · exact absurd h2 h1.2
  · exact h2
theorem ic_n {N a : Nat} (hN : N < 2 ^ 31) (ha : a < N) : ic N (nI a) = true := decide_eq_true ⟨nI_pos (by omega), fun h => by
  have := (nI_leI hN (by omega)).mp h
  omega⟩
/-- a ranking's word -/
def rkg (N : Nat) (w : Int32) : Prop := ∀ c, c < 8 → nb w c ≤ (if c < N then 8 else 0)
/-- the i-th of a set -/
def mem_q (x i : Int32) (c : Nat) : Bool := bt x c && decide (nI (mn_cnt (fun j => bt x j) c) = i)
def q_put (c : Nat → ClassId) (ad : Nat → Nat) (M : bj_M) (k kr kt : Nat) (sg : Int32) (sz : Nat) (rk tm : Nat → Int32) (w v : Int32) : bj_R → bj_M → Prop := bj_ret (fun r M' => r = some (.int (nI sz)) ∧ ba_ok c ad M' k kr kt sg (sz + 1) (va_up rk sz w) (va_up tm sz v) ∧ ∀ q, q ≠ k → q ≠ kr → q ≠ kt → M' q = M q)
theorem mem_y {x i : Int32} {c : Nat} (h1 : bt x c = true) (h2 : nI (mn_cnt (fun j => bt x j) c) = i) : mem_q x i c = true := by
  unfold mem_q
  rw [h1, decide_eq_true h2]
  rfl
theorem mem_n1 {x i : Int32} {c : Nat} (h1 : bt x c = false) : mem_q x i c = false := by
  unfold mem_q
  rw [h1]
  rfl
theorem mem_n2 {x i : Int32} {c : Nat} (h2 : ¬ nI (mn_cnt (fun j => bt x j) c) = i) : mem_q x i c = false := by
  unfold mem_q
  rw [decide_eq_false h2]
  exact Bool.and_false _
theorem mn_cnt_t {q : Nat → Bool} {n : Nat} (h : q n = true) : mn_cnt q n + 1 = mn_cnt q (n + 1) := by rw [mn_cnt, if_pos h]
theorem mn_cnt_f {q : Nat → Bool} {n : Nat} (h : q n = false) : mn_cnt q n = mn_cnt q (n + 1) := by rw [mn_cnt, if_neg (by rw [h]; decide)]; rfl
variable (l : Launch) (D : va_G) (c : Nat → ClassId) (ad : Nat → Nat) (M : bj_M)
set_option maxRecDepth 100000 in
set_option maxHeartbeats 4000000 in
/-- isCandidate -/
theorem t_Of_isCandidate {N op : Nat} {se : Bool} (hO : M 0 = some (.inr (4, of_F ad N op se))) (hN : N ≤ 8) {x : Int32} : bj_T (bw_G l D c) Y_Of_isCandidate 0 (0, 0, 0, 0) ad (bj_fn (bt_n (ic N x)) M) [.ref (ad 0), .int x] M := by
  show bj_S _ _ _ _ _ _ 0 0 0 [some (.ref (ad 0)), some (.int x)] [] M
  refine bj_iload_n d_Of_isCandidate_0 rfl rfl ?_
  refine bj_if_lt (tgt := 16) d_Of_isCandidate_1 (by decide) (fun h1 => ?_) (fun h1 => ?_)
  · refine bj_iconst (v := (nI 0)) d_Of_isCandidate_16 (by decide) ?_
    exact bj_iret d_Of_isCandidate_17 rfl rfl (Nat.le_refl _) (Nat.le_refl _) ⟨bt_f (decide_eq_false (fun q => by first | exact q.1 h1 | exact q.2 h9)), rfl⟩
  · refine bj_iload_n d_Of_isCandidate_4 rfl rfl ?_
    refine bj_aload_n d_Of_isCandidate_5 rfl rfl ?_
    refine bj_get d_Of_isCandidate_6 in_Of rfl (by decide : 0 < 9) wf_Of_9 rfl hO rfl ?_
    refine bj_icmp_ge (tgt := 16) d_Of_isCandidate_9 (by decide) (fun h9 => ?_) (fun h9 => ?_)
    · refine bj_iconst (v := (nI 0)) d_Of_isCandidate_16 (by decide) ?_
      exact bj_iret d_Of_isCandidate_17 rfl rfl (Nat.le_refl _) (Nat.le_refl _) ⟨bt_f (decide_eq_false (fun q => by first | exact q.1 h1 | exact q.2 h9)), rfl⟩
    · refine bj_iconst (v := (nI 1)) d_Of_isCandidate_12 (by decide) ?_
      refine bj_goto (tgt := 17) d_Of_isCandidate_13 (by decide) ?_
      exact bj_iret d_Of_isCandidate_17 rfl rfl (Nat.le_refl _) (Nat.le_refl _) ⟨bt_t (decide_eq_true ⟨h1, h9⟩), rfl⟩
set_option maxRecDepth 100000 in
set_option maxHeartbeats 4000000 in
/-- needCandidate -/
theorem t_Of_needCandidate (htr : l.stackTraces = false) {N op : Nat} {se : Bool} (hO : M 0 = some (.inr (4, of_F ad N op se))) (hN : N ≤ 8) {x : Int32} : bj_T (bw_G l D c) Y_Of_needCandidate 6 (0, 0, 1, 6) ad (q_need xA (ic N x = true) M) [.ref (ad 0), .int x] M := by
  show bj_S _ _ _ _ _ _ 0 0 0 [some (.ref (ad 0)), some (.int x)] [] M
  refine bj_aload_n d_Of_needCandidate_0 rfl rfl ?_
  refine bj_iload_n d_Of_needCandidate_1 rfl rfl ?_
  refine bj_cvF sv_Of_60 d_Of_needCandidate_2 (t_Of_isCandidate l D c ad M hO hN) rfl rfl (by decide) (by decide) (by decide) (Nat.le_of_ble_eq_true rfl) rfl hO rfl rfl ?_
  refine bj_if_ne (tgt := 18) d_Of_needCandidate_5 (by decide) (fun h5 => ?_) (fun h5 => ?_)
  · exact bj_vret d_Of_needCandidate_18 rfl (Nat.le_refl _) (Nat.le_refl _) ⟨rfl, rfl, bt_nn h5⟩
  · exact bj_throw (names := xN) d_Of_needCandidate_8 d_Of_needCandidate_11 d_Of_needCandidate_12 d_Of_needCandidate_14 d_Of_needCandidate_17 htr (by decide) (by decide) (by decide) (by decide) wc_Of_64 wi_IllegalArgumentException wt_Of_200 wo_Of_68 (fun x hx => nomatch hx) (by decide) (by decide) (Nat.le_of_ble_eq_true rfl) ⟨rfl, rfl, fun q => by rw [bt_n0.mp h5] at q; cases q⟩
set_option maxRecDepth 100000 in
set_option maxHeartbeats 4000000 in
/-- needPair -/
theorem t_Of_needPair (htr : l.stackTraces = false) {N op : Nat} {se : Bool} (hO : M 0 = some (.inr (4, of_F ad N op se))) (hN : N ≤ 8) {x y : Int32} : bj_T (bw_G l D c) Y_Of_needPair 7 (0, 0, 1, 6) ad (q_need xA (ic N x = true ∧ ic N y = true ∧ x ≠ y) M) [.ref (ad 0), .int x, .int y] M := by
  show bj_S _ _ _ _ _ _ 0 0 0 [some (.ref (ad 0)), some (.int x), some (.int y)] [] M
  refine bj_aload_n d_Of_needPair_0 rfl rfl ?_
  refine bj_iload_n d_Of_needPair_1 rfl rfl ?_
  refine bj_cv sv_Of_57 d_Of_needPair_2 (t_Of_needCandidate l D c ad M htr hO hN) rfl rfl (by decide) (by decide) (by decide) (Nat.le_of_ble_eq_true rfl) rfl hO rfl rfl (fun v1 N1 hq1 => ?_) (fun v1 N1 hq1 => ?_)
  rotate_left
  · obtain ⟨rfl, rfl, h1⟩ := hq1
    exact bj_out (fun x hx => nomatch hx) (by decide) (by decide) ⟨rfl, rfl, fun q => h1 q.1⟩
  obtain ⟨rfl, rfl, h1⟩ := hq1
  show bj_S (bw_G l D c) Y_Of_needPair 7 (0, 0, 1, 6) ad (q_need xA (ic N x = true ∧ ic N y = true ∧ x ≠ y) M) 0 0 5 [some (.ref (ad 0)), some (.int x), some (.int y)] [] M
  refine bj_aload_n d_Of_needPair_5 rfl rfl ?_
  refine bj_iload_n d_Of_needPair_6 rfl rfl ?_
  refine bj_cv sv_Of_57 d_Of_needPair_7 (t_Of_needCandidate l D c ad M htr hO hN) rfl rfl (by decide) (by decide) (by decide) (Nat.le_of_ble_eq_true rfl) rfl hO rfl rfl (fun v2 N2 hq2 => ?_) (fun v2 N2 hq2 => ?_)
  rotate_left
  · obtain ⟨rfl, rfl, h2⟩ := hq2
    exact bj_out (fun x hx => nomatch hx) (by decide) (by decide) ⟨rfl, rfl, fun q => h2 q.2.1⟩
  obtain ⟨rfl, rfl, h2⟩ := hq2
  show bj_S (bw_G l D c) Y_Of_needPair 7 (0, 0, 1, 6) ad (q_need xA (ic N x = true ∧ ic N y = true ∧ x ≠ y) M) 0 0 10 [some (.ref (ad 0)), some (.int x), some (.int y)] [] M
  refine bj_iload_n d_Of_needPair_10 rfl rfl ?_
  refine bj_iload_n d_Of_needPair_11 rfl rfl ?_
  refine bj_icmp_ne (tgt := 25) d_Of_needPair_12 (by decide) (fun h12 => ?_) (fun h12 => ?_)
  · exact bj_vret d_Of_needPair_25 rfl (Nat.le_refl _) (Nat.le_refl _) ⟨rfl, rfl, h1, h2, h12⟩
  · exact bj_throw (names := xN) d_Of_needPair_15 d_Of_needPair_18 d_Of_needPair_19 d_Of_needPair_21 d_Of_needPair_24 htr (by decide) (by decide) (by decide) (by decide) wc_Of_64 wi_IllegalArgumentException wt_Of_202 wo_Of_68 (fun x hx => nomatch hx) (by decide) (by decide) (Nat.le_of_ble_eq_true rfl) ⟨rfl, rfl, fun q => q.2.2 h12⟩
set_option maxRecDepth 100000 in
set_option maxHeartbeats 4000000 in
/-- needBatch -/
theorem t_Of_needBatch (htr : l.stackTraces = false) {N op : Nat} {se : Bool} (hO : M 0 = some (.inr (4, of_F ad N op se))) (hN : N ≤ 8) {x : Int32} : bj_T (bw_G l D c) Y_Of_needBatch 6 (0, 0, 1, 6) ad (q_need xA (ic op x = true) M) [.ref (ad 0), .int x] M := by
  show bj_S _ _ _ _ _ _ 0 0 0 [some (.ref (ad 0)), some (.int x)] [] M
  refine bj_iload_n d_Of_needBatch_0 rfl rfl ?_
  refine bj_if_lt (tgt := 12) d_Of_needBatch_1 (by decide) (fun h1 => ?_) (fun h1 => ?_)
  · exact bj_throw (names := xN) d_Of_needBatch_12 d_Of_needBatch_15 d_Of_needBatch_16 d_Of_needBatch_18 d_Of_needBatch_21 htr (by decide) (by decide) (by decide) (by decide) wc_Of_64 wi_IllegalArgumentException wt_Of_204 wo_Of_68 (fun x hx => nomatch hx) (by decide) (by decide) (Nat.le_of_ble_eq_true rfl) ⟨rfl, rfl, fun q => by have q := of_decide_eq_true q; first | exact q.1 h1 | exact q.2 (Int32.not_lt.mp h9)⟩
  · refine bj_iload_n d_Of_needBatch_4 rfl rfl ?_
    refine bj_aload_n d_Of_needBatch_5 rfl rfl ?_
    refine bj_get d_Of_needBatch_6 in_Of rfl (by decide : 3 < 9) wf_Of_24 rfl hO rfl ?_
    refine bj_icmp_lt (tgt := 22) d_Of_needBatch_9 (by decide) (fun h9 => ?_) (fun h9 => ?_)
    · exact bj_vret d_Of_needBatch_22 rfl (Nat.le_refl _) (Nat.le_refl _) ⟨rfl, rfl, decide_eq_true ⟨h1, Int32.not_le.mpr h9⟩⟩
    · exact bj_throw (names := xN) d_Of_needBatch_12 d_Of_needBatch_15 d_Of_needBatch_16 d_Of_needBatch_18 d_Of_needBatch_21 htr (by decide) (by decide) (by decide) (by decide) wc_Of_64 wi_IllegalArgumentException wt_Of_204 wo_Of_68 (fun x hx => nomatch hx) (by decide) (by decide) (Nat.le_of_ble_eq_true rfl) ⟨rfl, rfl, fun q => by have q := of_decide_eq_true q; first | exact q.1 h1 | exact q.2 (Int32.not_lt.mp h9)⟩
set_option maxRecDepth 100000 in
set_option maxHeartbeats 4000000 in
/-- isRanking -/
theorem t_Of_isRanking {N op : Nat} {se : Bool} (hO : M 0 = some (.inr (4, of_F ad N op se))) (hN : N ≤ 8) {w : Int32} : bj_T (bw_G l D c) Y_Of_isRanking 1 (0, 0, 0, 0) ad (q_b M (rkg N w)) [.ref (ad 0), .int w] M := by
  show bj_S _ _ _ _ _ _ 0 0 0 [some (.ref (ad 0)), some (.int w), none] [] M
  refine bj_iconst (v := (nI 0)) d_Of_isRanking_0 (by decide) ?_
  refine bj_istore_n (L' := [some (.ref (ad 0)), some (.int w), some (.int (nI 0))]) d_Of_isRanking_1 rfl (by decide) rfl ?_
  have lp : ∀ (i : Nat), (i ≤ 8) → (∀ j, j < i → nb w j ≤ (if j < N then 8 else 0)) → bj_S (bw_G l D c) Y_Of_isRanking 1 (0, 0, 0, 0) ad (q_b M (rkg N w)) 0 0 2 [some (.ref (ad 0)), some (.int w), some (.int (nI i))] [] M := by
    intro i
    induction hd_lp : 8 - i using Nat.strongRecOn generalizing i with
    | ind d_lp ih_lp =>
      intro hi hq
      refine bj_iload_n d_Of_isRanking_2 rfl rfl ?_
      refine bj_bipush (v := (nI 8)) d_Of_isRanking_3 (by decide) ?_
      refine bj_icmp_geN (tgt := 38) d_Of_isRanking_5 (by decide) (by first | omega | exact Nat.lt_trans (nb_lt w i) (by decide)) (by first | omega | exact Nat.lt_trans (nb_lt w i) (by decide)) (fun h5 => ?_) (fun h5 => ?_)
      · refine bj_iconst (v := (nI 1)) d_Of_isRanking_38 (by decide) ?_
        exact bj_iret d_Of_isRanking_39 rfl rfl (Nat.le_refl _) (Nat.le_refl _) (qb_t (fun j hj => hq j (by omega)))
      · refine bj_iload_n d_Of_isRanking_8 rfl rfl ?_
        refine bj_iload_n d_Of_isRanking_9 rfl rfl ?_
        refine bj_csF ss_Of_215 d_Of_isRanking_10 (t_Of_nibble l D c ad M (by omega)) rfl rfl (by decide) (by decide) (by decide) (Nat.le_of_ble_eq_true rfl) rfl ?_
        refine bj_iload_n d_Of_isRanking_13 rfl rfl ?_
        refine bj_aload_n d_Of_isRanking_14 rfl rfl ?_
        refine bj_get d_Of_isRanking_15 in_Of rfl (by decide : 0 < 9) wf_Of_9 rfl hO rfl ?_
        refine bj_icmp_geN (tgt := 26) d_Of_isRanking_18 (by decide) (by first | omega | exact Nat.lt_trans (nb_lt w i) (by decide)) (by first | omega | exact Nat.lt_trans (nb_lt w i) (by decide)) (fun h18 => ?_) (fun h18 => ?_)
        · have he : (if i < N then 8 else 0) = 0 := if_neg (by omega)
          refine bj_iconst (v := (nI 0)) d_Of_isRanking_26 (by decide) ?_
          refine bj_icmp_leN (tgt := 32) d_Of_isRanking_27 (by decide) (by first | omega | exact Nat.lt_trans (nb_lt w i) (by decide)) (by first | omega | exact Nat.lt_trans (nb_lt w i) (by decide)) (fun h27 => ?_) (fun h27 => ?_)
          · have hz : nb w i ≤ (if i < N then 8 else 0) := by rw [he]; exact h27
            refine bj_iinc (v := (nI (i + 1))) (L' := [some (.ref (ad 0)), some (.int w), some (.int (nI (i + 1)))]) d_Of_isRanking_32 rfl (bj_inc1 _) (by decide) rfl ?_
            refine bj_goto (tgt := 2) d_Of_isRanking_35 (by decide) ?_
            exact ih_lp (8 - (i + 1)) (by omega) (i + 1) rfl (by omega) (fun j hj => by
              rcases Nat.lt_or_ge j i with q | q
              · exact hq j q
              · rw [show j = i by omega]; exact hz)
          · have hz : ¬ nb w i ≤ (if i < N then 8 else 0) := by rw [he]; omega
            refine bj_iconst (v := (nI 0)) d_Of_isRanking_30 (by decide) ?_
            exact bj_iret d_Of_isRanking_31 rfl rfl (Nat.le_refl _) (Nat.le_refl _) (qb_f (fun q => hz (q i h5)))
        · have he : (if i < N then 8 else 0) = 8 := if_pos h18
          refine bj_bipush (v := (nI 8)) d_Of_isRanking_21 (by decide) ?_
          refine bj_goto (tgt := 27) d_Of_isRanking_23 (by decide) ?_
          refine bj_icmp_leN (tgt := 32) d_Of_isRanking_27 (by decide) (by first | omega | exact Nat.lt_trans (nb_lt w i) (by decide)) (by first | omega | exact Nat.lt_trans (nb_lt w i) (by decide)) (fun h27 => ?_) (fun h27 => ?_)
          · have hz : nb w i ≤ (if i < N then 8 else 0) := by rw [he]; exact h27
            refine bj_iinc (v := (nI (i + 1))) (L' := [some (.ref (ad 0)), some (.int w), some (.int (nI (i + 1)))]) d_Of_isRanking_32 rfl (bj_inc1 _) (by decide) rfl ?_
            refine bj_goto (tgt := 2) d_Of_isRanking_35 (by decide) ?_
            exact ih_lp (8 - (i + 1)) (by omega) (i + 1) rfl (by omega) (fun j hj => by
              rcases Nat.lt_or_ge j i with q | q
              · exact hq j q
              · rw [show j = i by omega]; exact hz)
          · have hz : ¬ nb w i ≤ (if i < N then 8 else 0) := by rw [he]; omega
            refine bj_iconst (v := (nI 0)) d_Of_isRanking_30 (by decide) ?_
            exact bj_iret d_Of_isRanking_31 rfl rfl (Nat.le_refl _) (Nat.le_refl _) (qb_f (fun q => hz (q i h5)))
  exact lp 0 (Nat.zero_le _) (fun j hj => absurd hj (Nat.not_lt_zero _))
set_option maxRecDepth 100000 in
set_option maxHeartbeats 4000000 in
/-- needRanking -/
theorem t_Of_needRanking (htr : l.stackTraces = false) {N op : Nat} {se : Bool} (hO : M 0 = some (.inr (4, of_F ad N op se))) (hN : N ≤ 8) {w : Int32} : bj_T (bw_G l D c) Y_Of_needRanking 6 (0, 0, 1, 6) ad (q_need xA (rkg N w) M) [.ref (ad 0), .int w] M := by
  show bj_S _ _ _ _ _ _ 0 0 0 [some (.ref (ad 0)), some (.int w)] [] M
  refine bj_aload_n d_Of_needRanking_0 rfl rfl ?_
  refine bj_iload_n d_Of_needRanking_1 rfl rfl ?_
  refine bj_cvR sv_Of_206 d_Of_needRanking_2 (t_Of_isRanking l D c ad M hO hN) rfl rfl (by decide) (by decide) (by decide) (Nat.le_of_ble_eq_true rfl) rfl hO rfl rfl (fun v1 N1 hq1 => ?_)
  obtain ⟨r9, rfl, hr9, hM9⟩ := hq1
  show bj_S (bw_G l D c) Y_Of_needRanking 6 (0, 0, 1, 6) ad (q_need xA (rkg N w) M) 0 0 5 [some (.ref (ad 0)), some (.int w)] [.int (bt_n r9)] N1
  subst hM9
  refine bj_if_ne (tgt := 18) d_Of_needRanking_5 (by decide) (fun h5 => ?_) (fun h5 => ?_)
  · exact bj_vret d_Of_needRanking_18 rfl (Nat.le_refl _) (Nat.le_refl _) ⟨rfl, rfl, hr9.mp (bt_nn h5)⟩
  · exact bj_throw (names := xN) d_Of_needRanking_8 d_Of_needRanking_11 d_Of_needRanking_12 d_Of_needRanking_14 d_Of_needRanking_17 htr (by decide) (by decide) (by decide) (by decide) wc_Of_64 wi_IllegalArgumentException wt_Of_209 wo_Of_68 (fun x hx => nomatch hx) (by decide) (by decide) (Nat.le_of_ble_eq_true rfl) ⟨rfl, rfl, fun q => by rw [hr9.mpr q] at h5; exact absurd h5 (by decide)⟩
set_option maxRecDepth 100000 in
set_option maxHeartbeats 4000000 in
/-- needUnsealed -/
theorem t_Of_needUnsealed (htr : l.stackTraces = false) {N op : Nat} {se : Bool} (hO : M 0 = some (.inr (4, of_F ad N op se))) (hN : N ≤ 8)  : bj_T (bw_G l D c) Y_Of_needUnsealed 6 (0, 0, 1, 6) ad (q_need xS (se = false) M) [.ref (ad 0)] M := by
  show bj_S _ _ _ _ _ _ 0 0 0 [some (.ref (ad 0))] [] M
  refine bj_aload_n d_Of_needUnsealed_0 rfl rfl ?_
  refine bj_get d_Of_needUnsealed_1 in_Of rfl (by decide : 4 < 9) wf_Of_27 rfl hO rfl ?_
  refine bj_if_eq (tgt := 17) d_Of_needUnsealed_4 (by decide) (fun h4 => ?_) (fun h4 => ?_)
  · exact bj_vret d_Of_needUnsealed_17 rfl (Nat.le_refl _) (Nat.le_refl _) ⟨rfl, rfl, bt_n0.mp h4⟩
  · exact bj_throw (names := xN) d_Of_needUnsealed_7 d_Of_needUnsealed_10 d_Of_needUnsealed_11 d_Of_needUnsealed_13 d_Of_needUnsealed_16 htr (by decide) (by decide) (by decide) (by decide) wc_Of_74 wi_IllegalStateException wt_Of_211 wo_Of_78 (fun x hx => nomatch hx) (by decide) (by decide) (Nat.le_of_ble_eq_true rfl) ⟨rfl, rfl, fun q => by rw [q] at h4; exact h4 rfl⟩
set_option maxRecDepth 100000 in
set_option maxHeartbeats 4000000 in
/-- needFound -/
theorem t_Of_needFound (htr : l.stackTraces = false) {x : Int32} : bj_T (bw_G l D c) Y_Of_needFound 6 (0, 0, 1, 6) ad (q_found x M) [.int x] M := by
  show bj_S _ _ _ _ _ _ 0 0 0 [some (.int x)] [] M
  refine bj_iload_n d_Of_needFound_0 rfl rfl ?_
  refine bj_iconst (v := (-1)) d_Of_needFound_1 (by decide) ?_
  refine bj_icmp_ne (tgt := 15) d_Of_needFound_2 (by decide) (fun h2 => ?_) (fun h2 => ?_)
  · refine bj_iload_n d_Of_needFound_15 rfl rfl ?_
    exact bj_iret d_Of_needFound_16 rfl rfl (Nat.le_refl _) (Nat.le_refl _) ⟨rfl, rfl, h2⟩
  · exact bj_throw (names := xN) d_Of_needFound_5 d_Of_needFound_8 d_Of_needFound_9 d_Of_needFound_11 d_Of_needFound_14 htr (by decide) (by decide) (by decide) (by decide) wc_Of_83 wi_IndexOutOfBoundsException wt_Of_213 wo_Of_85 (fun x hx => nomatch hx) (by decide) (by decide) (Nat.le_of_ble_eq_true rfl) ⟨rfl, rfl, h2⟩
set_option maxRecDepth 100000 in
set_option maxHeartbeats 4000000 in
/-- stageBefore -/
theorem t_Of_stageBefore {x : Int32} : bj_T (bw_G l D c) Y_Of_stageBefore 0 (0, 0, 0, 0) ad (bj_fn (if x = 0 then nI 0 else if x = nI 1 then nI 1 else nI 2) M) [.int x] M := by
  show bj_S _ _ _ _ _ _ 0 0 0 [some (.int x)] [] M
  refine bj_iload_n d_Of_stageBefore_0 rfl rfl ?_
  refine bj_if_ne (tgt := 6) d_Of_stageBefore_1 (by decide) (fun h1 => ?_) (fun h1 => ?_)
  · refine bj_iload_n d_Of_stageBefore_6 rfl rfl ?_
    refine bj_iconst (v := (nI 1)) d_Of_stageBefore_7 (by decide) ?_
    refine bj_icmp_ne (tgt := 15) d_Of_stageBefore_8 (by decide) (fun h8 => ?_) (fun h8 => ?_)
    · refine bj_iconst (v := (nI 2)) d_Of_stageBefore_15 (by decide) ?_
      exact bj_iret d_Of_stageBefore_16 rfl rfl (Nat.le_refl _) (Nat.le_refl _) ⟨by rw [if_neg h1, if_neg h8], rfl⟩
    · refine bj_iconst (v := (nI 1)) d_Of_stageBefore_11 (by decide) ?_
      refine bj_goto (tgt := 16) d_Of_stageBefore_12 (by decide) ?_
      exact bj_iret d_Of_stageBefore_16 rfl rfl (Nat.le_refl _) (Nat.le_refl _) ⟨by rw [if_neg h1, if_pos h8], rfl⟩
  · refine bj_iconst (v := (nI 0)) d_Of_stageBefore_4 (by decide) ?_
    exact bj_iret d_Of_stageBefore_5 rfl rfl (Nat.le_refl _) (Nat.le_refl _) ⟨by rw [if_pos h1], rfl⟩
set_option maxRecDepth 100000 in
set_option maxHeartbeats 4000000 in
/-- member -/
theorem t_Of_member {x i : Int32} : bj_T (bw_G l D c) Y_Of_member 1 (0, 0, 0, 0) ad (bj_fn (oI (ft (mem_q x i) 8)) M) [.int x, .int i] M := by
  show bj_S _ _ _ _ _ _ 0 0 0 [some (.int x), some (.int i), none, none] [] M
  refine bj_iconst (v := (nI 0)) d_Of_member_0 (by decide) ?_
  refine bj_istore_n (L' := [some (.int x), some (.int i), some (.int (nI 0)), none]) d_Of_member_1 rfl (by decide) rfl ?_
  refine bj_iconst (v := (nI 0)) d_Of_member_2 (by decide) ?_
  refine bj_istore_n (L' := [some (.int x), some (.int i), some (.int (nI 0)), some (.int (nI 0))]) d_Of_member_3 rfl (by decide) rfl ?_
  have lp : ∀ (j : Nat), (j ≤ 8) → (∀ z, z < j → mem_q x i z = false) → bj_S (bw_G l D c) Y_Of_member 1 (0, 0, 0, 0) ad (bj_fn (oI (ft (mem_q x i) 8)) M) 0 0 4 [some (.int x), some (.int i), some (.int (nI (mn_cnt (fun j => bt x j) j))), some (.int (nI j))] [] M := by
    intro j
    induction hd_lp : 8 - j using Nat.strongRecOn generalizing j with
    | ind d_lp ih_lp =>
      intro hj hq
      refine bj_iload_n d_Of_member_4 rfl rfl ?_
      refine bj_bipush (v := (nI 8)) d_Of_member_5 (by decide) ?_
      refine bj_icmp_geN (tgt := 34) d_Of_member_7 (by decide) (by omega) (by omega) (fun h7 => ?_) (fun h7 => ?_)
      · refine bj_iconst (v := (-1)) d_Of_member_34 (by decide) ?_
        exact bj_iret d_Of_member_35 rfl rfl (Nat.le_refl _) (Nat.le_refl _) ⟨by rw [ft_none.mpr (fun z hz => hq z (by omega))]; rfl, rfl⟩
      · refine bj_iload_n d_Of_member_10 rfl rfl ?_
        refine bj_iload_n d_Of_member_11 rfl rfl ?_
        refine bj_csF ss_Of_163 d_Of_member_12 (t_Of_has l D c ad M (by omega)) rfl rfl (by decide) (by decide) (by decide) (Nat.le_of_ble_eq_true rfl) rfl ?_
        refine bj_if_eq (tgt := 28) d_Of_member_15 (by decide) (fun h15 => ?_) (fun h15 => ?_)
        · have hz := mem_n1 (i := i) (bt_n0.mp h15)
          refine bj_iinc (v := (nI (j + 1))) (L' := [some (.int x), some (.int i), some (.int (nI (mn_cnt (fun j => bt x j) j))), some (.int (nI (j + 1)))]) d_Of_member_28 rfl (bj_inc1 _) (by decide) rfl ?_
          refine bj_goto (tgt := 4) d_Of_member_31 (by decide) ?_
          rw [mn_cnt_f (bt_n0.mp h15)]
          exact ih_lp (8 - (j + 1)) (by omega) (j + 1) rfl (by omega) (fun z hz2 => by
            rcases Nat.lt_or_ge z j with q | q
            · exact hq z q
            · rw [show z = j by omega]; exact hz)
        · refine bj_iload_n d_Of_member_18 rfl rfl ?_
          refine bj_iload_n d_Of_member_19 rfl rfl ?_
          refine bj_icmp_ne (tgt := 25) d_Of_member_20 (by decide) (fun h20 => ?_) (fun h20 => ?_)
          · have hz := mem_n2 h20
            refine bj_iinc (v := (nI (mn_cnt (fun j => bt x j) (j + 1)))) (L' := [some (.int x), some (.int i), some (.int (nI (mn_cnt (fun j => bt x j) (j + 1)))), some (.int (nI j))]) d_Of_member_25 rfl (by rw [← mn_cnt_t (bt_nn h15)]; exact bj_inc1 _) (by decide) rfl ?_
            refine bj_iinc (v := (nI (j + 1))) (L' := [some (.int x), some (.int i), some (.int (nI (mn_cnt (fun j => bt x j) (j + 1)))), some (.int (nI (j + 1)))]) d_Of_member_28 rfl (bj_inc1 _) (by decide) rfl ?_
            refine bj_goto (tgt := 4) d_Of_member_31 (by decide) ?_
            exact ih_lp (8 - (j + 1)) (by omega) (j + 1) rfl (by omega) (fun z hz2 => by
              rcases Nat.lt_or_ge z j with q | q
              · exact hq z q
              · rw [show z = j by omega]; exact hz)
          · refine bj_iload_n d_Of_member_23 rfl rfl ?_
            exact bj_iret d_Of_member_24 rfl rfl (Nat.le_refl _) (Nat.le_refl _) ⟨by rw [ft_eq.mpr ⟨h7, mem_y (bt_nn h15) h20, hq⟩]; rfl, rfl⟩
  exact lp 0 (Nat.zero_le _) (fun j hj => absurd hj (Nat.not_lt_zero _))
set_option maxRecDepth 100000 in
set_option maxHeartbeats 4000000 in
/-- Batch.put -/
theorem t_Ba_put {k kr kt sz : Nat} {sg w v : Int32} {rk tm : Nat → Int32} (h : ba_ok c ad M k kr kt sg sz rk tm) (hsz : sz < 6) (h1 : k ≠ kr) (h2 : k ≠ kt) (h3 : kr ≠ kt) : bj_T (bw_G l D c) Y_Ba_put 0 (0, 0, 0, 0) ad (q_put c ad M k kr kt sg sz rk tm w v) [.ref (ad k), .int w, .int v] M := by
  show bj_S _ _ _ _ _ _ 0 0 0 [some (.ref (ad k)), some (.int w), some (.int v)] [] M
  refine bj_aload_n d_Ba_put_0 rfl rfl ?_
  refine bj_get d_Ba_put_1 in_Ba rfl (by decide : 2 < 4) wf_Ba_18 rfl h.1 rfl ?_
  refine bj_aload_n d_Ba_put_4 rfl rfl ?_
  refine bj_get d_Ba_put_5 in_Ba rfl (by decide : 1 < 4) wf_Ba_15 rfl h.1 rfl ?_
  refine bj_iload_n d_Ba_put_8 rfl rfl ?_
  refine bv_iast d_Ba_put_9 0 rfl h.2.1 (by omega) (by omega) (fun N1 hN1 hO1 => ?_)
  have g1 : ba_ok c ad N1 k kr kt sg sz (va_up rk sz w) tm := ⟨(hO1 k h1).trans h.1, hN1, h.2.2.in (hO1 kt (Ne.symm h3))⟩
  refine bj_aload_n d_Ba_put_10 rfl rfl ?_
  refine bj_get d_Ba_put_11 in_Ba rfl (by decide : 3 < 4) wf_Ba_22 rfl g1.1 rfl ?_
  refine bj_aload_n d_Ba_put_14 rfl rfl ?_
  refine bj_get d_Ba_put_15 in_Ba rfl (by decide : 1 < 4) wf_Ba_15 rfl g1.1 rfl ?_
  refine bj_iload_n d_Ba_put_18 rfl rfl ?_
  refine bv_iast d_Ba_put_19 0 rfl g1.2.2 (by omega) (by omega) (fun N2 hN2 hO2 => ?_)
  have g2 : ba_ok c ad N2 k kr kt sg sz (va_up rk sz w) (va_up tm sz v) := ⟨(hO2 k h2).trans g1.1, g1.2.1.in (hO2 kr h3), hN2⟩
  refine bj_aload_n d_Ba_put_20 rfl rfl ?_
  refine bj_dup d_Ba_put_21 rfl ?_
  refine bj_get d_Ba_put_22 in_Ba rfl (by decide : 1 < 4) wf_Ba_15 rfl g2.1 rfl ?_
  refine bj_iconst (v := (nI 1)) d_Ba_put_25 (by decide) ?_
  refine bj_iadd (v := (nI (sz + 1))) d_Ba_put_26 (nI_add _ _) ?_
  refine bj_put d_Ba_put_27 in_Ba ok_Ba nm_Ba rfl (by decide : 1 < 4) wf_Ba_15 rfl rfl rfl rfl rfl (Nat.le_of_ble_eq_true rfl) g2.1 ?_
  have g3 : ba_ok c ad (va_up N2 k (some (.inr (0, [.int sg, .int (nI (sz + 1)), .ref (ad kr), .ref (ad kt)])))) k kr kt sg (sz + 1) (va_up rk sz w) (va_up tm sz v) := ⟨va_up_self _ _ _, g2.2.1.in (va_up_ne _ _ (Ne.symm h1)), g2.2.2.in (va_up_ne _ _ (Ne.symm h2))⟩
  have hf : ∀ q, q ≠ k → q ≠ kr → q ≠ kt → (va_up N2 k (some (.inr (0, [.int sg, .int (nI (sz + 1)), .ref (ad kr), .ref (ad kt)])))) q = M q := fun q q1 q2 q3 => (va_up_ne _ _ q1).trans ((hO2 q q3).trans (hO1 q q2))
  show bj_S _ _ _ _ _ _ 0 0 _ _ [] (va_up N2 k (some (.inr (0, [.int sg, .int (nI (sz + 1)), .ref (ad kr), .ref (ad kt)]))))
  generalize va_up N2 k (some (.inr (0, [.int sg, .int (nI (sz + 1)), .ref (ad kr), .ref (ad kt)]))) = M7 at g3 hf ⊢
  refine bj_aload_n d_Ba_put_30 rfl rfl ?_
  refine bj_get d_Ba_put_31 in_Ba rfl (by decide : 1 < 4) wf_Ba_15 rfl g3.1 rfl ?_
  refine bj_iconst (v := (nI 1)) d_Ba_put_34 (by decide) ?_
  refine bj_isub (v := (nI sz)) d_Ba_put_35 (pk_sub (by omega)) ?_
  exact bj_iret d_Ba_put_36 rfl rfl (Nat.le_refl _) (Nat.le_refl _) ⟨rfl, g3, hf⟩
end O1
