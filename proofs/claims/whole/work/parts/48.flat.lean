/-! the reference's flat grids of eight by eight against the class's -/
section FL
/-- nothing outside the candidates -/
def pz (N : Nat) (p : Nat → Nat → Nat) (a b : Nat) : Nat := if a < N ∧ b < N then p a b else 0
theorem pz_in {N a b : Nat} {p : Nat → Nat → Nat} (ha : a < N) (hb : b < N) : pz N p a b = p a b := if_pos ⟨ha, hb⟩
theorem drn_pz {N a b : Nat} {p : Nat → Nat → Nat} : drn (pz N p) a b = if a < N ∧ b < N then drn p a b else 0 := by
  by_cases h : a < N ∧ b < N
  · unfold drn
    rw [pz_in h.1 h.2, pz_in h.2 h.1, if_pos h]
  · rw [if_neg h]
    unfold drn pz
    rw [if_neg h, if_neg (show ¬ (b < N ∧ a < N) by omega), if_neg (Nat.lt_irrefl _)]
theorem drn_pz_in {N a b : Nat} {p : Nat → Nat → Nat} (ha : a < N) (hb : b < N) : drn (pz N p) a b = drn p a b := by rw [drn_pz, if_pos ⟨ha, hb⟩]
theorem mg_st_pz {N s a b : Nat} {p : Nat → Nat → Nat} (hN : N ≤ 8) : mg_st (drn (pz N p)) 8 (s + 1) a b ↔ mg_st (drn p) N (s + 1) a b := by
  unfold mg_st
  rw [drn_pz]
  by_cases h : a < N ∧ b < N
  · rw [if_pos h]
    exact ⟨fun q => ⟨h.1, h.2, q.2.2⟩, fun q => ⟨by omega, by omega, q.2.2⟩⟩
  · rw [if_neg h]
    exact ⟨fun q => by omega, fun q => absurd ⟨q.1, q.2.1⟩ h⟩
theorem tg_to {r r' : Nat → Nat → Prop} (h : ∀ x y, r x y → r' x y) {a b : Nat} (hp : Relation.TransGen r a b) : Relation.TransGen r' a b := by
  induction hp with
  | single g => exact .single (h _ _ g)
  | tail _ g ih => exact .tail ih (h _ _ g)
theorem nat_gt {x y : Nat} (h : ∀ s, s < x ↔ s < y) : x = y := by
  have h1 := h x
  have h2 := h y
  omega
theorem mg_F_pz {N a b : Nat} {p : Nat → Nat → Nat} (hN : N ≤ 8) (ha : a < N) (hb : b < N) : mg_F (drn (pz N p)) 8 a b = mg_F (drn p) N a b := nat_gt (fun s => by
  rw [mg_F_gt (by omega) (by omega), mg_F_gt ha hb]
  exact ⟨tg_to (fun x y h => (mg_st_pz hN).mp h), tg_to (fun x y h => (mg_st_pz hN).mpr h)⟩)
/-- a grid of a flat one -/
def gE (e : Nat → Nat) (a b : Nat) : Nat := e (8 * a + b)
/-- what stands while the strengths grow -/
def fl_ok (d e : Nat → Nat) (B : Nat) : Prop := (∀ j, j < 64 → d j ≤ e j) ∧ (∀ a b, a < 8 → b < 8 → a ≠ b → 0 < e (8 * a + b) → Relation.TransGen (mg_st (gE d) 8 (e (8 * a + b))) a b) ∧ (∀ j, j < 64 → e j ≤ B) ∧ ∀ j, j < 64 → d j ≤ B
def fl_c1 (d e : Nat → Nat) (k : Nat) : Prop := k / 64 ≠ k % 8 → min (e (8 * (k / 64) + k / 8 % 8)) (d (8 * (k / 8 % 8) + k % 8)) ≤ e (8 * (k / 64) + k % 8)
def fl_mu (B : Nat) (e : Nat → Nat) : Nat := sm (fun j => B - e j) 64
theorem fl_0 {d : Nat → Nat} {B : Nat} (h : ∀ j, j < 64 → d j ≤ B) : fl_ok d d B := ⟨fun _ _ => Nat.le_refl _, fun a b ha hb _ _ => .single ⟨ha, hb, Nat.le_refl _⟩, h, h⟩
theorem fl_s {d e : Nat → Nat} {B k : Nat} (h : fl_ok d e B) (hk : k < 512) (h1 : e (8 * (k / 64) + k % 8) < min (e (8 * (k / 64) + k / 8 % 8)) (d (8 * (k / 8 % 8) + k % 8))) : fl_ok d (va_up e (8 * (k / 64) + k % 8) (min (e (8 * (k / 64) + k / 8 % 8)) (d (8 * (k / 8 % 8) + k % 8)))) B ∧ fl_mu B (va_up e (8 * (k / 64) + k % 8) (min (e (8 * (k / 64) + k / 8 % 8)) (d (8 * (k / 8 % 8) + k % 8)))) < fl_mu B e := by
  obtain ⟨g1, g2, g3, g4⟩ := h
  have ha : k / 64 < 8 := by omega
  have hb : k / 8 % 8 < 8 := by omega
  have hc : k % 8 < 8 := by omega
  generalize k / 64 = a at *
  generalize k / 8 % 8 = b at *
  generalize k % 8 = c at *
  have hm1 := Nat.min_le_left (e (8 * a + b)) (d (8 * b + c))
  have hm2 := Nat.min_le_right (e (8 * a + b)) (d (8 * b + c))
  generalize hv : min (e (8 * a + b)) (d (8 * b + c)) = v at *
  have hvB : v ≤ B := Nat.le_trans hm2 (g4 _ (by omega))
  refine ⟨⟨fun j hj => ?_, fun x y hx hy hxy hp => ?_, fun j hj => ?_, g4⟩, ?_⟩
  · by_cases q : j = 8 * a + c
    · subst q
      rw [va_up_self]
      have := g1 _ hj
      omega
    · rw [va_up_ne _ _ q]; exact g1 j hj
  · by_cases q : 8 * x + y = 8 * a + c
    · have e1 : x = a := by omega
      have e2 : y = c := by omega
      subst e1
      subst e2
      rw [va_up_self] at hp ⊢
      have st : mg_st (gE d) 8 v b y := ⟨hb, hy, hm2⟩
      by_cases e3 : x = b
      · subst e3
        exact .single st
      · exact .tail (mg_st_le (g2 x b hx hb e3 (by omega)) hm1) st
    · rw [va_up_ne _ _ q] at hp ⊢
      exact g2 x y hx hy hxy hp
  · by_cases q : j = 8 * a + c
    · subst q
      rw [va_up_self]; exact hvB
    · rw [va_up_ne _ _ q]; exact g3 j hj
  · have h9 := sm_up (f := fun j => B - e j) (g := fun j => B - va_up e (8 * a + c) v j) (j := 8 * a + c) 64 (by omega) (fun i _ hi => by rw [va_up_ne _ _ hi])
    rw [va_up_self] at h9
    unfold fl_mu
    omega
/-- closed: the strongest ways -/
theorem fl_end {d e : Nat → Nat} {B : Nat} (h : fl_ok d e B) (hc : ∀ k, k < 512 → fl_c1 d e k) {a b : Nat} (ha : a < 8) (hb : b < 8) (hab : a ≠ b) : e (8 * a + b) = mg_F (gE d) 8 a b := by
  have hfx : mg_fx (gE d) (gE e) 8 := by
    refine ⟨fun x y hx hy => h.1 _ (by omega), fun x y z hx hy hz hxz => ?_⟩
    have h1 := hc (64 * x + 8 * y + z) (by omega)
    unfold fl_c1 at h1
    rw [show (64 * x + 8 * y + z) / 64 = x by omega, show (64 * x + 8 * y + z) % 8 = z by omega, show (64 * x + 8 * y + z) / 8 % 8 = y by omega] at h1
    exact h1 hxz
  exact (mg_same (mg_F_cl (gE d) 8) (mg_F_ac (gE d) 8) hfx (fun x y hx hy hxy hp => h.2.1 x y hx hy hxy hp) ha hb hab).symm
theorem mg_F_to {dr dr' : Nat → Nat → Nat} {n a b : Nat} (h : ∀ x y, x < n → y < n → dr x y = dr' x y) (ha : a < n) (hb : b < n) : mg_F dr n a b = mg_F dr' n a b := nat_gt (fun s => by
  rw [mg_F_gt ha hb, mg_F_gt ha hb]
  exact ⟨tg_to (fun x y g => ⟨g.1, g.2.1, by rw [← h x y g.1 g.2.1]; exact g.2.2⟩), tg_to (fun x y g => ⟨g.1, g.2.1, by rw [h x y g.1 g.2.1]; exact g.2.2⟩)⟩)
/-- the reference's strengths are the class's -/
theorem fl_str {p : Nat → Nat → Nat} {d e : Nat → Nat} {B N : Nat} (hN : N ≤ 8) (hd : ∀ j, j < 64 → d j = drn (pz N p) (j / 8) (j % 8)) (h : fl_ok d e B) (hc : ∀ k, k < 512 → fl_c1 d e k) {a b : Nat} (ha : a < N) (hb : b < N) (hab : a ≠ b) : e (8 * a + b) = mg_F (drn p) N a b := by
  rw [fl_end h hc (by omega) (by omega) hab, ← mg_F_pz hN ha hb]
  exact mg_F_to (fun x y hx hy => by
    unfold gE
    rw [hd _ (by omega), show (8 * x + y) / 8 = x by omega, show (8 * x + y) % 8 = y by omega]) (by omega) (by omega)
/-- the part of the sums that the first batches make -/
def ppart (sg sz : Nat → Nat) (rk : Nat → Nat → Int32) (tm : Nat → Nat → Nat) (but b a x : Nat) : Nat := sm (fun j => if sg j = 1 ∧ j ≠ but then bsum (sz j) (rk j) (tm j) a x else 0) b
def mav (w v : Int32) (a b : Nat) : Int32 := if bef w a b = true then v else 0
theorem cn_add {N j t : Nat} {w : Int32} {f : Nat → Nat → Nat} : (if j / 8 < N ∧ j % 8 < N then nI (pz N f (j / 8) (j % 8)) + mav w (nI t) (j / 8) (j % 8) else nI (pz N f (j / 8) (j % 8))) = nI (pz N (fun a x => f a x + (if bef w a x = true then t else 0)) (j / 8) (j % 8)) := by
  unfold pz
  by_cases h : j / 8 < N ∧ j % 8 < N
  · rw [if_pos h, if_pos h, if_pos h, ← nI_add]
    congr 1
    unfold mav
    split
    · rfl
    · rw [nI_0]
  · rw [if_neg h, if_neg h, if_neg h]
end FL
