section MB
/-! bits of an int: the family 'Int32 by its bits' of kit/laws/BITS.to-paste stands here as given, with what this claim asks beside it -/
def bt (x : Int32) (i : Nat) : Bool := x.toBitVec.getLsbD i
theorem b_ext {x y : Int32} (h : ∀ i, i < 32 → bt x i = bt y i) : x = y := Int32.toBitVec_inj.mp (BitVec.eq_of_getLsbD_eq (fun i hi => h i hi))
theorem b_or (x y : Int32) (i : Nat) : bt (x ||| y) i = (bt x i || bt y i) := by unfold bt; rw [Int32.toBitVec_or, BitVec.getLsbD_or]
theorem b_and (x y : Int32) (i : Nat) : bt (x &&& y) i = (bt x i && bt y i) := by unfold bt; rw [Int32.toBitVec_and, BitVec.getLsbD_and]
theorem b_xor (x y : Int32) (i : Nat) : bt (x ^^^ y) i = (bt x i ^^ bt y i) := by unfold bt; rw [Int32.toBitVec_xor, BitVec.getLsbD_xor]
theorem b_big {x : Int32} {i : Nat} (h : 32 ≤ i) : bt x i = false := BitVec.getLsbD_of_ge _ _ h
theorem b_255 (i : Nat) : bt 255 i = decide (i < 8) := by
  rcases Nat.lt_or_ge i 32 with h | h
  · exact (by decide +kernel : ∀ i, i < 32 → bt 255 i = decide (i < 8)) i h
  · rw [b_big h, decide_eq_false (by omega)]
theorem b_m1 : ∀ i, i < 32 → bt (-1) i = true := by decide +kernel
theorem b_0 (i : Nat) : bt 0 i = false := BitVec.getLsbD_zero
theorem s_l : ∀ n, n < 32 → ((nI n &&& 31).toBitVec.smod 32).toNat = n := by decide +kernel
theorem s_u : ∀ n, n < 32 → (((nI n).toUInt32 &&& Int32.toUInt32 31).toBitVec % 32).toNat = n := by decide +kernel
theorem b_shl (n : Nat) (hn : n < 32) (x : Int32) {i : Nat} (hi : i < 32) : bt (x <<< (nI n &&& 31)) i = (decide (n ≤ i) && bt x (i - n)) := by
  unfold bt
  rw [Int32.toBitVec_shiftLeft]
  show (x.toBitVec <<< ((nI n &&& 31).toBitVec.smod 32).toNat).getLsbD i = _
  rw [s_l n hn, BitVec.getLsbD_shiftLeft]
  rcases Nat.lt_or_ge i n with h | h
  · simp [h, Nat.not_le.mpr h]
  · simp [hi, h, Nat.not_lt.mpr h]
theorem b_ushr (n : Nat) (hn : n < 32) (x : Int32) (i : Nat) : bt ((x.toUInt32 >>> ((nI n).toUInt32 &&& Int32.toUInt32 31)).toInt32) i = bt x (n + i) := by
  show (x.toUInt32 >>> ((nI n).toUInt32 &&& Int32.toUInt32 31)).toBitVec.getLsbD i = x.toUInt32.toBitVec.getLsbD (n + i)
  rw [UInt32.toBitVec_shiftRight]
  show (x.toUInt32.toBitVec >>> (((nI n).toUInt32 &&& Int32.toUInt32 31).toBitVec % 32).toNat).getLsbD i = _
  rw [s_u n hn, BitVec.getLsbD_ushiftRight]
theorem b_sshr (n : Nat) (hn : n < 32) (x : Int32) {i : Nat} (hi : i < 32) : bt (x >>> (nI n &&& 31)) i = if n + i < 32 then bt x (n + i) else bt x 31 := by
  unfold bt
  rw [Int32.toBitVec_shiftRight]
  show (x.toBitVec.sshiftRight ((nI n &&& 31).toBitVec.smod 32).toNat).getLsbD i = _
  rw [s_l n hn, BitVec.getLsbD_sshiftRight, BitVec.msb_eq_getLsbD_last]
  simp [hi]
theorem bt_1 (i : Nat) : bt 1 i = decide (i = 0) := by
  rcases Nat.lt_or_ge i 32 with h | h
  · exact (by decide +kernel : ∀ i, i < 32 → bt 1 i = decide (i = 0)) i h
  · rw [b_big h, decide_eq_false (by omega)]
/-- one bit as a number -/
def bt_n (b : Bool) : Int32 := if b = true then 1 else 0
theorem bt_n_bit (b : Bool) (i : Nat) : bt (bt_n b) i = (b && decide (i = 0)) := by
  cases b
  · show bt 0 i = _
    rw [b_0]; rfl
  · show bt 1 i = _
    rw [bt_1]; rfl
theorem bt_has (x : Int32) {c : Nat} (hc : c < 32) : (x.toUInt32 >>> ((nI c).toUInt32 &&& Int32.toUInt32 31)).toInt32 &&& 1 = bt_n (bt x c) := by
  apply b_ext
  intro i hi
  rw [b_and, b_ushr c hc, bt_1, bt_n_bit]
  by_cases e : i = 0
  · subst e; simp
  · simp [e]
theorem bt_shas (x : Int32) {c : Nat} (hc : c < 32) : (x >>> (nI c &&& 31)) &&& 1 = bt_n (bt x c) := by
  apply b_ext
  intro i hi
  rw [b_and, b_sshr c hc x hi, bt_1, bt_n_bit]
  by_cases e : i = 0
  · subst e; simp [hc]
  · simp [e]
theorem bt_one {c i : Nat} (hc : c < 32) (hi : i < 32) : bt ((1 : Int32) <<< (nI c &&& 31)) i = decide (i = c) := by
  rw [b_shl c hc 1 hi, bt_1]
  by_cases e : i = c
  · subst e; simp
  · by_cases h : c ≤ i
    · simp [h, e]; omega
    · simp [h, e]
theorem bt_n0 {b : Bool} : bt_n b = 0 ↔ b = false := by cases b <;> decide
theorem bt_n1 {b : Bool} : bt_n b = 1 ↔ b = true := by cases b <;> decide
/-- a place of a ranking, a step of a way: four bits -/
def nb (w : Int32) (i : Nat) : Nat := w.toBitVec.toNat / 2 ^ (4 * i) % 16
theorem nb_lt (w : Int32) (i : Nat) : nb w i < 16 := Nat.mod_lt _ (by decide)
theorem nb_get (w : Int32) {i : Nat} (hi : i < 8) : (w.toUInt32 >>> ((nI (4 * i)).toUInt32 &&& Int32.toUInt32 31)).toInt32 &&& 15 = nI (nb w i) := by
  rw [pk_and _ 4 (by decide), pk_ushr w (nI (4 * i)) (4 * i) (s_u (4 * i) (by omega))]
  rfl
end MB
