/-! BITS (the first rows are the kit's family bt, pasted) -/
def bt (x : Int32) (i : Nat) : Bool := x.toBitVec.getLsbD i
theorem b_ext {x y : Int32} (h : ∀ i, i < 32 → bt x i = bt y i) : x = y := Int32.toBitVec_inj.mp (BitVec.eq_of_getLsbD_eq (fun i hi => h i hi))
theorem b_or (x y : Int32) (i : Nat) : bt (x ||| y) i = (bt x i || bt y i) := by unfold bt; rw [Int32.toBitVec_or, BitVec.getLsbD_or]
theorem b_and (x y : Int32) (i : Nat) : bt (x &&& y) i = (bt x i && bt y i) := by unfold bt; rw [Int32.toBitVec_and, BitVec.getLsbD_and]
theorem b_xor (x y : Int32) (i : Nat) : bt (x ^^^ y) i = (bt x i ^^ bt y i) := by unfold bt; rw [Int32.toBitVec_xor, BitVec.getLsbD_xor]
theorem b_big {x : Int32} {i : Nat} (h : 32 ≤ i) : bt x i = false := BitVec.getLsbD_of_ge _ _ h
theorem b_255 (i : Nat) : bt 255 i = decide (i < 8) := by
  rcases Nat.lt_or_ge i 32 with h | h
  · exact (by decide +kernel : ∀ i, i < 32 → bt 255 i = decide (i < 8)) i h
  · rw [b_big h, decide_eq_false (by omega)]
theorem b_65535 (i : Nat) : bt 65535 i = decide (i < 16) := by
  rcases Nat.lt_or_ge i 32 with h | h
  · exact (by decide +kernel : ∀ i, i < 32 → bt 65535 i = decide (i < 16)) i h
  · rw [b_big h, decide_eq_false (by omega)]
theorem b_m1 : ∀ i, i < 32 → bt (-1) i = true := by decide +kernel
theorem b_0 (i : Nat) : bt 0 i = false := BitVec.getLsbD_zero
theorem s_l : ∀ n, n < 32 → ((nI n &&& 31).toBitVec.smod 32).toNat = n := by decide +kernel
theorem s_u : ∀ n, n < 32 → (((nI n).toUInt32 &&& Int32.toUInt32 31).toBitVec % 32).toNat = n := by decide +kernel
theorem b_shl (n : Nat) (hn : n < 32) (x : Int32) {i : Nat} (hi : i < 32) : bt (x <<< (nI n &&& 31)) i = (decide (n ≤ i) && bt x (i - n)) := by
  unfold bt
  rw [Int32.toBitVec_shiftLeft]
  show (x.toBitVec <<< ((nI n &&& 31).toBitVec.smod 32).toNat).getLsbD i = _
  rw [s_l n hn, BitVec.getLsbD_shiftLeft]
  rcases Nat.lt_or_ge i n with h | h
  · simp [h, Nat.not_le.mpr h]
  · simp [hi, h, Nat.not_lt.mpr h]
theorem b_ushr (n : Nat) (hn : n < 32) (x : Int32) (i : Nat) : bt ((x.toUInt32 >>> ((nI n).toUInt32 &&& Int32.toUInt32 31)).toInt32) i = bt x (n + i) := by
  show (x.toUInt32 >>> ((nI n).toUInt32 &&& Int32.toUInt32 31)).toBitVec.getLsbD i = x.toUInt32.toBitVec.getLsbD (n + i)
  rw [UInt32.toBitVec_shiftRight]
  show (x.toUInt32.toBitVec >>> (((nI n).toUInt32 &&& Int32.toUInt32 31).toBitVec % 32).toNat).getLsbD i = _
  rw [s_u n hn, BitVec.getLsbD_ushiftRight]
theorem b_sshr (n : Nat) (hn : n < 32) (x : Int32) {i : Nat} (hi : i < 32) : bt (x >>> (nI n &&& 31)) i = if n + i < 32 then bt x (n + i) else bt x 31 := by
  unfold bt
  rw [Int32.toBitVec_shiftRight]
  show (x.toBitVec.sshiftRight ((nI n &&& 31).toBitVec.smod 32).toNat).getLsbD i = _
  rw [s_l n hn, BitVec.getLsbD_sshiftRight, BitVec.msb_eq_getLsbD_last]
  simp [hi]
theorem bt_1 (i : Nat) : bt 1 i = decide (i = 0) := by
  rcases Nat.lt_or_ge i 32 with h | h
  · exact (by decide +kernel : ∀ i, i < 32 → bt 1 i = decide (i = 0)) i h
  · rw [b_big h, decide_eq_false (by omega)]
theorem bt_bit {j i : Nat} (hj : j < 32) (hi : i < 32) : bt ((1 : Int32) <<< (nI j &&& 31)) i = decide (i = j) := by
  rw [b_shl j hj _ hi, bt_1]
  by_cases h : i = j
  · subst h; simp
  · rcases Nat.lt_or_ge i j with h1 | h1
    · simp [Nat.not_le.mpr h1, h]
    · simp [h, show ¬ i - j = 0 by omega]
theorem bt_eq0 {x : Int32} : x = 0 ↔ ∀ i, i < 32 → bt x i = false :=
  ⟨fun h i _ => by rw [h, b_0], fun h => b_ext fun i hi => by rw [h i hi, b_0]⟩
theorem and_bit {x : Int32} {j : Nat} (hj : j < 32) : (x &&& ((1 : Int32) <<< (nI j &&& 31))) = 0 ↔ bt x j = false := by
  rw [bt_eq0]
  constructor
  · intro h
    have := h j hj
    rw [b_and, bt_bit hj hj] at this
    simpa using this
  · intro h i hi
    rw [b_and, bt_bit hj hi]
    by_cases e : i = j
    · subst e; rw [h]; rfl
    · simp [e]
theorem shr_bit1 {x : Int32} {j : Nat} (hj : j < 32) : ((x >>> (nI j &&& 31)) &&& 1) = if bt x j then 1 else 0 := by
  apply b_ext
  intro i hi
  rw [b_and, bt_1, b_sshr j hj x hi]
  by_cases e : i = 0
  · subst e
    rw [if_pos (by omega)]
    cases h : bt x j <;> simp [h, bt_1, b_0]
  · cases h : bt x j <;> simp [e, bt_1, b_0]
theorem shr_bit {x : Int32} {j : Nat} (hj : j < 32) : ((x >>> (nI j &&& 31)) &&& 1) = 1 ↔ bt x j = true := by
  rw [shr_bit1 hj]
  cases bt x j <;> simp
theorem bs_bt (p : Nat → Bool) : ∀ (n : Nat), n ≤ 32 → ∀ i, bt (bs p n) i = (decide (i < n) && p i)
  | 0, _, i => by simp [bs, b_0]
  | n + 1, hn, i => by
    have ih := bs_bt p n (by omega) i
    rcases Nat.lt_or_ge i 32 with hi | hi
    · unfold bs
      by_cases hp : p n = true
      · rw [if_pos hp, b_or, ih, bt_bit (by omega) hi]
        by_cases e : i = n
        · subst e; simp [hp]
        · by_cases h2 : i < n
          · simp [h2, show i < n + 1 by omega, e]
          · simp [h2, show ¬ i < n + 1 by omega, e]
      · rw [if_neg hp, ih]
        by_cases e : i = n
        · subst e; simp [hp]
        · by_cases h2 : i < n
          · simp [h2, show i < n + 1 by omega]
          · simp [h2, show ¬ i < n + 1 by omega]
    · rw [b_big hi, decide_eq_false (by omega)]; rfl
theorem bs_cong {p q : Nat → Bool} : ∀ {n : Nat}, (∀ k, k < n → p k = q k) → bs p n = bs q n
  | 0, _ => rfl
  | n + 1, h => by
    unfold bs
    rw [h n (by omega), bs_cong (fun k hk => h k (by omega))]
theorem bs_more {p : Nat → Bool} {m : Nat} : ∀ {n : Nat}, m ≤ n → (∀ k, m ≤ k → k < n → p k = false) → bs p n = bs p m
  | 0, hm, _ => by rw [show m = 0 by omega]
  | n + 1, hm, h => by
    by_cases e : m = n + 1
    · rw [e]
    · show (if p n = true then _ else _) = _
      rw [h n (by omega) (by omega), if_neg (by decide), bs_more (by omega) (fun k h1 h2 => h k h1 (by omega))]
theorem bt_nonneg {x : Int32} (h : bt x 31 = false) : 0 ≤ x := by
  rw [na_le]
  have h1 : x.toBitVec.msb = false := by rw [BitVec.msb_eq_getLsbD_last]; exact h
  show (0 : Int) ≤ x.toBitVec.toInt
  rw [BitVec.toInt_eq_msb_cond, h1]
  simp
theorem bs_nonneg (p : Nat → Bool) {n : Nat} (hn : n ≤ 31) : 0 ≤ bs p n := bt_nonneg (by rw [bs_bt p n (by omega), decide_eq_false (by omega)]; rfl)
