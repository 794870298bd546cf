/-! NUMBERS -/
theorem na_lt (a b : Int32) : a < b ↔ a.toInt < b.toInt := Int32.lt_iff_toInt_lt
theorem na_le (a b : Int32) : a ≤ b ↔ a.toInt ≤ b.toInt := Int32.le_iff_toInt_le
theorem na_eq (a b : Int32) : a = b ↔ a.toInt = b.toInt := Int32.toInt_inj.symm
theorem na_rng (x : Int32) : -2147483648 ≤ x.toInt ∧ x.toInt < 2147483648 := by
  have h1 := Int32.le_toInt x
  have h2 := Int32.toInt_lt x
  omega
theorem na_lit (n : Nat) : (OfNat.ofNat n : Int32) = nI n := rfl
/-! memory -/
theorem u_ne {s : ac_m} {a k b : Nat} {x : Int32} (h : b ≠ a) : ac_u s a k x b = s b := if_neg h
theorem u_at {s : ac_m} {a k j : Nat} {x : Int32} (h : j ≠ k) : ac_u s a k x a j = s a j := by unfold ac_u upd; rw [if_pos rfl, if_neg h]
theorem u_eq {s : ac_m} {a k : Nat} {x : Int32} : ac_u s a k x a k = x := by unfold ac_u upd; rw [if_pos rfl, if_pos rfl]
theorem in_lt {x m : Int32} {n : Nat} (h0 : 0 ≤ x) (h1 : x < m) (hm : m.toInt = n) : vp_in x n := by
  rw [vp_in_iff]
  rw [na_le] at h0
  rw [na_lt, hm] at h1
  exact ⟨h0, h1⟩
theorem cl_nI {n : Nat} (h : n < 2147483648) : (nI n).toNatClampNeg = n := nI_clamp h
theorem loopUp {P : Nat → Prop} (n : Nat) (hx : P n) (hs : ∀ k, k < n → P (k + 1) → P k) : P 0 := by
  have key : ∀ m k, k + m = n → P k := by
    intro m
    induction m with
    | zero => intro k hk; rw [show k = n by omega]; exact hx
    | succ m ih => intro k hk; exact hs k (by omega) (ih (k + 1) (by omega))
  exact key n 0 (by omega)
/-- the bits of those below n -/
def bs (p : Nat → Bool) : Nat → Int32
  | 0 => 0
  | k + 1 => if p k = true then bs p k ||| ((1 : Int32) <<< (nI k &&& 31)) else bs p k
