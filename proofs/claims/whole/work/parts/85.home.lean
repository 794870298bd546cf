/-! HOME -/
theorem lN_tI {n : Nat} (h : n < 9223372036854775808) : (lN n).toInt = (n : Int) := lg_ofNat_toInt (by omega)
theorem lN_div {n m : Nat} (hn : n < 9223372036854775808) (hm : m < 9223372036854775808) : lN n / lN m = lN (n / m) := by
  have h1 : n / m ≤ n := Nat.div_le_self n m
  apply Int64.toInt_inj.1
  rw [Int64.toInt_div, lN_tI hn, lN_tI hm, lN_tI (by omega)]
  show (((n / m : Nat) : Int)).bmod (2 ^ 64) = _
  generalize n / m = d at *
  apply Int.bmod_eq_of_le <;> omega
theorem lN_mod {n m : Nat} (hn : n < 9223372036854775808) (hm : m < 9223372036854775808) : lN n - lN n / lN m * lN m = lN (n % m) := by
  rw [lN_div hn hm, lN_mul]
  have h : lN n = lN (n % m) + lN (n / m * m) := by rw [lN_add, Nat.mul_comm, Nat.mod_add_div]
  rw [h]
  grind
theorem lN_z {n : Nat} (hn : n < 9223372036854775808) : lN n = 0 ↔ n = 0 := by
  constructor
  · intro h
    have := congrArg Int64.toInt h
    rw [lN_tI hn] at this
    have z : (0 : Int64).toInt = 0 := rfl
    rw [z] at this
    omega
  · intro h; subst h; rfl
def bn : Nat → Nat → Nat
  | 0, 0 => 1
  | 0, _ + 1 => 0
  | _ + 1, 0 => 1
  | n + 1, k + 1 => bn n k + bn n (k + 1)
theorem bn_0 (n : Nat) : bn n 0 = 1 := by cases n <;> rfl
theorem bn_hi : ∀ (n k : Nat), n < k → bn n k = 0
  | 0, 0, h => absurd h (Nat.lt_irrefl 0)
  | 0, k + 1, _ => rfl
  | n + 1, 0, h => absurd h (Nat.not_lt_zero _)
  | n + 1, k + 1, h => by rw [bn, bn_hi n k (by omega), bn_hi n (k + 1) (by omega)]
def ex (q e i : Nat) : Nat := bn e i * (16 - q) ^ i * q ^ (e - i)
theorem ex_hi {q e i : Nat} (h : e < i) : ex q e i = 0 := by unfold ex; rw [bn_hi e i h, Nat.zero_mul, Nat.zero_mul]
theorem ex_s0 (q e : Nat) : ex q (e + 1) 0 = ex q e 0 * q := by
  unfold ex
  rw [bn_0, bn_0, Nat.sub_zero, Nat.sub_zero, Nat.pow_succ]
  simp [Nat.mul_comm]
theorem ex_s (q e i : Nat) : ex q (e + 1) (i + 1) = ex q e (i + 1) * q + ex q e i * (16 - q) := by
  rcases Nat.lt_or_ge i e with h | h
  · unfold ex
    rw [bn, show e + 1 - (i + 1) = e - i by omega]
    have e1 : q ^ (e - (i + 1)) * q = q ^ (e - i) := by rw [← Nat.pow_succ]; congr 1; omega
    have e2 : (16 - q) ^ (i + 1) = (16 - q) ^ i * (16 - q) := Nat.pow_succ ..
    generalize (16 - q) = P at *
    calc (bn e i + bn e (i + 1)) * P ^ (i + 1) * q ^ (e - i) = bn e (i + 1) * P ^ (i + 1) * q ^ (e - i) + bn e i * P ^ (i + 1) * q ^ (e - i) := by rw [Nat.add_mul, Nat.add_mul, Nat.add_comm]
      _ = bn e (i + 1) * P ^ (i + 1) * (q ^ (e - (i + 1)) * q) + bn e i * (P ^ i * P) * q ^ (e - i) := by rw [e1, e2]
      _ = _ := by
        rw [← Nat.mul_assoc (bn e (i + 1) * P ^ (i + 1)), ← Nat.mul_assoc (bn e i), Nat.mul_right_comm (bn e i * P ^ i)]
  · rcases Nat.eq_or_lt_of_le h with he | he
    · subst he
      rw [ex_hi (show e < e + 1 by omega), Nat.zero_mul, Nat.zero_add]
      unfold ex
      rw [bn, bn_hi e (e + 1) (by omega), Nat.sub_self, Nat.sub_self, Nat.pow_zero, Nat.mul_one, Nat.mul_one, Nat.add_zero, Nat.pow_succ, Nat.mul_assoc]
    · rw [ex_hi (by omega), ex_hi (by omega), ex_hi (by omega)]; simp
theorem ns_ex (q e : Nat) : ∀ m, ns (ex q (e + 1)) (m + 1) = q * ns (ex q e) (m + 1) + (16 - q) * ns (ex q e) m
  | 0 => by simp only [ns, ex_s0, Nat.zero_add, Nat.mul_zero, Nat.add_zero]; rw [Nat.mul_comm]
  | m + 1 => by
    rw [ns, ns_ex q e m, ex_s, ns, ns]
    rw [Nat.mul_add q, Nat.mul_add q, Nat.mul_add (16 - q), Nat.mul_comm (ex q e (m + 1)) q, Nat.mul_comm (ex q e m) (16 - q)]
    rw [ns, Nat.mul_add q]
    omega
theorem ex_bd {q : Nat} (hq : q ≤ 16) : ∀ e m, ns (ex q e) m ≤ 16 ^ e
  | 0, m => by
    have : ∀ m, ns (ex q 0) (m + 1) = 1 := by
      intro m
      induction m with
      | zero => simp [ns, ex, bn]
      | succ m ih => rw [ns, ih, ex_hi (by omega)]
    cases m with
    | zero => exact Nat.zero_le _
    | succ m => rw [this m]; exact Nat.le_refl _
  | e + 1, 0 => Nat.zero_le _
  | e + 1, m + 1 => by
    rw [ns_ex, Nat.pow_succ]
    have h1 := ex_bd hq e (m + 1)
    have h2 : ns (ex q e) m ≤ ns (ex q e) (m + 1) := by rw [ns]; omega
    have a1 : q * ns (ex q e) (m + 1) ≤ q * 16 ^ e := Nat.mul_le_mul_left _ h1
    have a2 : (16 - q) * ns (ex q e) m ≤ (16 - q) * 16 ^ e := Nat.mul_le_mul_left _ (Nat.le_trans h2 h1)
    have a3 : q * 16 ^ e + (16 - q) * 16 ^ e = 16 ^ e * 16 := by rw [← Nat.add_mul, Nat.mul_comm, show q + (16 - q) = 16 by omega]
    omega
theorem ch_all : ∀ n, n < 13 → ∀ i, i < 13 → i ≤ n → bn n i * (n - i) / (i + 1) = bn n (i + 1) ∧ bn n i ≤ 924 := by decide +kernel
theorem c_power {b m : Nat} {Q : Int64 → ac_m → Prop} {s : ac_m} (hb : b < 2147483648) (hm : m < 2147483648) (h : Q (lN (b ^ m)) s) : w_X8_power (nI b) (nI m) Q s := by
  unfold w_X8_power l_X8_power_5
  intro P hP
  refine loopUp (P := fun k => P (lN (b ^ k)) (nI k) s) m ?_ ?_
  · exact hP _ _ _ ⟨fun _ => h, fun z => absurd (Int32.le_refl _) z⟩
  · intro k hk ih
    refine hP _ _ _ ⟨fun z => absurd z (nI_ge hk (by omega)), fun _ => ?_⟩
    rw [nI_l hb, lN_mul, nI_1, ← Nat.pow_succ]
    exact ih
/-- the end of the cutting: nothing to cut is left -/
theorem cut2 {P : Nat → Nat → Nat → Prop} (hstop : ∀ a b f, ¬ (a % 2 = 0 ∧ b % 2 = 0) → P a b f) (hstep : ∀ a b f, a % 2 = 0 ∧ b % 2 = 0 → P (a / 2) (b / 2) (f + 1) → P a b f) : ∀ (m a f : Nat), P a (2 ^ m) f
  | 0, a, f => hstop a (2 ^ 0) f (by simp)
  | m + 1, a, f => by
    by_cases c : a % 2 = 0 ∧ 2 ^ (m + 1) % 2 = 0
    · refine hstep a _ f c ?_
      rw [Nat.pow_succ, Nat.mul_div_cancel _ (by decide)]
      exact cut2 hstop hstep m (a / 2) (f + 1)
    · exact hstop a _ f c
theorem gcd_odd {a m : Nat} (h : ¬ (a % 2 = 0 ∧ 2 ^ m % 2 = 0)) : Nat.gcd a (2 ^ m) = 1 := by
  cases m with
  | zero => rw [Nat.pow_zero, Nat.gcd_one_right]
  | succ m =>
    have h2 : 2 ^ (m + 1) % 2 = 0 := by rw [Nat.pow_succ]; exact Nat.mul_mod_left _ _
    have ha : a % 2 = 1 := by omega
    have c : Nat.Coprime a 2 := by
      unfold Nat.Coprime
      rw [Nat.gcd_comm, Nat.gcd_rec, ha, Nat.gcd_one_left]
    exact Nat.Coprime.pow_right (m + 1) c
theorem c_cut {part : Int32} {Q : Int64 → ac_m → Prop} {s : ac_m} {p1 p2 p3 : Int32} (m0 : Nat) (hm0 : m0 ≤ 48) (a0 : Nat) (ha0 : a0 < 9223372036854775808)
    (h : Q (if part = 0 then lN (a0 / Nat.gcd a0 (2 ^ m0)) else lN (2 ^ m0 / Nat.gcd a0 (2 ^ m0))) s) : l_X8_homeFraction_80 p1 p2 p3 part Q part (lN a0) (lN (2 ^ m0)) 0 s := by
  unfold l_X8_homeFraction_80
  intro P hP
  have fin : ∀ a b f : Nat, a < 9223372036854775808 → b < 9223372036854775808 → (Q (if part = 0 then lN a else lN b) s) → f ≤ 48 → (¬ (a % 2 = 0 ∧ b % 2 = 0) ∨ f = 48) → P (lN a) (lN b) (nI f) s := by
    intro a b f ha hb hq hf hc
    have q0 : ¬ part = 0 → Q (lN b) s := fun z => by rw [if_neg z] at hq; exact hq
    have q1 : part = 0 → Q (lN a) s := fun z => by rw [if_pos z] at hq; exact hq
    have two : ¬ (2 : Int64) = 0 := by decide
    have e2 : (2 : Int64) = lN 2 := rfl
    refine hP _ _ _ _ ⟨fun _ => ⟨q0, q1⟩, fun z => ⟨two, fun _ => ⟨q0, q1⟩, fun c1 => ⟨two, fun _ => ⟨q0, q1⟩, fun c2 => ?_⟩⟩⟩
    exfalso
    rw [lg_cmp_eq, e2, lN_mod (by omega) (by omega), lN_z (by omega)] at c1 c2
    rcases hc with hc | hc
    · exact hc ⟨c1, c2⟩
    · exact z (by rw [hc]; exact Int32.le_refl _)
  have key : ∀ (m a f : Nat), a < 9223372036854775808 → m + f ≤ 48 → Q (if part = 0 then lN (a / Nat.gcd a (2 ^ m)) else lN (2 ^ m / Nat.gcd a (2 ^ m))) s → P (lN a) (lN (2 ^ m)) (nI f) s := by
    intro m
    induction m with
    | zero =>
      intro a f ha hf hq
      have g := gcd_odd (a := a) (m := 0) (by simp)
      rw [g, Nat.div_one, Nat.div_one] at hq
      exact fin a (2 ^ 0) f ha (by decide) hq (by omega) (.inl (by simp))
    | succ m ih =>
      intro a f ha hf hq
      have pm : 2 ^ (m + 1) ≤ 2 ^ 48 := Nat.pow_le_pow_right (by decide) (by omega)
      have p48 : 2 ^ 48 = 281474976710656 := by decide
      by_cases c : a % 2 = 0 ∧ 2 ^ (m + 1) % 2 = 0
      · have two : ¬ (2 : Int64) = 0 := by decide
        have e2 : (2 : Int64) = lN 2 := rfl
        refine hP _ _ _ _ ⟨fun z => absurd z (nI_ge (b := 48) (by omega) (by omega)), fun _ => ⟨two, fun z => ?_, fun _ => ⟨two, fun z => ?_, fun _ => ⟨two, two, ?_⟩⟩⟩⟩
        · rw [lg_cmp_eq, e2, lN_mod (by omega) (by omega), lN_z (by omega)] at z
          exact absurd c.1 z
        · rw [lg_cmp_eq, e2, lN_mod (by omega) (by omega), lN_z (by omega)] at z
          exact absurd c.2 z
        · rw [e2, lN_div (by omega) (by omega), lN_div (by omega) (by omega), nI_1, Nat.pow_succ, Nat.mul_div_cancel _ (by decide)]
          refine ih (a / 2) (f + 1) (by omega) (by omega) ?_
          have ea : a = 2 * (a / 2) := by omega
          have g : Nat.gcd a (2 ^ (m + 1)) = 2 * Nat.gcd (a / 2) (2 ^ m) := by
            rw [Nat.pow_succ, Nat.mul_comm (2 ^ m) 2]
            conv => lhs; rw [ea]
            exact Nat.gcd_mul_left 2 (a / 2) (2 ^ m)
          rw [g] at hq
          have d1 : a / (2 * Nat.gcd (a / 2) (2 ^ m)) = a / 2 / Nat.gcd (a / 2) (2 ^ m) := by rw [Nat.div_div_eq_div_mul]
          have d2 : 2 ^ (m + 1) / (2 * Nat.gcd (a / 2) (2 ^ m)) = 2 ^ m / Nat.gcd (a / 2) (2 ^ m) := by
            rw [Nat.pow_succ, ← Nat.div_div_eq_div_mul, Nat.mul_div_cancel _ (by decide)]
          rw [d1, d2] at hq
          exact hq
      · have g := gcd_odd c
        rw [g, Nat.div_one, Nat.div_one] at hq
        exact fin a _ f ha (by omega) hq (by omega) (.inl c)
  exact key m0 a0 0 ha0 (by omega) h
theorem m_euclid {P : Int64 → Int64 → Prop} {a0 b0 : Nat} (ha : a0 < 9223372036854775808) (hb : b0 < 9223372036854775808) (hend : P (lN (Nat.gcd a0 b0)) (lN 0)) (hstep : ∀ a b : Nat, a < 9223372036854775808 → b < 9223372036854775808 → b ≠ 0 → P (lN b) (lN (a % b)) → P (lN a) (lN b)) : P (lN a0) (lN b0) := by
  have key : ∀ b a, a < 9223372036854775808 → b < 9223372036854775808 → P (lN (Nat.gcd a b)) (lN 0) → P (lN a) (lN b) := by
    intro b
    induction b using Nat.strongRecOn with
    | ind b ih =>
      intro a ha hb h
      rcases Nat.eq_zero_or_pos b with z | z
      · subst z; rw [Nat.gcd_zero_right] at h; exact h
      · have lt := Nat.mod_lt a z
        refine hstep a b ha hb (by omega) (ih (a % b) lt b hb (by omega) ?_)
        rw [Nat.gcd_comm b (a % b), ← Nat.gcd_rec, Nat.gcd_comm]
        exact h
  exact key b0 a0 ha hb hend
