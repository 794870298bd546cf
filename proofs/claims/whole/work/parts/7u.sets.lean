/-! SETS OF BEASTS -/
/-- the lowest of a set -/
def lw (n : Nat) : Nat := if n % 2 = 1 then 0 else if n / 2 % 2 = 1 then 1 else if n / 4 % 2 = 1 then 2 else if n / 8 % 2 = 1 then 3 else if n / 16 % 2 = 1 then 4 else if n / 32 % 2 = 1 then 5 else if n / 64 % 2 = 1 then 6 else if n / 128 % 2 = 1 then 7 else if n / 256 % 2 = 1 then 8 else if n / 512 % 2 = 1 then 9 else if n / 1024 % 2 = 1 then 10 else 11
def rs (n : Nat) : Nat := n - 2 ^ lw n
theorem lw_all : ∀ a, a < 64 → ∀ b, b < 64 → 1 ≤ 64 * a + b → lw (64 * a + b) < 12 ∧ (nI (64 * a + b) &&& (-nI (64 * a + b))) - 1 = nI (2 ^ lw (64 * a + b) - 1) ∧ (nI (64 * a + b) &&& (nI (64 * a + b) - 1)) = nI (rs (64 * a + b)) ∧ rs (64 * a + b) < 64 * a + b ∧ (rs (64 * a + b)).testBit (lw (64 * a + b)) = false := by decide +kernel
theorem lw_bits : ∀ a, a < 64 → ∀ b, b < 64 → 1 ≤ 64 * a + b → ∀ i, i < 12 → (64 * a + b).testBit i = ((rs (64 * a + b)).testBit i || decide (i = lw (64 * a + b))) := by decide +kernel
theorem on_pow : ∀ k, k < 12 → on (nI (2 ^ k - 1)) = nI k := by decide +kernel
theorem pow12 : ∀ k, k < 12 → 2 ^ k - 1 < 4096 := by decide +kernel
theorem lw_n {n : Nat} (h1 : 1 ≤ n) (h2 : n < 4096) : lw n < 12 ∧ (nI n &&& (-nI n)) - 1 = nI (2 ^ lw n - 1) ∧ (nI n &&& (nI n - 1)) = nI (rs n) ∧ rs n < n ∧ (rs n).testBit (lw n) = false ∧ (∀ i, i < 12 → n.testBit i = ((rs n).testBit i || decide (i = lw n))) := by
  have q := lw_all (n / 64) (by omega) (n % 64) (by omega)
  have r := lw_bits (n / 64) (by omega) (n % 64) (by omega)
  rw [show 64 * (n / 64) + n % 64 = n by omega] at q r
  obtain ⟨q1, q2, q3, q4, q5⟩ := q h1
  exact ⟨q1, q2, q3, q4, q5, r h1⟩
/-- the sum of the parts of a set -/
def Sg (p : Nat → Int32) (n : Nat) : Int32 := sm (fun k => if bt (nI n) k = true then p k else 0) 12
theorem Sg_0 (p : Nat → Int32) : Sg p 0 = 0 := by
  unfold Sg
  rw [sm_more (m := 0) (Nat.zero_le 12) (fun k _ _ => by rw [bt_nI (by omega), Nat.zero_testBit, if_neg (by decide)])]
  rfl
theorem Sg_rs {p : Nat → Int32} {n : Nat} (h1 : 1 ≤ n) (h2 : n < 4096) : Sg p n = Sg p (rs n) + p (lw n) := by
  obtain ⟨q1, q2, q3, q4, q5, q6⟩ := lw_n h1 h2
  unfold Sg
  have e := sm_one (g := fun k => if k = lw n then p k else 0) (k := lw n) (n := 12) q1 (fun j hj => if_neg hj)
  rw [if_pos rfl] at e
  rw [← e]
  symm
  refine sm_add (fun k hk => ?_)
  rw [bt_nI (by omega), bt_nI (by omega), q6 k hk]
  by_cases c : k = lw n
  · subst c
    rw [q5, if_neg (by decide), if_pos rfl, if_pos (by simp)]
    grind
  · rw [if_neg c, Int32.add_zero, decide_eq_false c, Bool.or_false]
theorem Sg_cong {p p' : Nat → Int32} {n : Nat} (h : ∀ k, k < 12 → bt (nI n) k = true → p k = p' k) : Sg p n = Sg p' n := by
  unfold Sg
  refine sm_cong (fun k hk => ?_)
  by_cases c : bt (nI n) k = true
  · rw [if_pos c, if_pos c, h k hk c]
  · rw [if_neg c, if_neg c]
/-- the set is one of those -/
def sub (T : Int32) (n : Nat) : Prop := (nI n &&& (T ^^^ (-1 : Int32))) = 0
theorem sub_bt {T : Int32} {n k : Nat} (h : sub T n) (hk : k < 32) (hb : bt (nI n) k = true) : bt T k = true := by
  have := bt_eq0.1 h k hk
  rw [b_and, b_xor, b_m1 k hk, hb] at this
  cases c : bt T k
  · rw [c] at this; cases this
  · rfl
theorem sub_rs {T : Int32} {n : Nat} (h1 : 1 ≤ n) (h2 : n < 4096) (h : sub T n) : sub T (rs n) := by
  obtain ⟨q1, q2, q3, -⟩ := lw_n h1 h2
  unfold sub at *
  rw [← q3]
  refine bt_eq0.2 (fun i hi => ?_)
  have := bt_eq0.1 h i hi
  rw [b_and] at this ⊢
  rw [b_and]
  cases c : bt (nI n) i
  · rfl
  · rw [c, Bool.true_and] at this; rw [this]; simp
theorem c_sumParts {T : Int32} {p : Nat → Int32} {Q : ac_m → Prop} {s : ac_m} (hp : ∀ k, k < 12 → s 63 k = p k) (h : ∀ s', (∀ y, y ≠ 64 → s' y = s y) → (∀ n, n < 4096 → sub T n → s' 64 n = Sg p n) → Q s') : w_X2_sumParts T Q s := by
  unfold w_X2_sumParts l_X2_sumParts_9
  intro P hP
  refine loopUp (P := fun k => ∀ s', (∀ y, y ≠ 64 → s' y = s y) → (∀ n, n < k + 1 → sub T n → s' 64 n = Sg p n) → P (nI (k + 1)) s') 4095 ?_ ?_ _ (fun y hy => u_ne hy) (fun n hn _ => ?_)
  · intro s' f g
    exact hP _ _ ⟨fun _ => h s' f g, fun z => absurd (by decide) z⟩
  · intro k hk ih s' f g
    obtain ⟨q1, q2, q3, q4, q5, q6⟩ := lw_n (n := k + 1) (by omega) (by omega)
    refine hP _ _ ⟨fun z => absurd z (nI_ge (b := 4096) (by omega) (by omega)), fun _ => ?_⟩
    rw [nI_1]
    refine ⟨fun c => ih s' f (fun n hn hs => ?_), fun c => ?_⟩
    · by_cases e : n = k + 1
      · subst e; exact absurd hs c
      · exact g n (by omega) hs
    · rw [q2, q3]
      refine c_bc (pow12 _ q1) ?_
      rw [on_pow _ q1]
      refine ⟨fun z => absurd z (nI_ge (b := 12) q1 (by omega)), fun _ => ⟨vp_in_nI (by omega) (by omega), vp_in_nI q1 (by omega), vp_in_nI (by omega) (by omega), ?_⟩⟩
      rw [cl_nI (by omega), cl_nI (by omega), cl_nI (by omega)]
      refine ih _ (fun y hy => by rw [u_ne hy]; exact f y hy) (fun n hn hs => ?_)
      by_cases e : n = k + 1
      · subst e
        rw [u_eq, g _ (by omega) (sub_rs (by omega) (by omega) hs), f 63 (by omega), hp _ q1, Sg_rs (n := k + 1) (by omega) (by omega)]
      · rw [u_at e]; exact g n (by omega) hs
  · have : n = 0 := by omega
    subst this
    rw [Sg_0]
    exact u_eq
/-! the best of the sets, one behind another -/
def bq (c : Nat → Bool) (lt : Nat → Nat → Bool) : Nat → Nat
  | 0 => 0
  | n + 1 => if (c (n + 1) && lt (bq c lt n) (n + 1)) = true then n + 1 else bq c lt n
theorem bq_le {c : Nat → Bool} {lt : Nat → Nat → Bool} : ∀ n, bq c lt n ≤ n ∧ (bq c lt n = 0 ∨ c (bq c lt n) = true)
  | 0 => ⟨Nat.le_refl 0, .inl rfl⟩
  | n + 1 => by
    obtain ⟨h1, h2⟩ := bq_le (c := c) (lt := lt) n
    rw [bq]
    by_cases d : (c (n + 1) && lt (bq c lt n) (n + 1)) = true
    · rw [if_pos d]
      exact ⟨Nat.le_refl _, .inr (by cases q : c (n + 1) <;> rw [q] at d <;> simp_all)⟩
    · rw [if_neg d]; exact ⟨by omega, h2⟩
theorem bq_more {c : Nat → Bool} {lt : Nat → Nat → Bool} {m : Nat} : ∀ {n : Nat}, m ≤ n → (∀ k, m < k → k ≤ n → c k = false) → bq c lt n = bq c lt m
  | 0, h, _ => by rw [show m = 0 by omega]
  | n + 1, h, hc => by
    by_cases e : m = n + 1
    · rw [e]
    · rw [bq, hc (n + 1) (by omega) (by omega), Bool.false_and, if_neg (by decide), bq_more (by omega) (fun k k1 k2 => hc k k1 (by omega))]
theorem bq_cong {c c' : Nat → Bool} {lt lt' : Nat → Nat → Bool} : ∀ {n : Nat}, (∀ k, 1 ≤ k → k ≤ n → c k = c' k) → (∀ j k, k ≤ n → c' k = true → (j = 0 ∨ c' j = true) → j ≤ n → lt j k = lt' j k) → bq c lt n = bq c' lt' n
  | 0, _, _ => rfl
  | n + 1, h1, h2 => by
    have ih := bq_cong (n := n) (fun k k1 k2 => h1 k k1 (by omega)) (fun j k hk hc hj hjn => h2 j k (by omega) hc hj (by omega))
    obtain ⟨l1, l2⟩ := bq_le (c := c') (lt := lt') n
    rw [bq, bq, ih, h1 (n + 1) (by omega) (Nat.le_refl _)]
    cases q : c' (n + 1)
    · rfl
    · rw [h2 (bq c' lt' n) (n + 1) (Nat.le_refl _) q l2 (by omega)]
/-- a set with a beast that is not told is none of those that are there -/
theorem sub_hi {s : ac_m} {B n : Nat} {T : Int32} (i : Inv s) (hB : s 73 1 = nI B) (hb : B ≤ 12) (hT : ∀ k, k < 32 → bt T k = true → bt (bs (fun k => decide (0 < s 556 k)) 13) k = true) (h1 : 2 ^ B - 1 < n) (h2 : n < 4096) : ¬ sub T n := by
  intro h
  have p0 : 0 < 2 ^ B := Nat.pow_pos (by decide)
  have : n < 2 ^ B := by
    refine Nat.lt_pow_two_of_testBit n (fun j hj => ?_)
    cases c : n.testBit j
    · rfl
    · have hj32 : j < 32 := by
        rcases Nat.lt_or_ge j 32 with q | q
        · exact q
        · rw [Nat.testBit_lt_two_pow (Nat.lt_of_lt_of_le (show n < 2 ^ 12 by omega) (Nat.pow_le_pow_right (n := 2) (by decide) (by omega)))] at c; cases c
      have w := hT j hj32 (sub_bt h hj32 (by rw [bt_nI (by omega)]; exact c))
      rw [bs_bt _ 13 (by omega)] at w
      have j13 : j < 13 := by
        rcases Nat.lt_or_ge j 13 with q | q
        · exact q
        · rw [decide_eq_false (by omega), Bool.false_and] at w; cases w
      rw [Inv_nb i hB hj j13] at w
      simp at w
  omega
