/-! COOLEST -/
def cst (x : Nat → Int32) (i : Nat) (q : Int32 × Int32) : Nat → Int32 × Int32
  | 0 => q
  | k + 1 => if (cst x i q k).2 < x (6 * i + (i + 1 + k)) then (nI (10 * i + (i + 1 + k)), x (6 * i + (i + 1 + k))) else cst x i q k
def cto (x : Nat → Int32) (N : Nat) : Nat → Int32 × Int32
  | 0 => (-1, 0)
  | i + 1 => cst x i (cto x N i) (N - 1 - i)
def okc (x : Nat → Int32) (q : Int32 × Int32) : Prop := (q.1 = -1 ∧ q.2 = 0) ∨ ∃ i j, i < 6 ∧ j < 6 ∧ q.1 = nI (10 * i + j) ∧ q.2 = x (6 * i + j) ∧ 0 < q.2
theorem okc_0 {x : Nat → Int32} {q : Int32 × Int32} (h : okc x q) : 0 ≤ q.2 := by
  rcases h with h | ⟨i, j, _, _, _, _, h⟩
  · rw [h.2]; decide
  · exact Int32.le_of_lt h
theorem cst_ok {x : Nat → Int32} {i : Nat} {q : Int32 × Int32} (h : okc x q) : ∀ (k : Nat), i + 1 + k ≤ 6 → okc x (cst x i q k)
  | 0, _ => h
  | k + 1, hk => by
    have ih := cst_ok (i := i) h k (by omega)
    rw [cst]
    by_cases c : (cst x i q k).2 < x (6 * i + (i + 1 + k))
    · rw [if_pos c]
      exact .inr ⟨i, i + 1 + k, by omega, by omega, rfl, rfl, Int32.lt_of_le_of_lt (okc_0 ih) c⟩
    · rw [if_neg c]; exact ih
theorem cst_more {x : Nat → Int32} {i m : Nat} {q : Int32 × Int32} (h : okc x q) : ∀ {n : Nat}, m ≤ n → i + 1 + n ≤ 6 → (∀ k, m ≤ k → k < n → x (6 * i + (i + 1 + k)) = 0) → cst x i q n = cst x i q m
  | 0, a, _, _ => by rw [show m = 0 by omega]
  | n + 1, a, b, c => by
    by_cases e : m = n + 1
    · rw [e]
    · have z := okc_0 (cst_ok (i := i) h n (by omega))
      rw [cst, c n (by omega) (by omega), if_neg (Int32.not_lt.2 z)]
      exact cst_more h (by omega) (by omega) (fun k a b => c k a (by omega))
theorem cto_ok {x : Nat → Int32} {N : Nat} (hN : N ≤ 6) : ∀ (i : Nat), i ≤ N → okc x (cto x N i)
  | 0, _ => .inl ⟨rfl, rfl⟩
  | i + 1, h => cst_ok (cto_ok hN i (by omega)) _ (by omega)
theorem cto_F {x : Nat → Int32} {F : Nat} (hF : F ≤ 6) (z : ∀ i j, i < 6 → j < 6 → F ≤ i ∨ F ≤ j → x (6 * i + j) = 0) : ∀ (i : Nat), i ≤ F → cto x 6 i = cto x F i
  | 0, _ => rfl
  | i + 1, h => by
    have ih := cto_F hF z i (by omega)
    rw [cto, cto, ih]
    exact cst_more (cto_ok hF i (by omega)) (by omega) (by omega) (fun k a b => z i (i + 1 + k) (by omega) (by omega) (.inr (by omega)))
theorem cto_6 {x : Nat → Int32} {F : Nat} (hF : F ≤ 6) (z : ∀ i j, i < 6 → j < 6 → F ≤ i ∨ F ≤ j → x (6 * i + j) = 0) : ∀ (i : Nat), F ≤ i → i ≤ 6 → cto x 6 i = cto x F F
  | 0, h, _ => by
    have : F = 0 := by omega
    subst this
    rfl
  | i + 1, h, h6 => by
    by_cases e : F = i + 1
    · rw [← e]; exact cto_F hF z F (Nat.le_refl F)
    · have ih := cto_6 hF z i (by omega) (by omega)
      rw [cto, cst_more (m := 0) (cto_ok (Nat.le_refl 6) i (by omega)) (Nat.zero_le _) (by omega) (fun k a b => z i (i + 1 + k) (by omega) (by omega) (.inl (by omega)))]
      exact ih
theorem sx_10 : ∀ i, i < 6 → ∀ j, j < 6 → (10 : Int32) * nI i + nI j = nI (10 * i + j) ∧ nI (10 * i + j) / 10 = nI i ∧ nI (10 * i + j) - nI (10 * i + j) / 10 * 10 = nI j ∧ ¬ nI (10 * i + j) = -1 := by decide +kernel
theorem c_firstCool {a : Nat} {Q : Int32 → ac_m → Prop} {s : ac_m} (h : Q (cto (s (a + 5)) 6 6).1 s) : w_X5_firstCoolest a Q s := by
  unfold w_X5_firstCoolest l_X5_firstCoolest_6
  intro P hP
  refine loopUp (P := fun k => P (cto (s (a + 5)) 6 k).1 (cto (s (a + 5)) 6 k).2 (nI k) s) 6 ?_ ?_
  · exact hP _ _ _ _ ⟨fun _ => h, fun z => absurd (by decide) z⟩
  · intro i hi ih
    refine hP _ _ _ _ ⟨fun z => absurd z (nI_ge (b := 6) hi (by omega)), fun _ => ?_⟩
    unfold l_X5_firstCoolest_17
    intro P2 hP2
    rw [nI_1]
    refine loopUp (P := fun k => P2 (cst (s (a + 5)) i (cto (s (a + 5)) 6 i) k).1 (cst (s (a + 5)) i (cto (s (a + 5)) 6 i) k).2 (nI (i + 1 + k)) s) (6 - 1 - i) ?_ ?_
    · refine hP2 _ _ _ _ ⟨fun _ => ?_, fun z => absurd ?_ z⟩
      · rw [nI_1]; exact ih
      · rw [show i + 1 + (6 - 1 - i) = 6 by omega]; decide
    · intro k hk ih2
      refine hP2 _ _ _ _ ⟨fun z => absurd z (nI_ge (b := 6) (by omega) (by omega)), fun _ => ?_⟩
      rw [cst] at ih2
      rw [nI_1, show i + 1 + k + 1 = i + 1 + (k + 1) by omega]
      refine c_cool hi (by omega) ⟨fun z => ?_, fun z => c_cool hi (by omega) ?_⟩
      · rw [if_neg (Int32.not_lt.2 z)] at ih2; exact ih2
      · rw [if_pos (Int32.not_le.1 z)] at ih2
        rw [(sx_10 i hi (i + 1 + k) (by omega)).1]
        exact ih2
