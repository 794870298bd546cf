/-! THE FIRST BEST -/
def bst (w : Nat → Bool) (v : Nat → Int32) : Nat → Int32
  | 0 => -1
  | k + 1 => if w k = true then (if bst w v k = -1 then nI k else if v k ≤ v (bst w v k).toNatClampNeg then bst w v k else nI k) else bst w v k
theorem bst_rng (w : Nat → Bool) (v : Nat → Int32) : ∀ (k : Nat), bst w v k = -1 ∨ ∃ j, j < k ∧ w j = true ∧ bst w v k = nI j
  | 0 => .inl rfl
  | k + 1 => by
    have ih := bst_rng w v k
    rw [bst]
    by_cases c : w k = true
    · rw [if_pos c]
      by_cases c2 : bst w v k = -1
      · rw [if_pos c2]; exact .inr ⟨k, by omega, c, rfl⟩
      · rw [if_neg c2]
        obtain ⟨j, hj, hw, e⟩ := ih.resolve_left c2
        by_cases c3 : v k ≤ v (bst w v k).toNatClampNeg
        · rw [if_pos c3]; exact .inr ⟨j, by omega, hw, e⟩
        · rw [if_neg c3]; exact .inr ⟨k, by omega, c, rfl⟩
    · rw [if_neg c]
      exact ih.imp id (fun ⟨j, hj, hw, e⟩ => ⟨j, by omega, hw, e⟩)
theorem bst_cong {w w' : Nat → Bool} {v v' : Nat → Int32} : ∀ {n : Nat}, n < 100 → (∀ k, k < n → w k = w' k) → (∀ k, k < n → v k = v' k) → bst w v n = bst w' v' n
  | 0, _, _, _ => rfl
  | n + 1, hn, h, h2 => by
    have ih := bst_cong (n := n) (by omega) (fun k hk => h k (by omega)) (fun k hk => h2 k (by omega))
    rw [bst, bst, h n (by omega), ih, h2 n (by omega)]
    by_cases c : bst w' v' n = -1
    · rw [if_pos c, if_pos c]
    · obtain ⟨j, hj, _, e⟩ := (bst_rng w' v' n).resolve_left c
      rw [if_neg c, if_neg c, e, cl_nI (by omega), h2 j (by omega)]
theorem bst_more {w : Nat → Bool} {v : Nat → Int32} {m : Nat} : ∀ {n : Nat}, m ≤ n → (∀ k, m ≤ k → k < n → w k = false) → bst w v n = bst w v m
  | 0, h, _ => by rw [show m = 0 by omega]
  | n + 1, h, hf => by
    by_cases e : m = n + 1
    · rw [e]
    · rw [bst, hf n (by omega) (by omega), if_neg (by decide)]
      exact bst_more (by omega) (fun k a b => hf k a (by omega))
theorem c_firstBy {a r : Nat} {f : Int32} {Q : Int32 → ac_m → Prop} {s : ac_m} (h : Q (bst (fun k => decide (0 < s (a + 2) k)) (fun k => f * s r k) 12) s) : w_X5_firstBy a r f Q s := by
  unfold w_X5_firstBy l_X5_firstBy_8
  intro P hP
  refine loopUp (P := fun k => ∀ x, (¬ bst (fun k => decide (0 < s (a + 2) k)) (fun k => f * s r k) k = -1 → x = f * s r (bst (fun k => decide (0 < s (a + 2) k)) (fun k => f * s r k) k).toNatClampNeg) → P (bst (fun k => decide (0 < s (a + 2) k)) (fun k => f * s r k) k) x (nI k) s) 12 ?_ ?_ 0 (fun z => absurd rfl z)
  · intro x hx
    exact hP _ _ _ _ ⟨fun _ => h, fun z => absurd (by decide) z⟩
  · intro k hk ih x hx
    have e1 := cl_nI (n := k) (by omega)
    have v13 : vp_in (nI k) 13 := vp_in_nI (by omega) (by omega)
    refine hP _ _ _ _ ⟨fun z => absurd z (nI_ge (b := 12) hk (by omega)), fun _ => ⟨fun z => absurd z (nI_ge (b := 13) (by omega) (by omega)), fun _ => ⟨v13, v13, ?_⟩⟩⟩
    rw [e1, nI_1]
    rw [bst] at ih
    refine ⟨fun z => ?_, fun z => ⟨fun z2 => ?_, fun z2 => ⟨fun z3 => ?_, fun z3 => ?_⟩⟩⟩
    · rw [if_neg (by grind)] at ih
      exact ih x hx
    · rw [if_pos (by grind), if_pos z2] at ih
      exact ih _ (fun _ => by rw [e1])
    · rw [hx z2] at z3
      rw [if_pos (by grind), if_neg z2, if_pos z3] at ih
      exact ih x hx
    · rw [hx z2] at z3
      rw [if_pos (by grind), if_neg z2, if_neg z3] at ih
      exact ih _ (fun _ => by rw [e1])
theorem m_topOf {c B : Nat} {Q : Int32 → ac_m → Prop} {s : ac_m} (hB : s 73 1 = nI B) (hb : B ≤ 12) (hc : c ≤ 13) (h : Q (bst (fun k => decide (0 < s 556 k)) (fun k => s 556 (c + k)) B) s) : w_X12_topOf (nI c) Q s := by
  unfold w_X12_topOf l_X12_topOf_4
  intro P hP
  refine loopUp (P := fun k => P (bst (fun k => decide (0 < s 556 k)) (fun k => s 556 (c + k)) k) (nI k) s) B ?_ ?_
  · refine hP _ _ _ ⟨fun _ => h, fun z => absurd ?_ z⟩
    rw [show s 73 (1 : Int32).toNatClampNeg = nI B from hB]
    exact Int32.le_refl _
  · intro k hk ih
    have e1 := cl_nI (n := k) (by omega)
    have f0 : (0 : Int32) + nI k = nI k := by rw [← nI_0, nI_add, Nat.zero_add]
    refine hP _ _ _ ⟨fun z => absurd z ?_, fun _ => ?_⟩
    · rw [show s 73 (1 : Int32).toNatClampNeg = nI B from hB]
      exact nI_ge hk (by omega)
    · unfold w_X12_isThere
      rw [f0, e1, nI_1]
      rw [bst] at ih
      refine ⟨vp_in_nI (by omega) (by omega), fun z => m_if0B ?_, fun z => m_if1B ⟨fun z2 => ?_, fun z2 => ?_⟩⟩
      · rw [if_neg (by grind)] at ih
        exact ih
      · rw [if_pos (by grind), if_pos z2] at ih
        exact ih
      · obtain ⟨j, hj, _, e⟩ := (bst_rng _ _ k).resolve_left z2
        rw [if_pos (by grind), if_neg z2, e, cl_nI (by omega)] at ih
        rw [e, nI_add, nI_add, cl_nI (by omega), cl_nI (by omega)]
        refine ⟨vp_in_nI (by omega) (by omega), vp_in_nI (by omega) (by omega), fun z3 => ?_, fun z3 => ?_⟩
        · rw [if_pos z3] at ih; exact ih
        · rw [if_neg z3] at ih; exact ih
