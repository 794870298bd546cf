/-! TOLD -/
def toldA (p : Int32) (Q : Int32 → ac_m → Prop) (x2 : Int32) (s : ac_m) : Prop := (p = (0 : Int32) → (vp_in p 3 ∧ (Q (s 73 p.toNatClampNeg) s))) ∧ (p = (1 : Int32) → (vp_in p 3 ∧ (Q (s 73 p.toNatClampNeg) s))) ∧ (p = (2 : Int32) → (vp_in p 3 ∧ (Q (s 73 p.toNatClampNeg) s))) ∧ (p = (3 : Int32) → (Q (s 556 (82 : Int32).toNatClampNeg) s)) ∧ (p = (4 : Int32) → (w_X12_there 556 (fun r139 s139 => Q r139 s139) s)) ∧ (p = (5 : Int32) → (w_X12_grassIn 556 (fun r148 s148 => Q r148 s148) s)) ∧ (p = (6 : Int32) → (w_X12_weightIn 556 (fun r156 s156 => Q r156 s156) s)) ∧ (p = (7 : Int32) → (w_X12_there 556 (fun r165 s165 => w_X12_eaten r165 (fun r168 s168 => Q r168 s168) s165) s)) ∧ (p = (8 : Int32) → (Q (s 556 (81 : Int32).toNatClampNeg) s)) ∧ (p = (9 : Int32) → (Q (s 69 34) s)) ∧ (p = (10 : Int32) → (Q (s 69 36) s)) ∧ (¬ p = (0 : Int32) ∧ ¬ p = (1 : Int32) ∧ ¬ p = (2 : Int32) ∧ ¬ p = (3 : Int32) ∧ ¬ p = (4 : Int32) ∧ ¬ p = (5 : Int32) ∧ ¬ p = (6 : Int32) ∧ ¬ p = (7 : Int32) ∧ ¬ p = (8 : Int32) ∧ ¬ p = (9 : Int32) ∧ ¬ p = (10 : Int32) → (Q (x2 / (2 : Int32)) s))
theorem m_told {p : Int32} {Q : Int32 → ac_m → Prop} {s : ac_m} (h1 : 0 ≤ p) (h2 : p ≤ 11) (h : toldA p Q (sm (fun k => (ac_u s 69 0 0) 556 (45 + k)) 36) (ac_u s 69 0 0)) : w_X12_told p Q s := by
  unfold w_X12_told
  refine m_inA (fun _ _ => ?_) (fun z => absurd ⟨h1, h2⟩ z)
  refine m_bad0 u_eq (m_if0B ?_)
  generalize (ac_u s 69 0 0) = t at h ⊢
  unfold l_X12_told_35
  intro P hP
  refine loopUp (P := fun k => P (sm (fun k => t 556 (45 + k)) k) (nI k) t) 36 ?_ ?_
  · exact hP _ _ _ ⟨fun _ => h, fun z => absurd (by decide) z⟩
  · intro k hk ih
    have f45 : (45 : Int32) + nI k = nI (45 + k) := nI_add 45 k
    refine hP _ _ _ ⟨fun z => absurd z (nI_ge (b := 36) hk (by omega)), fun _ => ?_⟩
    rw [f45, cl_nI (by omega), nI_1]
    exact ⟨vp_in_nI (by omega) (by omega), ih⟩
theorem c_cool {a i j : Nat} {Q : Int32 → ac_m → Prop} {s : ac_m} (hi : i < 6) (hj : j < 6) (h : Q (s (a + 5) (6 * i + j)) s) : w_X5_coolness a (nI i) (nI j) Q s := by
  unfold w_X5_coolness
  refine ⟨fun z => absurd z (nI_pos (by omega)), fun _ => ⟨fun z => absurd z (nI_ge (b := 6) hi (by omega)), fun _ => ⟨fun z => absurd z (nI_pos (by omega)), fun _ => ⟨fun _ => ?_, fun z => absurd (nI_lt (b := 6) hj (by omega)) z⟩⟩⟩⟩
  rw [(sx_66 i hi j hj).2, cl_nI (by omega)]
  exact ⟨vp_in_nI (by omega) (by omega), h⟩
def tri (x : Nat → Int32) : Nat → Int32 := sm (fun i => sm (fun j => x (6 * i + (i + 1 + j))) (5 - i))
theorem c_allCool {a : Nat} {Q : Int32 → ac_m → Prop} {s : ac_m} (h : Q (tri (s (a + 5)) 6) s) : w_X5_allCoolness a Q s := by
  unfold w_X5_allCoolness l_X5_allCoolness_4
  intro P hP
  refine loopUp (P := fun k => P (tri (s (a + 5)) k) (nI k) s) 6 ?_ ?_
  · exact hP _ _ _ ⟨fun _ => h, fun z => absurd (by decide) z⟩
  · intro i hi ih
    refine hP _ _ _ ⟨fun z => absurd z (nI_ge (b := 6) hi (by omega)), fun _ => ?_⟩
    unfold l_X5_allCoolness_14
    intro P2 hP2
    rw [nI_1]
    have key := loopUp (P := fun k => P2 (tri (s (a + 5)) i + sm (fun j => s (a + 5) (6 * i + (i + 1 + j))) k) (nI (i + 1 + k)) s) (5 - i) ?_ ?_
    · have e : tri (s (a + 5)) i + sm (fun j => s (a + 5) (6 * i + (i + 1 + j))) 0 = tri (s (a + 5)) i := Int32.add_zero _
      rw [e] at key
      exact key
    · refine hP2 _ _ _ ⟨fun _ => ?_, fun z => absurd ?_ z⟩
      · unfold tri at ih
        rw [sm] at ih
        rw [nI_1]
        exact ih
      · rw [show i + 1 + (5 - i) = 6 by omega]; decide
    · intro k hk ih2
      refine hP2 _ _ _ ⟨fun z => absurd z (nI_ge (b := 6) (by omega) (by omega)), fun _ => ?_⟩
      refine c_cool hi (by omega) ?_
      rw [sm] at ih2
      rw [nI_1, show i + 1 + k + 1 = i + 1 + (k + 1) by omega, Int32.add_assoc]
      exact ih2
theorem sm_nat {f : Nat → Int32} {c : Nat} (hc : c < 1000) : ∀ {n : Nat}, (∀ k, k < n → ∃ m, m ≤ c ∧ f k = nI m) → ∃ t, t ≤ c * n ∧ sm f n = nI t
  | 0, _ => ⟨0, by omega, rfl⟩
  | n + 1, h => by
    obtain ⟨t, ht, e⟩ := sm_nat hc (n := n) (fun k hk => h k (by omega))
    obtain ⟨m, hm, e2⟩ := h n (by omega)
    refine ⟨t + m, by rw [Nat.mul_add]; omega, ?_⟩
    rw [sm, e, e2, nI_add]
theorem half : ∀ t, t < 300 → nI (t + t) / 2 = nI t := by decide +kernel
theorem tri_eq {F : Int32} {x : Nat → Int32} (v : vM F x) : sm (fun k => x (45 + k)) 36 / 2 = tri (fun k => x (45 + k)) 6 := by
  have w := v.2.2.1
  obtain ⟨t, ht, e⟩ := sm_nat (c := 45) (n := 6) (f := fun i => sm (fun j => x (45 + (6 * i + (i + 1 + j)))) (5 - i)) (by omega) (fun i hi => by
    obtain ⟨t, ht, e⟩ := sm_nat (c := 9) (n := 5 - i) (f := fun j => x (45 + (6 * i + (i + 1 + j)))) (by omega) (fun j hj => by
      have z := w i (i + 1 + j) hi (by omega)
      exact nI_of2 (M := 9) (n := 9) rfl (by grind) z.2.2.1)
    exact ⟨t, by omega, e⟩)
  have e' : tri (fun k => x (45 + k)) 6 = nI t := e
  have d : sm (fun k => x (45 + k)) 36 = tri (fun k => x (45 + k)) 6 + tri (fun k => x (45 + k)) 6 := by
    have a01 := (w 0 1 (by omega) (by omega)).1
    have a02 := (w 0 2 (by omega) (by omega)).1
    have a03 := (w 0 3 (by omega) (by omega)).1
    have a04 := (w 0 4 (by omega) (by omega)).1
    have a05 := (w 0 5 (by omega) (by omega)).1
    have a12 := (w 1 2 (by omega) (by omega)).1
    have a13 := (w 1 3 (by omega) (by omega)).1
    have a14 := (w 1 4 (by omega) (by omega)).1
    have a15 := (w 1 5 (by omega) (by omega)).1
    have a23 := (w 2 3 (by omega) (by omega)).1
    have a24 := (w 2 4 (by omega) (by omega)).1
    have a25 := (w 2 5 (by omega) (by omega)).1
    have a34 := (w 3 4 (by omega) (by omega)).1
    have a35 := (w 3 5 (by omega) (by omega)).1
    have a45 := (w 4 5 (by omega) (by omega)).1
    have b0 := (w 0 0 (by omega) (by omega)).2.2.2.1 rfl
    have b1 := (w 1 1 (by omega) (by omega)).2.2.2.1 rfl
    have b2 := (w 2 2 (by omega) (by omega)).2.2.2.1 rfl
    have b3 := (w 3 3 (by omega) (by omega)).2.2.2.1 rfl
    have b4 := (w 4 4 (by omega) (by omega)).2.2.2.1 rfl
    have b5 := (w 5 5 (by omega) (by omega)).2.2.2.1 rfl
    simp only [tri, sm, Nat.reduceMul, Nat.reduceAdd, Nat.reduceSub, Nat.add_zero, Nat.zero_add] at *
    grind
  rw [d, e', nI_add, half t (by omega)]
