/-! LIGHTEST -/
theorem ng : ∀ a, a < 31 → ∀ b, b < 31 → ((-1 : Int32) * nI a ≤ (-1 : Int32) * nI b ↔ nI b ≤ nI a) := by decide +kernel
theorem neg_le {x y : Int32} (hx : 0 ≤ x ∧ x ≤ 30) (hy : 0 ≤ y ∧ y ≤ 30) : (-1 : Int32) * x ≤ (-1 : Int32) * y ↔ y ≤ x := by
  obtain ⟨a, ha, e⟩ := nI_of2 (x := x) (M := 30) (n := 30) rfl (by grind) hx.2
  obtain ⟨b, hb, e2⟩ := nI_of2 (x := y) (M := 30) (n := 30) rfl (by grind) hy.2
  subst e
  subst e2
  exact ng a (by omega) b (by omega)
theorem Inv_w {s : ac_m} (i : Inv s) {b : Nat} (hb : b < 13) : 0 ≤ s 556 b ∧ s 556 b ≤ 30 := by
  rcases Inv_v i hb with w | w
  · rw [w.1]; decide
  · have w1 := w.1
    have w2 := w.2.1
    clear w i
    generalize s 556 b = x at *
    grind
theorem m_light {B : Nat} {p v : Int32} {s : ac_m} (i : Inv s) (hB : s 73 1 = nI B) (hb : B ≤ 12) (h1 : 0 ≤ p) (h2 : p ≤ 1)
    (v0 : p = 0 → v = bst (fun k => decide (0 < s 556 k)) (fun k => (-1 : Int32) * s 556 k) B)
    (v1 : ¬ p = 0 → bst (fun k => decide (0 < s 556 k)) (fun k => (-1 : Int32) * s 556 k) B = -1 → v = -1)
    (v2 : ¬ p = 0 → ∀ j, j < B → bst (fun k => decide (0 < s 556 k)) (fun k => (-1 : Int32) * s 556 k) B = nI j → v = s 556 j) :
    w_X12_lightest p (fun b s2 => v = b ∧ s2 69 0 = 0 ∧ Inv s2) s := by
  have e556 : (ac_u s 69 0 0) 556 = s 556 := u_ne (by decide)
  have e73 : (ac_u s 69 0 0) 73 = s 73 := u_ne (by decide)
  have i0 := Inv_0 i
  unfold w_X12_lightest
  refine m_inA (fun _ _ => m_bad0 u_eq (m_if0B ?_)) (fun z => absurd ⟨h1, h2⟩ z)
  unfold l_X12_lightest_34
  intro P hP
  refine loopUp (P := fun k => P (bst (fun k => decide (0 < s 556 k)) (fun k => (-1 : Int32) * s 556 k) k) (nI k) (ac_u s 69 0 0)) B ?_ ?_
  · refine hP _ _ _ ⟨fun _ => ⟨fun z => ⟨v0 z, u_eq, i0⟩, fun z => ⟨fun z2 => ?_, fun z2 => ⟨(v1 z z2).trans z2.symm, u_eq, i0⟩⟩⟩, fun z => absurd ?_ z⟩
    · obtain ⟨j, hj, _, e⟩ := (bst_rng _ _ B).resolve_left z2
      have f0 : (0 : Int32) + nI j = nI j := by rw [← nI_0, nI_add, Nat.zero_add]
      rw [e, f0, cl_nI (by omega), e556]
      exact ⟨vp_in_nI (by omega) (by omega), v2 z j hj e, u_eq, i0⟩
    · rw [e73, show s 73 (1 : Int32).toNatClampNeg = nI B from hB]
      exact Int32.le_refl _
  · intro k hk ih
    have e1 := cl_nI (n := k) (by omega)
    have f0 : (0 : Int32) + nI k = nI k := by rw [← nI_0, nI_add, Nat.zero_add]
    refine hP _ _ _ ⟨fun z => absurd z ?_, fun _ => ?_⟩
    · rw [e73, show s 73 (1 : Int32).toNatClampNeg = nI B from hB]
      exact nI_ge hk (by omega)
    · unfold w_X12_isThere
      rw [f0, e1, nI_1, e556]
      rw [bst] at ih
      refine ⟨vp_in_nI (by omega) (by omega), fun z => m_if0B ?_, fun z => m_if1B ⟨fun z2 => ?_, fun z2 => ?_⟩⟩
      · rw [if_neg (by grind)] at ih
        exact ih
      · rw [if_pos (by grind), if_pos z2] at ih
        exact ih
      · obtain ⟨j, hj, _, e⟩ := (bst_rng _ _ k).resolve_left z2
        have fj : (0 : Int32) + nI j = nI j := by rw [← nI_0, nI_add, Nat.zero_add]
        have nl := neg_le (Inv_w i (b := k) (by omega)) (Inv_w i (b := j) (by omega))
        rw [if_pos (by grind), if_neg z2, e, cl_nI (by omega)] at ih
        rw [e, fj, cl_nI (by omega)]
        refine ⟨vp_in_nI (by omega) (by omega), vp_in_nI (by omega) (by omega), fun z3 => ?_, fun z3 => ?_⟩
        · rw [if_pos (nl.2 z3)] at ih; exact ih
        · rw [if_neg (fun y => z3 (nl.1 y))] at ih; exact ih
theorem s_lightest (p : Int32) (s : ac_m) (i : Inv s) : simX thA (w_X11_lightest p) (w_X12_lightest p) s := by
  obtain ⟨B, hb, hB, hC⟩ := Inv_B i
  have be : bst (fun k => decide (0 < s (42 + 2) k)) (fun k => (-1 : Int32) * s (42 + 2) k) 12 = bst (fun k => decide (0 < s 556 k)) (fun k => (-1 : Int32) * s 556 k) B := by
    rw [bst_more (m := B) hb (fun k a b => by rw [(Inv_m i (b := k) (by omega)).1, Inv_nb i hB a (by omega)]; rfl)]
    exact bst_cong (by omega) (fun k hk => by rw [(Inv_m i (b := k) (by omega)).1]) (fun k hk => by rw [(Inv_m i (b := k) (by omega)).1])
  unfold simX w_X11_lightest
  refine c_within (fun h1 h2 => ?_) (fun h => ?_)
  · unfold w_X5_firstLightest
    refine c_firstBy ?_
    rw [be]
    refine ⟨fun z => ?_, fun z => ⟨fun z2 => ?_, fun z2 => ?_⟩⟩
    · exact m_light i hB hb h1 h2 (fun _ => rfl) (fun y => absurd z y) (fun y => absurd z y)
    · obtain ⟨j, hj, _, e⟩ := (bst_rng _ _ B).resolve_left z2
      rw [e]
      refine c_weight ?_
      rw [sm_bit (by omega)]
      refine m_light i hB hb h1 h2 (fun y => absurd y z) (fun _ y => absurd y z2) (fun _ j2 hj2 e2 => ?_)
      have : j = j2 := (nI_eq (by omega) (by omega)).1 (e.symm.trans e2)
      subst this
      exact (Inv_m i (by omega)).1
    · exact m_light i hB hb h1 h2 (fun y => absurd y z) (fun _ _ => z2) (fun _ j hj e => by rw [z2] at e; exact absurd (show nI j < 0 by rw [← e]; decide) (nI_pos (by omega)))
  · unfold w_X12_lightest
    refine m_inA (fun a b => absurd ⟨a, b⟩ h) (fun _ => ?_)
    exact m_bad1 u_eq (by decide) in2_1 (m_if1B ⟨⟨rfl, bad_69⟩, Inv_bad1 i⟩)
