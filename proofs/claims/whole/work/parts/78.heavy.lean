/-! HEAVIEST, OLDEST -/
theorem m_hOr {c B : Nat} {p v : Int32} {s : ac_m} (hc : c ≤ 13) (i : Inv s) (hB : s 73 1 = nI B) (hb : B ≤ 12) (h1 : 0 ≤ p) (h2 : p ≤ 1)
    (v0 : p = 0 → v = bst (fun k => decide (0 < s 556 k)) (fun k => s 556 (c + k)) B)
    (v1 : ¬ p = 0 → bst (fun k => decide (0 < s 556 k)) (fun k => s 556 (c + k)) B = -1 → v = -1)
    (v2 : ¬ p = 0 → ∀ j, j < B → bst (fun k => decide (0 < s 556 k)) (fun k => s 556 (c + k)) B = nI j → v = s 556 (c + j)) :
    w_X12_heaviestOr p (nI c) (fun b s2 => v = b ∧ s2 69 0 = 0 ∧ Inv s2) s := by
  have e556 : (ac_u s 69 0 0) 556 = s 556 := u_ne (by decide)
  have i0 := Inv_0 i
  unfold w_X12_heaviestOr
  refine m_inA (fun _ _ => m_bad0 u_eq (m_if0B ?_)) (fun z => absurd ⟨h1, h2⟩ z)
  refine m_topOf (by rw [u_ne (by decide)]; exact hB) hb hc ?_
  rw [e556]
  refine ⟨fun z => ⟨v0 z, u_eq, i0⟩, fun z => ⟨fun z2 => ?_, fun z2 => ⟨(v1 z z2).trans z2.symm, u_eq, i0⟩⟩⟩
  obtain ⟨j, hj, _, e⟩ := (bst_rng _ _ B).resolve_left z2
  rw [e, nI_add, cl_nI (by omega)]
  exact ⟨vp_in_nI (by omega) (by omega), v2 z j hj e, u_eq, i0⟩
theorem m_hOr_no {c : Int32} {p : Int32} {s : ac_m} (i : Inv s) (h : ¬ ((0 : Int32) ≤ p ∧ p ≤ 1)) : w_X12_heaviestOr p c (fun _ s2 => thA "java/lang/IllegalArgumentException" (s2 69 0) ∧ Inv s2) (ac_u s 0 16 (s 0 16 + 1)) := by
  unfold w_X12_heaviestOr
  refine m_inA (fun a b => absurd ⟨a, b⟩ h) (fun _ => ?_)
  exact m_bad1 u_eq (by decide) in2_1 (m_if1B ⟨⟨rfl, bad_69⟩, Inv_bad1 i⟩)
theorem best_eq {s : ac_m} {B r c : Nat} (i : Inv s) (hB : s 73 1 = nI B) (hb : B ≤ 12) (hr : ∀ k, k < 13 → s r k = s 556 (c + k)) :
    bst (fun k => decide (0 < s (42 + 2) k)) (fun k => (1 : Int32) * s r k) 12 = bst (fun k => decide (0 < s 556 k)) (fun k => s 556 (c + k)) B := by
  rw [bst_more (m := B) hb (fun k a b => by rw [(Inv_m i (b := k) (by omega)).1, Inv_nb i hB a (by omega)]; rfl)]
  exact bst_cong (by omega) (fun k hk => by rw [(Inv_m i (b := k) (by omega)).1]) (fun k hk => by rw [hr k (by omega), Int32.one_mul])
theorem s_heaviest (p : Int32) (s : ac_m) (i : Inv s) : simX thA (w_X11_heaviest p) (w_X12_heaviest p) s := by
  obtain ⟨B, hb, hB, hC⟩ := Inv_B i
  have hr : ∀ k, k < 13 → s (42 + 2) k = s 556 (0 + k) := fun k hk => by rw [Nat.zero_add]; exact (Inv_m i hk).1
  unfold simX w_X11_heaviest w_X12_heaviest
  refine c_within (fun h1 h2 => ?_) (fun h => m_hOr_no i h)
  unfold w_X5_firstHeaviest
  refine c_firstBy ?_
  rw [best_eq i hB hb hr]
  refine ⟨fun z => ?_, fun z => ⟨fun z2 => ?_, fun z2 => ?_⟩⟩
  · exact m_hOr (c := 0) (by omega) i hB hb h1 h2 (fun _ => rfl) (fun y => absurd z y) (fun y => absurd z y)
  · obtain ⟨j, hj, _, e⟩ := (bst_rng _ _ B).resolve_left z2
    rw [e]
    refine c_weight ?_
    rw [sm_bit (by omega)]
    refine m_hOr (c := 0) (by omega) i hB hb h1 h2 (fun y => absurd y z) (fun _ y => absurd y z2) (fun _ j2 hj2 e2 => ?_)
    have : j = j2 := (nI_eq (by omega) (by omega)).1 (e.symm.trans e2)
    subst this
    exact hr j (by omega)
  · exact m_hOr (c := 0) (by omega) i hB hb h1 h2 (fun y => absurd y z) (fun _ _ => z2) (fun _ j hj e => by rw [z2] at e; exact absurd (show nI j < 0 by rw [← e]; decide) (nI_pos (by omega)))
theorem s_oldest (p : Int32) (s : ac_m) (i : Inv s) : simX thA (w_X11_oldest p) (w_X12_oldest p) s := by
  obtain ⟨B, hb, hB, hC⟩ := Inv_B i
  have hr : ∀ k, k < 13 → s (42 + 4) k = s 556 (13 + k) := fun k hk => (Inv_m i hk).2.1
  unfold simX w_X11_oldest w_X12_oldest
  refine c_within (fun h1 h2 => ?_) (fun h => m_hOr_no i h)
  unfold w_X5_firstOldest
  refine c_firstBy ?_
  rw [best_eq i hB hb hr]
  refine ⟨fun z => ?_, fun z => ⟨fun z2 => ?_, fun z2 => ?_⟩⟩
  · exact m_hOr (c := 13) (by omega) i hB hb h1 h2 (fun _ => rfl) (fun y => absurd z y) (fun y => absurd z y)
  · obtain ⟨j, hj, hw, e⟩ := (bst_rng _ _ B).resolve_left z2
    have hv : ∀ v, v = s 556 (13 + j) → w_X12_heaviestOr p (nI 13) (fun b s2 => v = b ∧ s2 69 0 = 0 ∧ Inv s2) s := by
      intro v ev
      refine m_hOr (c := 13) (by omega) i hB hb h1 h2 (fun y => absurd y z) (fun _ y => absurd y z2) (fun _ j2 hj2 e2 => ?_)
      have : j = j2 := (nI_eq (by omega) (by omega)).1 (e.symm.trans e2)
      subst this
      exact ev
    rw [e]
    have m := Inv_m i (b := j) (by omega)
    have w := Inv_v i (b := j) (by omega)
    unfold w_X5_ageOf
    refine c_isThere (by omega) (fun y => m_if0B (hv _ ?_)) (fun y => m_if1B ⟨vp_in_nI (by omega) (by omega), hv _ ?_⟩)
    · rw [m.1] at y
      grind
    · rw [cl_nI (by omega)]
      exact hr j (by omega)
  · exact m_hOr (c := 13) (by omega) i hB hb h1 h2 (fun y => absurd y z) (fun _ _ => z2) (fun _ j hj e => by rw [z2] at e; exact absurd (show nI j < 0 by rw [← e]; decide) (nI_pos (by omega)))
