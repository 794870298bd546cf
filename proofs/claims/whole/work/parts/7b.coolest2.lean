/-! COOLEST, BOTH -/
theorem m_coolest {F : Nat} {p v : Int32} {s : ac_m} (i : Inv s) (hF : s 73 0 = nI F) (hf : F ≤ 6) (h1 : 0 ≤ p) (h2 : p ≤ 1)
    (v0 : p = 0 → v = (cto (fun k => s 556 (45 + k)) F F).1)
    (v1 : ¬ p = 0 → (cto (fun k => s 556 (45 + k)) F F).1 = -1 → v = -1)
    (v2 : ¬ p = 0 → ¬ (cto (fun k => s 556 (45 + k)) F F).1 = -1 → v = (cto (fun k => s 556 (45 + k)) F F).2) :
    w_X12_coolest p (fun b s2 => v = b ∧ s2 69 0 = 0 ∧ Inv s2) s := by
  have e556 : (ac_u s 69 0 0) 556 = s 556 := u_ne (by decide)
  have e73 : (ac_u s 69 0 0) 73 (0 : Int32).toNatClampNeg = nI F := by rw [u_ne (by decide)]; exact hF
  have i0 := Inv_0 i
  unfold w_X12_coolest
  refine m_inA (fun _ _ => m_bad0 u_eq (m_if0B ?_)) (fun z => absurd ⟨h1, h2⟩ z)
  unfold l_X12_coolest_37
  intro P hP
  refine loopUp (P := fun k => P (cto (fun k => s 556 (45 + k)) F k).1 (cto (fun k => s 556 (45 + k)) F k).2 (nI k) (ac_u s 69 0 0)) F ?_ ?_
  · refine hP _ _ _ _ ⟨fun _ => ⟨fun z => ⟨v0 z, u_eq, i0⟩, fun z => ⟨fun z2 => ⟨v2 z z2, u_eq, i0⟩, fun z2 => ⟨(v1 z z2).trans z2.symm, u_eq, i0⟩⟩⟩, fun z => absurd ?_ z⟩
    rw [e73]
    exact Int32.le_refl _
  · intro j hj ih
    refine hP _ _ _ _ ⟨fun z => absurd z (by rw [e73]; exact nI_ge hj (by omega)), fun _ => ?_⟩
    unfold l_X12_coolest_54
    intro P2 hP2
    rw [nI_1]
    refine loopUp (P := fun k => P2 (cst (fun k => s 556 (45 + k)) j (cto (fun k => s 556 (45 + k)) F j) k).1 (cst (fun k => s 556 (45 + k)) j (cto (fun k => s 556 (45 + k)) F j) k).2 (nI (j + 1 + k)) (ac_u s 69 0 0)) (F - 1 - j) ?_ ?_
    · refine hP2 _ _ _ _ ⟨fun _ => ?_, fun z => absurd ?_ z⟩
      · rw [nI_1]; exact ih
      · rw [e73, show j + 1 + (F - 1 - j) = F by omega]; exact Int32.le_refl _
    · intro k hk ih2
      refine hP2 _ _ _ _ ⟨fun z => absurd z (by rw [e73]; exact nI_ge (by omega) (by omega)), fun _ => ?_⟩
      rw [cst] at ih2
      rw [(sx_66 j (by omega) (j + 1 + k) (by omega)).1, (sx_10 j (by omega) (j + 1 + k) (by omega)).1, cl_nI (by omega), e556, nI_1, show j + 1 + k + 1 = j + 1 + (k + 1) by omega]
      refine ⟨vp_in_nI (by omega) (by omega), fun z => ?_, fun z => ?_⟩
      · rw [if_pos z] at ih2; exact ih2
      · rw [if_neg z] at ih2; exact ih2
theorem s_coolest (p : Int32) (s : ac_m) (i : Inv s) : simX thA (w_X11_coolest p) (w_X12_coolest p) s := by
  obtain ⟨F, hf, hF, hD⟩ := Inv_F i
  have hx : ∀ k, k < 36 → s (42 + 5) k = s 556 (45 + k) := fun k hk => i.2.1.2.2.1 k hk
  have z0 : ∀ a b, a < 6 → b < 6 → F ≤ a ∨ F ≤ b → s 556 (45 + (6 * a + b)) = 0 := by
    intro a b ha hb h
    have w := i.2.2.1.2.2.1
    rcases h with h | h
    · exact (w a b ha hb).2.2.2.2 (by rw [hF]; exact nI_le h (by omega))
    · rw [(w a b ha hb).1]; exact (w b a hb ha).2.2.2.2 (by rw [hF]; exact nI_le h (by omega))
  have cc : ∀ (j k : Nat), j < 6 → j + 1 + k ≤ 6 → ∀ q, cst (s (42 + 5)) j q k = cst (fun k => s 556 (45 + k)) j q k := by
    intro j k hj
    induction k with
    | zero => intro _ q; rfl
    | succ k ih =>
      intro hk q
      rw [cst, cst, ih (by omega) q, hx _ (by omega)]
  have ce : ∀ j, j ≤ 6 → cto (s (42 + 5)) 6 j = cto (fun k => s 556 (45 + k)) 6 j := by
    intro j
    induction j with
    | zero => intro _; rfl
    | succ j ih =>
      intro hj
      rw [cto, cto, ih (by omega), cc j _ (by omega) (by omega)]
  have c6 := (ce 6 (by omega)).trans (cto_6 hf z0 6 hf (by omega))
  unfold simX w_X11_coolest
  refine c_within (fun h1 h2 => ?_) (fun h => ?_)
  · refine c_firstCool ?_
    rw [c6]
    have ok := cto_ok (x := fun k => s 556 (45 + k)) hf F (Nat.le_refl F)
    refine ⟨fun z => ?_, fun z => ⟨fun z2 => ?_, fun z2 => ?_⟩⟩
    · exact m_coolest i hF hf h1 h2 (fun _ => rfl) (fun y => absurd z y) (fun y => absurd z y)
    · obtain ⟨a, b, ha, hb, e1, e2, _⟩ := ok.resolve_left (fun y => z2 y.1)
      obtain ⟨_, q1, q2, _⟩ := sx_10 a ha b hb
      rw [e1, q2, q1]
      refine c_cool ha hb ?_
      refine m_coolest i hF hf h1 h2 (fun y => absurd y z) (fun _ y => absurd y z2) (fun _ _ => ?_)
      rw [e2]
      exact hx _ (by omega)
    · exact m_coolest i hF hf h1 h2 (fun y => absurd y z) (fun _ _ => z2) (fun _ y => absurd z2 y)
  · unfold w_X12_coolest
    refine m_inA (fun a b => absurd ⟨a, b⟩ h) (fun _ => ?_)
    exact m_bad1 u_eq (by decide) in2_1 (m_if1B ⟨⟨rfl, bad_69⟩, Inv_bad1 i⟩)
