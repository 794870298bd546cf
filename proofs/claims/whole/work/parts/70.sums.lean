/-! WHAT IS EATEN, SUMMED -/
theorem c_eatenBy {p : Int32} {Q : Int32 → ac_m → Prop} {s : ac_m} (i : Inv s) (h : ∀ s', kp s s' → Q (sm (fun k => if bt p k = true then apM s 556 k else 0) 12) s') : w_X5_eatenBy 42 p Q s := by
  unfold w_X5_eatenBy
  refine c_reckonAll i.2.2.2.2.1 (by omega) (by omega) (Inv_vC i) (fun s' f g => ?_)
  refine c_appetite ?_
  rw [sm_cong (g := fun k => if bt p k = true then apM s 556 k else 0) (fun k hk => ?_)]
  · refine h s' ⟨fun a ha => f a ?_ ?_ ?_ ?_, fun k hk => by rw [f 69 (by decide) (by decide) (by decide) (by decide)]⟩
    · intro e; subst e; cases ha
    · intro e; subst e; cases ha
    · intro e; subst e; cases ha
    · intro e; subst e; cases ha
  · rw [g k (by omega), ap_eq i (by omega)]
theorem m_eaten {p : Int32} {B : Nat} {Q : Int32 → ac_m → Prop} {s : ac_m} (i : Inv s) (hB : s 73 1 = nI B) (hb : B ≤ 12) (h : ∀ s', (∀ a, a ≠ 473 → a ≠ 474 → s' a = s a) → Q (sm (fun k => if bt p k = true then apM s 556 k else 0) B) s') : w_X12_eaten p Q s := by
  unfold w_X12_eaten l_X12_eaten_4
  intro P hP
  refine loopUp (P := fun k => ∀ s', (∀ a, a ≠ 473 → a ≠ 474 → s' a = s a) → P (sm (fun k => if bt p k = true then apM s 556 k else 0) k) (nI k) s') B ?_ ?_ s (fun _ _ _ => rfl)
  · intro s' f
    refine hP _ _ _ ⟨fun _ => h s' f, fun z => absurd ?_ z⟩
    rw [f 73 (by decide) (by decide), show s 73 (1 : Int32).toNatClampNeg = nI B from hB]
    exact Int32.le_refl _
  · intro k hk ih s' f
    have i' : Inv s' := Inv_kp (kp_m f) i
    have sb := shr_bit (x := p) (j := k) (by omega)
    refine hP _ _ _ ⟨fun z => absurd z ?_, fun _ => ?_⟩
    · rw [f 73 (by decide) (by decide), show s 73 (1 : Int32).toNatClampNeg = nI B from hB]
      exact nI_ge hk (by omega)
    · unfold w_X12_has
      refine ⟨fun z => m_if0B ?_, fun z => m_if1B ?_⟩
      · have := ih s' f
        rw [sm, if_neg (fun e => z (sb.2 e))] at this
        rw [nI_1]
        exact this
      · refine m_eatOf i'.2.2.2.2.1 (by omega) (Inv_vR i') (fun s4 f4 => ?_)
        have := ih s4 (fun a a1 a2 => (f4 a a1 a2).trans (f a a1 a2))
        rw [sm, if_pos (sb.1 z)] at this
        rw [nI_1, apM_kp (kp_m f) i.2.2.2.2.1 (by omega)]
        exact this
theorem eat_sum {s : ac_m} {p : Int32} {B : Nat} (i : Inv s) (hB : s 73 1 = nI B) (hb : B ≤ 12) : sm (fun k => if bt p k = true then apM s 556 k else 0) 12 = sm (fun k => if bt p k = true then apM s 556 k else 0) B := by
  refine sm_more hb (fun k h1 h2 => ?_)
  have e : apM s 556 k = 0 := by
    unfold apM
    rw [if_pos (by rw [Inv_nb i hB h1 (by omega)]; decide)]
  rw [e]
  by_cases c : bt p k = true
  · rw [if_pos c]
  · rw [if_neg c]
theorem s_fair (p q : Int32) (s : ac_m) (i : Inv s) : simX thB (w_X11_fair p q) (w_X12_fair p q) s := by
  obtain ⟨E, hE, e1, e2⟩ := Inv_E i
  have pm : nI E - 1 < nI E := by
    have := nI_pos' (n := E) (by omega)
    have : nI E ≤ 10 := nI_le (b := 10) hE (by omega)
    grind
  have dn : ∀ x : Int32, x ≤ nI E - 1 ↔ x < nI E := by
    intro x
    have := nI_pos' (n := E) (by omega)
    grind
  unfold simX w_X11_fair
  refine c_number (fun h1 h2 => ?_) (fun h => ?_)
  · rw [e2] at h2
    obtain ⟨k, hk, ek⟩ := of_in (by omega) h1 h2
    subst ek
    have v10 : vp_in (nI k) 10 := vp_in_nI (by omega) (by omega)
    have c0 := cl_nI (n := k) (by omega)
    refine c_within (fun h3 h4 => ?_) (fun h => ?_)
    · have g := i.1.2.2.2.2 k (by omega) (by rw [e1]; exact h2)
      unfold w_X3_fairPart
      rw [e2, c0]
      have fin : ∀ v, (∃ m, m < 3 ∧ q = nI m ∧ v = s (127 + k) m) → w_X12_fair (nI k) q (fun b s2 => v = b ∧ s2 69 0 = 0 ∧ Inv s2) s := by
        rintro v ⟨m, hm, eq, ev⟩
        subst eq
        unfold w_X12_fair
        refine m_inA (fun _ _ => ?_) (fun z => absurd ⟨h1, ?_⟩ z)
        · refine m_bad0 u_eq (m_if0A ?_)
          refine m_inA (fun _ _ => ?_) (fun z => absurd ⟨h3, h4⟩ z)
          refine m_bad0 u_eq (m_if0B ⟨v10, vp_in_nI hm (by omega), ?_, u_eq, Inv_0 i⟩)
          rw [c0, cl_nI (by omega), u_ne (by omega)]
          exact ev
        · rw [u_ne (by decide), show s 73 (2 : Int32).toNatClampNeg = nI E from e1]
          exact (dn _).2 h2
      have q3 : q = 0 ∨ q = 1 ∨ q = 2 := by grind
      refine ⟨fun z => absurd z (nI_pos (by omega)), fun _ => ⟨fun z => absurd z (nI_ge hk (by omega)), fun _ => ⟨fun _ => ⟨fun q0 => ⟨fun q1 => ⟨v10, ?_⟩, fun q1 => ⟨v10, ?_⟩⟩, fun q0 => ⟨v10, ?_⟩⟩, fun z => absurd (nI_lt (b := 10) (by omega) (by omega)) z⟩⟩⟩
      · have q2 : q = 2 := by grind
        exact fin _ ⟨2, by omega, q2, g.2.2.1⟩
      · exact fin _ ⟨1, by omega, q1, g.2.1⟩
      · exact fin _ ⟨0, by omega, q0, g.1⟩
    · unfold w_X12_fair
      refine m_inA (fun _ _ => ?_) (fun z => absurd ⟨h1, ?_⟩ z)
      · refine m_bad0 u_eq (m_if0A ?_)
        refine m_inA (fun a b => absurd ⟨a, b⟩ h) (fun _ => ?_)
        exact m_bad1 u_eq (by decide) in2_1 (m_if1B ⟨.inr ⟨rfl, bad_69⟩, Inv_bad1 i⟩)
      · rw [u_ne (by decide), u_ne (by decide), show s 73 (2 : Int32).toNatClampNeg = nI E from e1]
        exact (dn _).2 h2
  · rw [e2] at h
    unfold w_X12_fair
    refine m_inA (fun a b => ?_) (fun _ => ?_)
    · rw [u_ne (by decide), u_ne (by decide), show s 73 (2 : Int32).toNatClampNeg = nI E from e1] at b
      exact absurd ⟨a, (dn _).1 b⟩ h
    · exact m_bad1 u_eq (by decide) in2_0 (m_if1A ⟨.inl ⟨rfl, bad_69⟩, Inv_bad0 i⟩)
