/-! WHAT THE INVARIANT GIVES -/
theorem Inv_B {s : ac_m} (i : Inv s) : ∃ B : Nat, B ≤ 12 ∧ s 73 1 = nI B ∧ s 3 11 = nI B := by
  have h := i.1.1
  obtain ⟨B, hb, e⟩ := nI_of2 (M := 12) (n := 12) rfl (show ¬ s 73 1 < 0 by grind) h.2.2.2.1
  exact ⟨B, hb, e, i.1.2.1.2.1.trans e⟩
theorem Inv_F {s : ac_m} (i : Inv s) : ∃ F : Nat, F ≤ 6 ∧ s 73 0 = nI F ∧ s 3 10 = nI F := by
  have h := i.1.1
  obtain ⟨B, hb, e⟩ := nI_of2 (M := 6) (n := 6) rfl (show ¬ s 73 0 < 0 by grind) h.2.1
  exact ⟨B, hb, e, i.1.2.1.1.trans e⟩
theorem Inv_E {s : ac_m} (i : Inv s) : ∃ F : Nat, F ≤ 10 ∧ s 73 2 = nI F ∧ s 3 12 = nI F := by
  have h := i.1.1
  obtain ⟨B, hb, e⟩ := nI_of2 (M := 10) (n := 10) rfl (show ¬ s 73 2 < 0 by grind) h.2.2.2.2.2
  exact ⟨B, hb, e, i.1.2.1.2.2.trans e⟩
theorem Inv_b {s : ac_m} {B : Nat} (i : Inv s) (hB : s 73 1 = nI B) (hb : B ≤ 12) {b : Nat} (h : b < B) : s 6 b = s (102 + b) 0 ∧ s 7 b = s (102 + b) 1 ∧ s 8 b = s (102 + b) 2 ∧ s 9 b = s (102 + b) 3 ∧ 0 ≤ s 6 b ∧ s 6 b < s 73 0 ∧ 0 ≤ s 7 b ∧ s 7 b < s 73 0 ∧ s 6 b ≠ s 7 b ∧ 0 ≤ s 8 b ∧ s 8 b ≤ 5 ∧ 1 ≤ s 9 b ∧ s 9 b ≤ 30 := (i.1.2.2.2.1 b (by omega)).1 (by rw [hB]; exact nI_lt h (by omega))
theorem Inv_nb {s : ac_m} {B : Nat} (i : Inv s) (hB : s 73 1 = nI B) {b : Nat} (h : B ≤ b) (hb : b < 13) : s 556 b = 0 := i.2.2.2.1 b hb (by rw [hB]; exact nI_le h (by omega))
theorem Inv_m {s : ac_m} (i : Inv s) {b : Nat} (hb : b < 13) : s (42 + 2) b = s 556 b ∧ s (42 + 4) b = s 556 (13 + b) ∧ s (42 + 3) b = s 556 (26 + b) := i.2.1.1 b hb
theorem Inv_v {s : ac_m} (i : Inv s) {b : Nat} (hb : b < 13) : (s 556 b = 0 ∧ s 556 (13 + b) = 0 ∧ s 556 (26 + b) = -1) ∨ (1 ≤ s 556 b ∧ s 556 b ≤ 30 ∧ 0 ≤ s 556 (26 + b) ∧ s 556 (26 + b) < s 73 0) := i.2.2.1.1 b hb
theorem of_in {p : Int32} {n : Nat} (hn : n < 2147483648) (h1 : 0 ≤ p) (h2 : p < nI n) : ∃ j, j < n ∧ p = nI j := by
  obtain ⟨j, hj, e⟩ := nI_of (x := p) (by grind)
  refine ⟨j, ?_, e⟩
  rw [e] at h2
  exact (nI_ltI hj hn).1 h2
theorem sx_66 : ∀ a, a < 6 → ∀ b, b < 6 → ((45 : Int32) + ((6 : Int32) * nI a)) + nI b = nI (45 + (6 * a + b)) ∧ (nI a * (6 : Int32)) + nI b = nI (6 * a + b) := by decide +kernel
theorem m_kindL {B : Nat} {p : Int32} {Q : Int32 → ac_m → Prop} {s : ac_m} (hB : s 73 1 = nI B) (hb : B ≤ 12) (h : Q (bs (fun k => decide (0 < s 556 k ∧ s (102 + k) 2 = p)) B) s) : l_X12_kind_34 p Q p 0 0 s := by
  unfold l_X12_kind_34
  intro P hP
  refine loopUp (P := fun k => P (bs (fun k => decide (0 < s 556 k ∧ s (102 + k) 2 = p)) k) (nI k) s) B ?_ ?_
  · exact hP _ _ _ ⟨fun _ => h, fun hc => absurd (by rw [show (s 73 (1 : Int32).toNatClampNeg) = nI B from hB]; exact Int32.le_refl _) hc⟩
  · intro k hk ih
    have e1 := cl_nI (n := k) (by omega)
    have e4 := nI_1 k
    have e3 : nI k < nI B := nI_lt hk (by omega)
    have e9 : ∀ x : Int32, x ||| 0 = x := fun x => Int32.or_zero
    have e2 : vp_in (nI k) 13 := vp_in_nI (by omega) (by omega)
    unfold w_X12_isThere at hP
    have f0 : (0 : Int32) + nI k = nI k := by rw [← nI_0, nI_add, Nat.zero_add]
    have h0 : vp_in (nI k) 83 := vp_in_nI (by omega) (by omega)
    refine hP _ _ _ ?_
    grind [bs]
theorem m_drivenL {B : Nat} {Q : Int32 → ac_m → Prop} {s : ac_m} (hB : s 73 1 = nI B) (hb : B ≤ 12) (h : Q (bs (fun k => decide (0 < s 556 k ∧ ¬ s 556 (26 + k) = s (102 + k) 0)) B) s) : l_X12_driven_9 Q 0 0 s := by
  unfold l_X12_driven_9
  intro P hP
  refine loopUp (P := fun k => P (bs (fun k => decide (0 < s 556 k ∧ ¬ s 556 (26 + k) = s (102 + k) 0)) k) (nI k) s) B ?_ ?_
  · exact hP _ _ _ ⟨fun _ => h, fun hc => absurd (by rw [show (s 73 (1 : Int32).toNatClampNeg) = nI B from hB]; exact Int32.le_refl _) hc⟩
  · intro k hk ih
    have e1 := cl_nI (n := k) (by omega)
    have e4 := nI_1 k
    have e3 : nI k < nI B := nI_lt hk (by omega)
    have e9 : ∀ x : Int32, x ||| 0 = x := fun x => Int32.or_zero
    have e2 : vp_in (nI k) 13 := vp_in_nI (by omega) (by omega)
    unfold w_X12_isThere at hP
    have f0 : (0 : Int32) + nI k = nI k := by rw [← nI_0, nI_add, Nat.zero_add]
    have h0 : vp_in (nI k) 83 := vp_in_nI (by omega) (by omega)
    have f26 : (26 : Int32) + nI k = nI (26 + k) := nI_add 26 k
    have g26 := cl_nI (n := 26 + k) (by omega)
    have h26 : vp_in (nI (26 + k)) 83 := vp_in_nI (by omega) (by omega)
    refine hP _ _ _ ?_
    grind [bs]

theorem s_kind (p : Int32) (s : ac_m) (i : Inv s) : simX thA (w_X11_kind p) (w_X12_kind p) s := by
  obtain ⟨B, hb, hB, hC⟩ := Inv_B i
  unfold simX w_X11_kind
  refine c_within (fun h1 h2 => ?_) (fun h => ?_)
  · refine c_there ?_
    unfold w_X3_ofKind
    refine c_match hC hb ?_
    unfold w_X12_kind
    refine m_inA (fun _ _ => ?_) (fun z => absurd ⟨h1, h2⟩ z)
    refine m_bad0 u_eq (m_if0B ?_)
    refine m_kindL (B := B) (by rw [u_ne (by decide)]; exact hB) hb ?_
    refine ⟨?_, u_eq, Inv_0 i⟩
    refine b_ext fun j hj => ?_
    rw [b_and, bs_bt _ 12 (by omega), bs_bt _ B (by omega), bs_bt _ B (by omega)]
    simp (disch := omega) only [u_ne]
    by_cases hjB : j < B
    · have g1 := Inv_m i (b := j) (by omega)
      have g2 := Inv_b i hB hb hjB
      grind
    · grind
  · unfold w_X12_kind
    refine m_inA (fun a b => absurd ⟨a, b⟩ h) (fun _ => ?_)
    refine m_bad1 u_eq (by decide) in2_1 (m_if1B ?_)
    exact ⟨⟨rfl, bad_69⟩, Inv_bad1 i⟩
theorem s_driven (s : ac_m) (i : Inv s) : sim0 (w_X11_driven) (w_X12_driven) s := by
  obtain ⟨B, hb, hB, hC⟩ := Inv_B i
  unfold sim0 w_X11_driven
  refine c_driven ?_
  unfold w_X12_driven
  refine m_drivenL (B := B) (by rw [u_ne (by decide)]; exact hB) hb ?_
  refine ⟨?_, u_eq, Inv_0 i⟩
  refine b_ext fun j hj => ?_
  rw [bs_bt _ 12 (by omega), bs_bt _ B (by omega)]
  simp (disch := omega) only [u_ne]
  by_cases hjB : j < B
  · have g1 := Inv_m i (b := j) (by omega)
    have g2 := Inv_b i hB hb hjB
    grind
  · by_cases hj2 : j < 12
    · have g1 := Inv_m i (b := j) (by omega)
      have g2 := Inv_nb i hB (b := j) (by omega) (by omega)
      grind
    · grind
theorem s_cool (p q : Int32) (s : ac_m) (i : Inv s) : simX thN (w_X11_cool p q) (w_X12_cool p q) s := by
  obtain ⟨F, hf, hF, hC⟩ := Inv_F i
  have hpos : (0 : Int32) ≤ nI F := nI_pos' (by omega)
  unfold simX w_X11_cool w_X11_needFolk
  refine c_number (fun h1 h2 => ?_) (fun h => ?_)
  · refine c_number (fun h3 h4 => ?_) (fun h => ?_)
    · rw [hC] at h2 h4
      obtain ⟨a, ha, ea⟩ := of_in (by omega) h1 h2
      obtain ⟨b, hb, eb⟩ := of_in (by omega) h3 h4
      obtain ⟨x1, x2⟩ := sx_66 a (by omega) b (by omega)
      have v1 : vp_in (nI (45 + (6 * a + b))) 83 := vp_in_nI (by omega) (by omega)
      have v2 : vp_in (nI (6 * a + b)) 36 := vp_in_nI (by omega) (by omega)
      have c1 := cl_nI (n := 45 + (6 * a + b)) (by omega)
      have c2 := cl_nI (n := 6 * a + b) (by omega)
      have l1 : nI a < 6 := nI_lt (b := 6) (by omega) (by omega)
      have l2 : nI b < 6 := nI_lt (b := 6) (by omega) (by omega)
      have g := i.2.1.2.2.1 (6 * a + b) (by omega)
      subst ea
      subst eb
      unfold w_X5_coolness
      refine ⟨fun z => absurd h1 (by grind), fun _ => ⟨fun z => absurd l1 (by grind), fun _ => ⟨fun z => absurd h3 (by grind), fun _ => ⟨fun _ => ?_, fun z => absurd l2 z⟩⟩⟩⟩
      rw [x2]
      refine ⟨v2, ?_⟩
      rw [c2]
      unfold w_X12_cool
      rw [x1]
      refine m_folk (by rw [u_ne (by decide), hF]; exact hpos) (fun _ _ => m_if1B ?_) (fun z => absurd ⟨h1, ?_⟩ z)
      · refine m_folk (by rw [u_ne (by decide), hF]; exact hpos) (fun _ _ => m_if1A ?_) (fun z => absurd ⟨h3, ?_⟩ z)
        · refine m_bad0 u_eq (m_if0B ⟨v1, ?_, u_eq, Inv_0 i⟩)
          rw [c1, u_ne (by decide)]
          exact g
        · rw [u_ne (by decide), hF]; exact h4
      · rw [u_ne (by decide), hF]; exact h2
    · rw [hC] at h2 h
      unfold w_X12_cool
      refine m_folk (by rw [u_ne (by decide), u_ne (by decide), hF]; exact hpos) (fun _ _ => m_if1B ?_) (fun z => absurd ⟨h1, ?_⟩ z)
      · refine m_folk (by rw [u_ne (by decide), u_ne (by decide), hF]; exact hpos) (fun a b => (h ⟨a, by rw [u_ne (by decide), u_ne (by decide), hF] at b; exact b⟩).elim) (fun z => m_if0A ?_)
        refine m_bad1 u_eq (by decide) in2_0 (m_if1B ?_)
        exact ⟨⟨rfl, bad_69⟩, Inv_bad0 i⟩
      · rw [u_ne (by decide), u_ne (by decide), hF]; exact h2
  · rw [hC] at h
    unfold w_X12_cool
    refine m_folk (by rw [u_ne (by decide), u_ne (by decide), hF]; exact hpos) (fun a b => (h ⟨a, by rw [u_ne (by decide), u_ne (by decide), hF] at b; exact b⟩).elim) (fun z => m_if0B ?_)
    refine m_bad1 u_eq (by decide) in2_0 (m_if1B ?_)
    exact ⟨⟨rfl, bad_69⟩, Inv_bad0 i⟩
