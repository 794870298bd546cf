/-! FOLK -/
theorem graze_eq {s : ac_m} (i : Inv s) (p : Int32) : bs (fun k => decide (0 < s (42 + 2) k ∧ s (42 + 3) k = p)) 12 = bs (fun k => decide (0 < s 556 k ∧ s 556 (26 + k) = p)) 13 := by
  obtain ⟨B, hb, hB, hC⟩ := Inv_B i
  rw [bs_more (m := 12) (n := 13) (by omega) (fun k h1 h2 => ?_)]
  · refine bs_cong (fun k hk => ?_)
    have m := Inv_m i (b := k) (by omega)
    rw [m.1, m.2.2]
  · have z := Inv_nb i hB (b := k) (by omega) (by omega)
    rw [z]
    simp
theorem side_eq {s : ac_m} {B r c : Nat} {p : Int32} (i : Inv s) (hb : B ≤ 12) (hr : ∀ k, k < B → s r k = s (102 + k) c) :
    (bs (fun k => decide (0 < s (42 + 2) k)) 12 &&& bs (fun k => decide (s r k = p)) B) = bs (fun k => decide (0 < s 556 k ∧ s (102 + k) c = p)) B := by
  refine b_ext fun j hj => ?_
  rw [b_and, bs_bt _ 12 (by omega), bs_bt _ B (by omega), bs_bt _ B (by omega)]
  by_cases hjB : j < B
  · have g1 := Inv_m i (b := j) (by omega)
    have g2 := hr j hjB
    grind
  · grind
theorem s_folk (p q : Int32) (s : ac_m) (i : Inv s) : simX thB (w_X11_folk p q) (w_X12_folk p q) s := by
  obtain ⟨B, hb, hB, hC⟩ := Inv_B i
  obtain ⟨F, hf, hF, hD⟩ := Inv_F i
  have hn := i.1.1.1
  have e73 : (ac_u s 69 0 0) 73 1 = nI B := by rw [u_ne (by decide)]; exact hB
  unfold simX w_X11_folk
  refine gF2_no (G := w_X12_folk p q) (fun Q s z => by rw [e_folk]; exact z) i (fun h1 h2 h3 h4 => ?_)
  have h2' := h2
  rw [hF] at h2'
  obtain ⟨k, hk, ek⟩ := of_in (by omega) h1 h2'
  subst ek
  have c0 := cl_nI (n := k) (by omega)
  have v6 : vp_in (nI k) 6 := vp_in_nI (by omega) (by omega)
  have f39 : (39 : Int32) + nI k = nI (39 + k) := nI_add 39 k
  have c39 := cl_nI (n := 39 + k) (by omega)
  refine ⟨fun e => ?_, fun e => ?_, fun e => ?_, fun e => ?_, fun e => ?_, fun e => ?_⟩
  · subst e
    unfold w_X5_grassOf
    rw [c0]
    refine ⟨fun z => absurd z (nI_pos (by omega)), fun _ => ⟨fun z => absurd z (nI_ge (b := 6) (by omega) (by omega)), fun _ => ⟨v6, ?_⟩⟩⟩
    show w_X12_folk (nI k) 0 _ s
    rw [e_folk]
    refine gF2_ok hn h1 h2 h3 h4 ⟨fun _ => ?_, fun z => absurd z (by decide), fun z => absurd z (by decide), fun z => absurd z (by decide), fun z => absurd z (by decide), fun z => absurd rfl z.1⟩
    rw [f39, c39]
    refine ⟨vp_in_nI (by omega) (by omega), ?_, u_eq, Inv_0 i⟩
    rw [u_ne (by omega)]
    exact i.2.1.2.1 k (by omega)
  · subst e
    unfold w_X3_growthOf
    refine c_hasFolk hD hf hk (m_if1B ⟨v6, ?_⟩)
    rw [c0]
    show w_X12_folk (nI k) 1 _ s
    rw [e_folk]
    refine gF2_ok hn h1 h2 h3 h4 ⟨fun z => absurd z (by decide), fun _ => ⟨v6, ?_, u_eq, Inv_0 i⟩, fun z => absurd z (by decide), fun z => absurd z (by decide), fun z => absurd z (by decide), fun z => absurd rfl z.2.1⟩
    rw [c0, u_ne (by omega)]
    exact ((i.1.2.2.1 k (by omega)).1 h2).2.1
  · subst e
    refine c_grazing ?_
    show w_X12_folk (nI k) 2 _ s
    rw [e_folk]
    refine gF2_ok hn h1 h2 h3 h4 ⟨fun z => absurd z (by decide), fun z => absurd z (by decide), fun _ => m_onOne ⟨?_, u_eq, Inv_0 i⟩, fun z => absurd z (by decide), fun z => absurd z (by decide), fun z => absurd rfl z.2.2.1⟩
    rw [u_ne (by omega)]
    exact graze_eq i _
  · subst e
    refine c_there ?_
    unfold w_X3_doneBy
    refine c_match hC hb ?_
    show w_X12_folk (nI k) 3 _ s
    rw [e_folk]
    refine gF2_ok hn h1 h2 h3 h4 ⟨fun z => absurd z (by decide), fun z => absurd z (by decide), fun z => absurd z (by decide), fun _ => m_side e73 hb (vp_in_nI (n := 0) (by omega) (by omega)) ⟨?_, u_eq, Inv_0 i⟩, fun z => absurd z (by decide), fun z => absurd rfl z.2.2.2.1⟩
    simp (disch := omega) only [u_ne]
    exact side_eq i hb (fun k hk => (Inv_b i hB hb hk).1)
  · subst e
    refine c_there ?_
    unfold w_X3_doneFor
    refine c_match hC hb ?_
    show w_X12_folk (nI k) 4 _ s
    rw [e_folk]
    refine gF2_ok hn h1 h2 h3 h4 ⟨fun z => absurd z (by decide), fun z => absurd z (by decide), fun z => absurd z (by decide), fun z => absurd z (by decide), fun _ => m_side e73 hb (vp_in_nI (n := 1) (by omega) (by omega)) ⟨?_, u_eq, Inv_0 i⟩, fun z => absurd rfl z.2.2.2.2⟩
    simp (disch := omega) only [u_ne]
    exact side_eq i hb (fun k hk => (Inv_b i hB hb hk).2.1)
  · have q5 : q = 5 := by grind
    subst q5
    refine c_grazing (c_eatenBy i (fun s' f => ?_))
    have i' := Inv_kp f i
    have i0 := Inv_0 i'
    have k0 := f.trans kp_0
    have hB' : (ac_u s' 69 0 0) 73 1 = nI B := by rw [k0.1 73 rfl]; exact hB
    show w_X12_folk (nI k) 5 _ s'
    rw [e_folk]
    refine gF2_ok (by rw [f.1 73 rfl]; exact hn) h1 (by rw [f.1 73 rfl]; exact h2) h3 h4 ⟨fun z => absurd z (by decide), fun z => absurd z (by decide), fun z => absurd z (by decide), fun z => absurd z (by decide), fun z => absurd z (by decide), fun _ => ?_⟩
    refine m_onOne (m_eaten i0 hB' hb (fun s2 f2 => ⟨?_, ?_, Inv_kp (kp_m f2) i0⟩))
    · rw [k0.1 556 rfl, graze_eq i, eat_sum i hB hb]
      refine sm_cong (fun j hj => ?_)
      rw [apM_kp k0 i.2.2.2.2.1 (by omega)]
    · rw [f2 69 (by decide) (by decide), u_eq]
