/-! BEAST, FOLK -/
theorem e_beast {p1 p2 : Int32} {Q : Int32 → ac_m → Prop} {s : ac_m} : w_X12_beast p1 p2 Q s = gB2 p1 p2 0 6 (fun Q s45 => (p2 = (0 : Int32) → (vp_in p1 13 ∧ (vp_in p2 4 ∧ (Q (s45 (102 + p1.toNatClampNeg) p2.toNatClampNeg) s45)))) ∧ (p2 = (1 : Int32) → (vp_in p1 13 ∧ (vp_in p2 4 ∧ (Q (s45 (102 + p1.toNatClampNeg) p2.toNatClampNeg) s45)))) ∧ (p2 = (2 : Int32) → (vp_in p1 13 ∧ (vp_in p2 4 ∧ (Q (s45 (102 + p1.toNatClampNeg) p2.toNatClampNeg) s45)))) ∧ (p2 = (3 : Int32) → (vp_in ((0 : Int32) + p1) 83 ∧ (Q (s45 556 ((0 : Int32) + p1).toNatClampNeg) s45))) ∧ (p2 = (4 : Int32) → (vp_in ((26 : Int32) + p1) 83 ∧ (Q (s45 556 ((26 : Int32) + p1).toNatClampNeg) s45))) ∧ (p2 = (5 : Int32) → (vp_in ((13 : Int32) + p1) 83 ∧ (Q (s45 556 ((13 : Int32) + p1).toNatClampNeg) s45))) ∧ (¬ p2 = (0 : Int32) ∧ ¬ p2 = (1 : Int32) ∧ ¬ p2 = (2 : Int32) ∧ ¬ p2 = (3 : Int32) ∧ ¬ p2 = (4 : Int32) ∧ ¬ p2 = (5 : Int32) → (w_X12_eatOf 556 p1 (fun r136 s136 => Q r136 s136) s45))) Q s := rfl
theorem e_folk {p1 p2 : Int32} {Q : Int32 → ac_m → Prop} {s : ac_m} : w_X12_folk p1 p2 Q s = gF2 p1 p2 0 5 (fun Q s44 => (p2 = (0 : Int32) → (vp_in ((39 : Int32) + p1) 83 ∧ (Q (s44 556 ((39 : Int32) + p1).toNatClampNeg) s44))) ∧ (p2 = (1 : Int32) → (vp_in p1 6 ∧ (Q (s44 (82 + p1.toNatClampNeg) (1 : Int32).toNatClampNeg) s44))) ∧ (p2 = (2 : Int32) → (w_X12_onOne 556 p1 (fun r112 s112 => Q r112 s112) s44)) ∧ (p2 = (3 : Int32) → (w_X12_sideOf p1 (0 : Int32) (fun r119 s119 => Q r119 s119) s44)) ∧ (p2 = (4 : Int32) → (w_X12_sideOf p1 (1 : Int32) (fun r126 s126 => Q r126 s126) s44)) ∧ (¬ p2 = (0 : Int32) ∧ ¬ p2 = (1 : Int32) ∧ ¬ p2 = (2 : Int32) ∧ ¬ p2 = (3 : Int32) ∧ ¬ p2 = (4 : Int32) → (w_X12_onOne 556 p1 (fun r136 s136 => w_X12_eaten r136 (fun r139 s139 => Q r139 s139) s136) s44))) Q s := rfl
theorem sm_one {g : Nat → Int32} {k : Nat} : ∀ {n : Nat}, k < n → (∀ j, j ≠ k → g j = 0) → sm g n = g k
  | 0, h, _ => absurd h (Nat.not_lt_zero k)
  | n + 1, h, hz => by
    by_cases e : k = n
    · subst e
      have z : sm g k = 0 := by
        rw [sm_more (m := 0) (Nat.zero_le k) (fun j _ hj => hz j (by omega))]
        rfl
      rw [sm, z]
      grind
    · rw [sm, sm_one (n := n) (by omega) hz, hz n (fun z => e z.symm), Int32.add_zero]
theorem sm_bit {f : Nat → Int32} {k : Nat} (hk : k < 12) : sm (fun j => if bt ((1 : Int32) <<< (nI k &&& 31)) j = true then f j else 0) 12 = f k := by
  have hb : ∀ j, j < 32 → bt ((1 : Int32) <<< (nI k &&& 31)) j = decide (j = k) := fun j hj => bt_bit (by omega) hj
  rw [sm_cong (g := fun j => if j = k then f j else 0) (fun j hj => by rw [hb j (by omega)]; simp only [decide_eq_true_eq])]
  rw [sm_one (k := k) hk (fun j hj => if_neg hj), if_pos rfl]
theorem c_hasBeast {k B : Nat} {Q : Int32 → ac_m → Prop} {s : ac_m} (hC : s 3 11 = nI B) (hb : B ≤ 12) (hk : k < B) (h : Q 1 s) : w_X3_hasBeast (nI k) Q s := by
  unfold w_X3_hasBeast
  rw [hC]
  exact ⟨fun z => absurd z (nI_pos (by omega)), fun _ => ⟨fun z => absurd z (nI_ge hk (by omega)), fun _ => ⟨fun z => absurd z (nI_ge (b := 12) (by omega) (by omega)), fun _ => h⟩⟩⟩
theorem c_hasFolk {k F : Nat} {Q : Int32 → ac_m → Prop} {s : ac_m} (hC : s 3 10 = nI F) (hf : F ≤ 6) (hk : k < F) (h : Q 1 s) : w_X3_hasFolk (nI k) Q s := by
  unfold w_X3_hasFolk
  rw [hC]
  exact ⟨fun z => absurd z (nI_pos (by omega)), fun _ => ⟨fun z => absurd z (nI_ge hk (by omega)), fun _ => ⟨fun z => absurd z (nI_ge (b := 6) (by omega) (by omega)), fun _ => h⟩⟩⟩
theorem c_isThere {a k : Nat} {Q : Int32 → ac_m → Prop} {s : ac_m} (hk : k < 13) (h0 : s (a + 2) k ≤ 0 → Q 0 s) (h1 : ¬ s (a + 2) k ≤ 0 → Q 1 s) : w_X5_isThere a (nI k) Q s := by
  unfold w_X5_isThere
  rw [cl_nI (by omega)]
  exact ⟨fun z => absurd z (nI_pos (by omega)), fun _ => ⟨fun z => absurd z (nI_ge (b := 13) (by omega) (by omega)), fun _ => ⟨vp_in_nI hk (by omega), h0, h1⟩⟩⟩
theorem s_beast (p q : Int32) (s : ac_m) (i : Inv s) : simX thB (w_X11_beast p q) (w_X12_beast p q) s := by
  obtain ⟨B, hb, hB, hC⟩ := Inv_B i
  have hn := i.1.1.2.2.1
  unfold simX w_X11_beast
  refine gB2_no (G := w_X12_beast p q) (fun Q s z => by rw [e_beast]; exact z) i (fun h1 h2 h3 h4 => ?_)
  have h2' := h2
  rw [hB] at h2'
  obtain ⟨k, hk, ek⟩ := of_in (by omega) h1 h2'
  subst ek
  have c0 := cl_nI (n := k) (by omega)
  have v13 : vp_in (nI k) 13 := vp_in_nI (by omega) (by omega)
  have f0 : (0 : Int32) + nI k = nI k := by rw [← nI_0, nI_add, Nat.zero_add]
  have f26 : (26 : Int32) + nI k = nI (26 + k) := nI_add 26 k
  have f13 : (13 : Int32) + nI k = nI (13 + k) := nI_add 13 k
  have c26 := cl_nI (n := 26 + k) (by omega)
  have c13 := cl_nI (n := 13 + k) (by omega)
  have g := Inv_b i hB hb hk
  have m := Inv_m i (b := k) (by omega)
  have w := Inv_v i (b := k) (by omega)
  refine ⟨fun e => ?_, fun e => ?_, fun e => ?_, fun e => ?_, fun e => ?_, fun e => ?_, fun e => ?_⟩
  · subst e
    unfold w_X3_doerOf
    refine c_hasBeast hC hb hk (m_if1B ⟨v13, ?_⟩)
    rw [c0]
    show w_X12_beast (nI k) 0 _ s
    rw [e_beast]
    refine gB2_ok hn h1 h2 h3 h4 ⟨fun _ => ⟨v13, vp_in_nI (n := 0) (by omega) (by omega), ?_, u_eq, Inv_0 i⟩, fun z => absurd z (by decide), fun z => absurd z (by decide), fun z => absurd z (by decide), fun z => absurd z (by decide), fun z => absurd z (by decide), fun z => absurd rfl z.1⟩
    rw [c0, u_ne (by omega)]
    exact g.1
  · subst e
    unfold w_X3_receiverOf
    refine c_hasBeast hC hb hk (m_if1B ⟨v13, ?_⟩)
    rw [c0]
    show w_X12_beast (nI k) 1 _ s
    rw [e_beast]
    refine gB2_ok hn h1 h2 h3 h4 ⟨fun z => absurd z (by decide), fun _ => ⟨v13, vp_in_nI (n := 1) (by omega) (by omega), ?_, u_eq, Inv_0 i⟩, fun z => absurd z (by decide), fun z => absurd z (by decide), fun z => absurd z (by decide), fun z => absurd z (by decide), fun z => absurd rfl z.2.1⟩
    rw [c0, u_ne (by omega)]
    exact g.2.1
  · subst e
    unfold w_X3_kindOf
    refine c_hasBeast hC hb hk (m_if1B ⟨v13, ?_⟩)
    rw [c0]
    show w_X12_beast (nI k) 2 _ s
    rw [e_beast]
    refine gB2_ok hn h1 h2 h3 h4 ⟨fun z => absurd z (by decide), fun z => absurd z (by decide), fun _ => ⟨v13, vp_in_nI (n := 2) (by omega) (by omega), ?_, u_eq, Inv_0 i⟩, fun z => absurd z (by decide), fun z => absurd z (by decide), fun z => absurd z (by decide), fun z => absurd rfl z.2.2.1⟩
    rw [c0, u_ne (by omega)]
    exact g.2.2.1
  · subst e
    refine c_weight ?_
    rw [sm_bit (by omega)]
    show w_X12_beast (nI k) 3 _ s
    rw [e_beast]
    refine gB2_ok hn h1 h2 h3 h4 ⟨fun z => absurd z (by decide), fun z => absurd z (by decide), fun z => absurd z (by decide), fun _ => ?_, fun z => absurd z (by decide), fun z => absurd z (by decide), fun z => absurd rfl z.2.2.2.1⟩
    rw [f0, c0]
    refine ⟨vp_in_nI (by omega) (by omega), ?_, u_eq, Inv_0 i⟩
    rw [u_ne (by omega)]
    exact m.1
  · subst e
    have fin : ∀ v, v = s 556 (26 + k) → w_X12_beast (nI k) 4 (fun b s2 => v = b ∧ s2 69 0 = 0 ∧ Inv s2) s := by
      intro v hv
      rw [e_beast]
      refine gB2_ok hn h1 h2 h3 h4 ⟨fun z => absurd z (by decide), fun z => absurd z (by decide), fun z => absurd z (by decide), fun z => absurd z (by decide), fun _ => ?_, fun z => absurd z (by decide), fun z => absurd rfl z.2.2.2.2.1⟩
      rw [f26, c26]
      refine ⟨vp_in_nI (by omega) (by omega), ?_, u_eq, Inv_0 i⟩
      rw [u_ne (by omega)]
      exact hv
    unfold w_X5_pastureOf
    refine c_isThere (by omega) (fun z => m_if0B (fin _ ?_)) (fun z => m_if1B ⟨v13, fin _ ?_⟩)
    · rw [m.1] at z; grind
    · rw [c0]; exact m.2.2
  · subst e
    have fin : ∀ v, v = s 556 (13 + k) → w_X12_beast (nI k) 5 (fun b s2 => v = b ∧ s2 69 0 = 0 ∧ Inv s2) s := by
      intro v hv
      rw [e_beast]
      refine gB2_ok hn h1 h2 h3 h4 ⟨fun z => absurd z (by decide), fun z => absurd z (by decide), fun z => absurd z (by decide), fun z => absurd z (by decide), fun z => absurd z (by decide), fun _ => ?_, fun z => absurd rfl z.2.2.2.2.2⟩
      rw [f13, c13]
      refine ⟨vp_in_nI (by omega) (by omega), ?_, u_eq, Inv_0 i⟩
      rw [u_ne (by omega)]
      exact hv
    unfold w_X5_ageOf
    refine c_isThere (by omega) (fun z => m_if0B (fin _ ?_)) (fun z => m_if1B ⟨v13, fin _ ?_⟩)
    · rw [m.1] at z; grind
    · rw [c0]; exact m.2.1
  · have q6 : q = 6 := by grind
    subst q6
    refine c_eatenBy i (fun s' f => ?_)
    rw [sm_bit (by omega)]
    have i' := Inv_kp f i
    show w_X12_beast (nI k) 6 _ s'
    rw [e_beast]
    refine gB2_ok (by rw [f.1 73 rfl]; exact hn) h1 (by rw [f.1 73 rfl]; exact h2) h3 h4 ⟨fun z => absurd z (by decide), fun z => absurd z (by decide), fun z => absurd z (by decide), fun z => absurd z (by decide), fun z => absurd z (by decide), fun z => absurd z (by decide), fun _ => ?_⟩
    have i0 := Inv_0 i'
    refine m_eatOf i0.2.2.2.2.1 (by omega) (Inv_vR i0) (fun s2 f2 => ⟨?_, ?_, Inv_kp (kp_m f2) i0⟩)
    · rw [apM_kp (f.trans kp_0) i.2.2.2.2.1 (by omega)]
    · rw [f2 69 (by decide) (by decide), u_eq]
