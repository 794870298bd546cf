/-! APPETITES, THE REFERENCE'S SIDE -/
theorem ones_bs (q : Nat → Bool) : sm (fun k => if bt (bs q 13) k = true then 1 else 0) 13 = sm (fun k => if q k = true then 1 else 0) 13 := sm_cong (fun k hk => by rw [bs_bt q 13 (by omega), decide_eq_true hk, Bool.true_and])
def cnM (s : ac_m) (r : Nat) (f : Int32) : Nat → Int32 := sm (fun k => if decide (0 < s r k ∧ s r (26 + k) = f) = true then 1 else 0)
def apM (s : ac_m) (r b : Nat) : Int32 := if s r b ≤ 0 then 0 else lval s (f8 (s r b) (s (102 + b) 2) (s r (13 + b)) (s r (39 + (s r (26 + b)).toNatClampNeg)) (cnM s r (s r (26 + b)) 13 - 1) (if b = 12 then 0 else s r (45 + (6 * (s (102 + b) 0).toNatClampNeg + (s (102 + b) 1).toNatClampNeg))) (s r 82) (nI b))
def vR (s : ac_m) (r : Nat) : Prop := ∀ b, b < 13 → ¬ s r b ≤ 0 → (∃ f, f < 6 ∧ s r (26 + b) = nI f) ∧ (b < 12 → ∃ d e, d < 6 ∧ e < 6 ∧ s (102 + b) 0 = nI d ∧ s (102 + b) 1 = nI e)
theorem m_eatOf {r b : Nat} {Q : Int32 → ac_m → Prop} {s : ac_m} (i : iL s) (hb : b < 13) (v : vR s r) (h : ∀ s', (∀ a, a ≠ 473 → a ≠ 474 → s' a = s a) → Q (apM s r b) s') : w_X12_eatOf r (nI b) Q s := by
  have f0 : (0 : Int32) + nI b = nI b := by rw [← nI_0, nI_add, Nat.zero_add]
  have f26 : (26 : Int32) + nI b = nI (26 + b) := nI_add 26 b
  have f13 : (13 : Int32) + nI b = nI (13 + b) := nI_add 13 b
  have c0 := cl_nI (n := b) (by omega)
  have c26 := cl_nI (n := 26 + b) (by omega)
  have c13 := cl_nI (n := 13 + b) (by omega)
  have v13 : vp_in (nI b) 13 := vp_in_nI (by omega) (by omega)
  have v83 : vp_in (nI b) 83 := vp_in_nI (by omega) (by omega)
  unfold apM at h
  unfold w_X12_eatOf w_X12_isThere
  rw [f0, f26, f13, c0, c26, c13]
  refine ⟨v83, fun z => m_if0A ?_, fun z => m_if1A ?_⟩
  · have := h s (fun _ _ _ => rfl)
    rw [if_pos z] at this
    exact this
  · obtain ⟨⟨f, hf, ef⟩, hde⟩ := v b hb z
    have f39 : (39 : Int32) + nI f = nI (39 + f) := nI_add 39 f
    have c39 := cl_nI (n := 39 + f) (by omega)
    rw [if_neg z, ef, cl_nI (by omega)] at h
    rw [ef, f39, c39]
    refine ⟨vp_in_nI (by omega) (by omega), v83, v13, vp_in_nI (by omega) (by omega), vp_in_nI (by omega) (by omega), m_onOne (m_ones ?_)⟩
    rw [ones_bs]
    unfold w_X12_coolOf
    rw [c0]
    refine ⟨fun k12 => ?_, fun k12 => ?_⟩
    · have k12' : ¬ b = 12 := fun e => k12 (by rw [e]; rfl)
      obtain ⟨d, e, hd, he, ed, ee⟩ := hde (by omega)
      rw [if_neg k12', ed, ee, cl_nI (by omega), cl_nI (by omega)] at h
      have ed' : s (102 + b) (0 : Int32).toNatClampNeg = nI d := ed
      have ee' : s (102 + b) (1 : Int32).toNatClampNeg = nI e := ee
      rw [ed', ee', (sx_66 d hd e he).1, cl_nI (by omega)]
      exact ⟨v13, v13, vp_in_nI (by omega) (by omega), m_eatBy i h⟩
    · have k12' : b = 12 := (nI_eq (by omega) (by omega)).1 (show nI b = nI 12 from k12)
      rw [if_pos k12'] at h
      exact m_eatBy i h
/-! BOTH APPETITES ARE ONE -/
theorem Inv_there {s : ac_m} {B : Nat} (i : Inv s) (hB : s 73 1 = nI B) (hb : B ≤ 12) {k : Nat} (hk : k < 13) (hs : ¬ s 556 k ≤ 0) : k < B := by
  rcases Nat.lt_or_ge k B with h | h
  · exact h
  · exact absurd (by rw [Inv_nb i hB h hk]; decide) hs
theorem Inv_vR {s : ac_m} (i : Inv s) : vR s 556 := by
  obtain ⟨B, hb, hB, hC⟩ := Inv_B i
  obtain ⟨F, hf, hF, hD⟩ := Inv_F i
  intro k hk hs
  have hkB := Inv_there i hB hb hk hs
  have g := Inv_b i hB hb hkB
  rw [hF] at g
  have w := (Inv_v i hk).resolve_left (fun z => hs (by rw [z.1]; decide))
  rw [hF] at w
  obtain ⟨f, h1, e1⟩ := of_in (by omega) w.2.2.1 w.2.2.2
  obtain ⟨d, h2, e2⟩ := of_in (by omega) g.2.2.2.2.1 g.2.2.2.2.2.1
  obtain ⟨e, h3, e3⟩ := of_in (by omega) g.2.2.2.2.2.2.1 g.2.2.2.2.2.2.2.1
  refine ⟨⟨f, by omega, e1⟩, fun _ => ⟨d, e, by omega, by omega, ?_, ?_⟩⟩
  · rw [← g.1]; exact e2
  · rw [← g.2.1]; exact e3
theorem Inv_vC {s : ac_m} (i : Inv s) : vC s 42 := by
  obtain ⟨B, hb, hB, hC⟩ := Inv_B i
  intro k hk hs
  have m := Inv_m i hk
  rw [m.1] at hs
  obtain ⟨⟨f, h1, e1⟩, h2⟩ := Inv_vR i k hk hs
  have g := Inv_b i hB hb (Inv_there i hB hb hk hs)
  refine ⟨⟨f, h1, m.2.2.trans e1⟩, fun h => ?_⟩
  obtain ⟨d, e, hd, he, ed, ee⟩ := h2 h
  exact ⟨d, e, hd, he, g.1.trans ed, g.2.1.trans ee⟩
theorem cn_eq {s : ac_m} (i : Inv s) {f : Int32} (hf : 0 ≤ f) : cnC s 42 f 13 = cnM s 556 f 13 := by
  unfold cnC cnM
  refine sm_cong (fun k hk => ?_)
  have m := Inv_m i hk
  have w := Inv_v i hk
  rw [m.2.2]
  grind
theorem ap_eq {s : ac_m} (i : Inv s) {k : Nat} (hk : k < 13) : apC s 42 k = apM s 556 k := by
  obtain ⟨B, hb, hB, hC⟩ := Inv_B i
  have m := Inv_m i hk
  unfold apC apM
  rw [m.1]
  by_cases hs : s 556 k ≤ 0
  · rw [if_pos hs, if_pos hs]
  · have hkB := Inv_there i hB hb hk hs
    have g := Inv_b i hB hb hkB
    obtain ⟨⟨f, h1, e1⟩, h2⟩ := Inv_vR i k hk hs
    obtain ⟨d, e, hd, he, ed, ee⟩ := h2 (by omega)
    have k12 : ¬ k = 12 := by omega
    rw [if_neg hs, if_neg hs, if_neg k12, if_neg k12, if_neg k12, m.2.1, m.2.2, e1, cn_eq i (nI_pos' (by omega)), g.1, g.2.1, g.2.2.1, ed, ee, cl_nI (by omega), cl_nI (by omega), cl_nI (by omega)]
    have c := i.2.1.2.2.1 (6 * d + e) (by omega)
    have gr := i.2.1.2.1 f h1
    have dy := i.2.1.2.2.2.2
    rw [c, gr, dy]
theorem apM_kp {s s' : ac_m} (k : kp s s') (i : iL s) {b : Nat} (hb : b < 12) : apM s' 556 b = apM s 556 b := by
  have d2 : ∀ f, f < 12 → isScr (102 + f) = false := by decide +kernel
  unfold apM cnM
  rw [k.1 556 rfl, k.1 _ (d2 b hb), lval_kp k i]
