/-! TWO GATES -/
def gF2 (p q lo hi : Int32) (A : (Int32 → ac_m → Prop) → ac_m → Prop) (Q : Int32 → ac_m → Prop) (s : ac_m) : Prop := w_X12_isFolk p (fun r8 s8 => (¬ r8 = 0 → (w_X12_bad (0 : Int32) (1 : Int32) (0 : Int32) (fun r21 s21 => (¬ r21 = 0 → (Q (0 : Int32) s21)) ∧ (r21 = 0 → (w_X12_in q lo hi (fun r31 s31 => (¬ r31 = 0 → (w_X12_bad (0 : Int32) (2 : Int32) (1 : Int32) (fun r44 s44 => (r44 = 0 → A Q s44) ∧ (¬ r44 = 0 → (Q (0 : Int32) s44))) s31)) ∧ (r31 = 0 → (w_X12_bad (1 : Int32) (2 : Int32) (1 : Int32) (fun r44 s44 => (r44 = 0 → A Q s44) ∧ (¬ r44 = 0 → (Q (0 : Int32) s44))) s31))) s21))) s8)) ∧ (r8 = 0 → (w_X12_bad (1 : Int32) (1 : Int32) (0 : Int32) (fun r21 s21 => (¬ r21 = 0 → (Q (0 : Int32) s21)) ∧ (r21 = 0 → (w_X12_in q lo hi (fun r31 s31 => (¬ r31 = 0 → (w_X12_bad (0 : Int32) (2 : Int32) (1 : Int32) (fun r44 s44 => (r44 = 0 → A Q s44) ∧ (¬ r44 = 0 → (Q (0 : Int32) s44))) s31)) ∧ (r31 = 0 → (w_X12_bad (1 : Int32) (2 : Int32) (1 : Int32) (fun r44 s44 => (r44 = 0 → A Q s44) ∧ (¬ r44 = 0 → (Q (0 : Int32) s44))) s31))) s21))) s8))) (ac_u s 69 0 (0 : Int32))
def gB2 (p q lo hi : Int32) (A : (Int32 → ac_m → Prop) → ac_m → Prop) (Q : Int32 → ac_m → Prop) (s : ac_m) : Prop := w_X12_isBeast p (fun r8 s8 => (¬ r8 = 0 → (w_X12_bad (0 : Int32) (1 : Int32) (0 : Int32) (fun r21 s21 => (¬ r21 = 0 → (Q (0 : Int32) s21)) ∧ (r21 = 0 → (w_X12_in q lo hi (fun r31 s31 => (¬ r31 = 0 → (w_X12_bad (0 : Int32) (2 : Int32) (1 : Int32) (fun r44 s44 => (r44 = 0 → A Q s44) ∧ (¬ r44 = 0 → (Q (0 : Int32) s44))) s31)) ∧ (r31 = 0 → (w_X12_bad (1 : Int32) (2 : Int32) (1 : Int32) (fun r44 s44 => (r44 = 0 → A Q s44) ∧ (¬ r44 = 0 → (Q (0 : Int32) s44))) s31))) s21))) s8)) ∧ (r8 = 0 → (w_X12_bad (1 : Int32) (1 : Int32) (0 : Int32) (fun r21 s21 => (¬ r21 = 0 → (Q (0 : Int32) s21)) ∧ (r21 = 0 → (w_X12_in q lo hi (fun r31 s31 => (¬ r31 = 0 → (w_X12_bad (0 : Int32) (2 : Int32) (1 : Int32) (fun r44 s44 => (r44 = 0 → A Q s44) ∧ (¬ r44 = 0 → (Q (0 : Int32) s44))) s31)) ∧ (r31 = 0 → (w_X12_bad (1 : Int32) (2 : Int32) (1 : Int32) (fun r44 s44 => (r44 = 0 → A Q s44) ∧ (¬ r44 = 0 → (Q (0 : Int32) s44))) s31))) s21))) s8))) (ac_u s 69 0 (0 : Int32))
theorem gF2_ok {p q lo hi : Int32} {A : (Int32 → ac_m → Prop) → ac_m → Prop} {Q : Int32 → ac_m → Prop} {s : ac_m} (hn : 0 ≤ s 73 0) (h1 : 0 ≤ p) (h2 : p < s 73 0) (h3 : lo ≤ q) (h4 : q ≤ hi) (h : A Q (ac_u s 69 0 0)) : gF2 p q lo hi A Q s := by
  unfold gF2
  have e : (ac_u s 69 0 0) 73 = s 73 := u_ne (by decide)
  exact m_folk (by rw [e]; exact hn) (fun _ _ => m_if1A (m_bad0 u_eq (m_if0A (m_inA (fun _ _ => m_bad0 u_eq (m_if0B h)) (fun z => absurd ⟨h3, h4⟩ z))))) (fun z => (z ⟨h1, by rw [e]; exact h2⟩).elim)
theorem gB2_ok {p q lo hi : Int32} {A : (Int32 → ac_m → Prop) → ac_m → Prop} {Q : Int32 → ac_m → Prop} {s : ac_m} (hn : 0 ≤ s 73 1) (h1 : 0 ≤ p) (h2 : p < s 73 1) (h3 : lo ≤ q) (h4 : q ≤ hi) (h : A Q (ac_u s 69 0 0)) : gB2 p q lo hi A Q s := by
  unfold gB2
  have e : (ac_u s 69 0 0) 73 = s 73 := u_ne (by decide)
  exact m_beast (by rw [e]; exact hn) (fun _ _ => m_if1A (m_bad0 u_eq (m_if0A (m_inA (fun _ _ => m_bad0 u_eq (m_if0B h)) (fun z => absurd ⟨h3, h4⟩ z))))) (fun z => (z ⟨h1, by rw [e]; exact h2⟩).elim)
theorem gF2_no {p q lo hi : Int32} {C : ac_m → Prop} {A : (Int32 → ac_m → Prop) → ac_m → Prop} {G : (Int32 → ac_m → Prop) → ac_m → Prop} {s : ac_m} (hG : ∀ Q s, gF2 p q lo hi A Q s → G Q s) (i : Inv s) (h : 0 ≤ p → p < s 73 0 → lo ≤ q → q ≤ hi → C s) :
    w_X11_needFolk p (fun s2 => w_X11_needWithin q lo hi C (fun E s1 => G (fun _ s2 => thB E (s2 69 0) ∧ Inv s2) s1) s2) (fun E s1 => G (fun _ s2 => thB E (s2 69 0) ∧ Inv s2) s1) s := by
  have hn := i.1.1.1
  have ef := i.1.2.1.1
  unfold w_X11_needFolk
  refine c_number (fun h1 h2 => c_within (fun h3 h4 => h h1 (by rw [← ef]; exact h2) h3 h4) (fun z => ?_)) (fun z => ?_)
  · rw [ef] at h2
    have e : (ac_u (ac_u s 0 16 (s 0 16 + 1)) 69 0 0) 73 = s 73 := by rw [u_ne (by decide), u_ne (by decide)]
    refine hG _ _ ?_
    unfold gF2
    exact m_folk (by rw [e]; exact hn) (fun _ _ => m_if1A (m_bad0 u_eq (m_if0A (m_inA (fun a b => absurd ⟨a, b⟩ z) (fun _ => m_bad1 u_eq (by decide) in2_1 (m_if1B ⟨.inr ⟨rfl, bad_69⟩, Inv_bad1 i⟩)))))) (fun z => (z ⟨h1, by rw [e]; exact h2⟩).elim)
  · rw [ef] at z
    have e : (ac_u (ac_u s 0 15 (s 0 15 + 1)) 69 0 0) 73 = s 73 := by rw [u_ne (by decide), u_ne (by decide)]
    refine hG _ _ ?_
    unfold gF2
    exact m_folk (by rw [e]; exact hn) (fun a b => (z ⟨a, by rw [e] at b; exact b⟩).elim) (fun _ => m_if0A (m_bad1 u_eq (by decide) in2_0 (m_if1A ⟨.inl ⟨rfl, bad_69⟩, Inv_bad0 i⟩)))
theorem gB2_no {p q lo hi : Int32} {C : ac_m → Prop} {A : (Int32 → ac_m → Prop) → ac_m → Prop} {G : (Int32 → ac_m → Prop) → ac_m → Prop} {s : ac_m} (hG : ∀ Q s, gB2 p q lo hi A Q s → G Q s) (i : Inv s) (h : 0 ≤ p → p < s 73 1 → lo ≤ q → q ≤ hi → C s) :
    w_X11_needBeast p (fun s2 => w_X11_needWithin q lo hi C (fun E s1 => G (fun _ s2 => thB E (s2 69 0) ∧ Inv s2) s1) s2) (fun E s1 => G (fun _ s2 => thB E (s2 69 0) ∧ Inv s2) s1) s := by
  have hn := i.1.1.2.2.1
  have ef := i.1.2.1.2.1
  unfold w_X11_needBeast
  refine c_number (fun h1 h2 => c_within (fun h3 h4 => h h1 (by rw [← ef]; exact h2) h3 h4) (fun z => ?_)) (fun z => ?_)
  · rw [ef] at h2
    have e : (ac_u (ac_u s 0 16 (s 0 16 + 1)) 69 0 0) 73 = s 73 := by rw [u_ne (by decide), u_ne (by decide)]
    refine hG _ _ ?_
    unfold gB2
    exact m_beast (by rw [e]; exact hn) (fun _ _ => m_if1A (m_bad0 u_eq (m_if0A (m_inA (fun a b => absurd ⟨a, b⟩ z) (fun _ => m_bad1 u_eq (by decide) in2_1 (m_if1B ⟨.inr ⟨rfl, bad_69⟩, Inv_bad1 i⟩)))))) (fun z => (z ⟨h1, by rw [e]; exact h2⟩).elim)
  · rw [ef] at z
    have e : (ac_u (ac_u s 0 15 (s 0 15 + 1)) 69 0 0) 73 = s 73 := by rw [u_ne (by decide), u_ne (by decide)]
    refine hG _ _ ?_
    unfold gB2
    exact m_beast (by rw [e]; exact hn) (fun a b => (z ⟨a, by rw [e] at b; exact b⟩).elim) (fun _ => m_if0A (m_bad1 u_eq (by decide) in2_0 (m_if1A ⟨.inl ⟨rfl, bad_69⟩, Inv_bad0 i⟩)))
theorem bits_sum {s : ac_m} {B r c : Nat} {p : Int32} (i : Inv s) (hB : s 73 1 = nI B) (hb : B ≤ 12) (hr : ∀ k, k < B → s r k = s (102 + k) c) :
    sm (fun k => if bt (bs (fun k => decide (s r k = p)) B) k = true then s (42 + 2) k else 0) 12 = sm (fun k => if bt (bs (fun k => decide (0 < s 556 k ∧ s (102 + k) c = p)) B) k = true then s 556 k else 0) B := by
  rw [sm_more (m := B) hb (fun k h1 h2 => by rw [if_neg (by rw [bs_bt _ B (by omega), decide_eq_false (by omega)]; simp)])]
  refine sm_cong (fun k hk => ?_)
  rw [bs_bt _ B (by omega), bs_bt _ B (by omega), hr k hk, (Inv_m i (b := k) (by omega)).1]
  have w := Inv_v i (b := k) (by omega)
  grind
theorem e_weighs {p q : Int32} {Q : Int32 → ac_m → Prop} {s : ac_m} : w_X12_weighs p q Q s = gF2 p q 0 1 (fun Q s44 => w_X12_sideOf p q (fun r56 s56 => w_X12_heavy r56 (fun r59 s59 => Q r59 s59) s56) s44) Q s := rfl
theorem s_weighs (p q : Int32) (s : ac_m) (i : Inv s) : simX thB (w_X11_weighs p q) (w_X12_weighs p q) s := by
  obtain ⟨B, hb, hB, hC⟩ := Inv_B i
  have hn := i.1.1.1
  have e73 : (ac_u s 69 0 0) 73 1 = nI B := by rw [u_ne (by decide)]; exact hB
  unfold simX w_X11_weighs
  refine gF2_no (G := w_X12_weighs p q) (fun Q s z => by rw [e_weighs]; exact z) i (fun h1 h2 h3 h4 => ⟨fun q0 => ?_, fun q0 => ?_⟩)
  · have q1 : q = 1 := by grind
    subst q1
    unfold w_X3_doneFor
    refine c_match hC hb (c_weight ?_)
    show w_X12_weighs p 1 _ s
    rw [e_weighs]
    refine gF2_ok hn h1 h2 h3 h4 ?_
    refine m_side e73 hb (vp_in_nI (n := 1) (by omega) (by omega)) (m_heavy e73 hb ⟨?_, u_eq, Inv_0 i⟩)
    simp (disch := omega) only [u_ne]
    exact bits_sum i hB hb (fun k hk => (Inv_b i hB hb hk).2.1)
  · subst q0
    unfold w_X3_doneBy
    refine c_match hC hb (c_weight ?_)
    show w_X12_weighs p 0 _ s
    rw [e_weighs]
    refine gF2_ok hn h1 h2 h3 h4 ?_
    refine m_side e73 hb (vp_in_nI (n := 0) (by omega) (by omega)) (m_heavy e73 hb ⟨?_, u_eq, Inv_0 i⟩)
    simp (disch := omega) only [u_ne]
    exact bits_sum i hB hb (fun k hk => (Inv_b i hB hb hk).1)
