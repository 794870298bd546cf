/-! UNSEEN, THE REFERENCE'S SIDE -/
theorem dys_hi {s : ac_m} {F j : Nat} {x : ro} (en : En s F x) (hj : 83 ≤ j) : ∀ n, dys s F x n j = x j
  | 0 => rfl
  | n + 1 => by rw [dys, dyF_hi (En_dys en n) hj, dys_hi en hj n]
/-- the lines of the reference say what the class's row says -/
theorem ok_lines {s : ac_m} {F f k w n : Nat} (i : Inv s) (hn : n ≤ 6) (en : s 69 34 = nI n) :
    okA s F f k w ↔ ∀ l, l < n → gK s F f k w (s (460 + l) 0).toNatClampNeg = s (460 + l) 1 := by
  have ib := i.2.2.2.2.2.1
  constructor
  · intro h l hl
    have q := ib.2.2.2.1 l (by omega) (by rw [en]; exact nI_lt hl (by omega))
    obtain ⟨e, he, ee⟩ := nI_of2 (M := 12) (n := 12) rfl (show ¬ s (460 + l) 0 < 0 by grind) q.2.1
    rw [ee, cl_nI (by omega)] at q ⊢
    have e1 : 1 ≤ e := by
      rcases Nat.eq_zero_or_pos e with z | z
      · subst z; exact absurd q.1 (by decide)
      · exact z
    have o := h (e - 1) (by omega)
    rw [show e - 1 + 1 = e by omega, q.2.2.2.2] at o
    rcases o with o | o
    · have := q.2.2.1; rw [o] at this; exact absurd this (by decide)
    · exact o.symm
  · intro h d hd
    rcases ib.2.2.2.2 (d + 1) (by omega) with o | ⟨l, hl, hl2, h1, h2⟩
    · exact .inl o
    · right
      rw [en] at hl2
      have q := h l ((nI_ltI (by omega) (by omega)).1 hl2)
      rw [h1, cl_nI (by omega), h2] at q
      exact q.symm
theorem m_isU {F f k w : Nat} {Q : Int32 → ac_m → Prop} {s0 s : ac_m} (i : Inv s0) (hF : F ≤ 6) (h73 : s0 73 0 = nI F) (hf : f < F) (w1 : 1 ≤ w) (w2 : w ≤ 30) (kp0 : kp s0 s) (tl : ∀ j, 83 ≤ j → s 557 j = s0 557 j)
    (h1 : okA s0 F f k w → ∀ s', kp s0 s' → (∀ j, 83 ≤ j → s' 557 j = s0 557 j) → s' 69 0 = s 69 0 → s' 582 = s 582 → (∀ d, d < 12 → s' 581 (d + 1) = gK s0 F f k w (d + 1)) → Q 1 s')
    (h0 : ¬ okA s0 F f k w → ∀ s', kp s0 s' → (∀ j, 83 ≤ j → s' 557 j = s0 557 j) → s' 69 0 = s 69 0 → s' 582 = s 582 → Q 0 s') : w_X12_isUnseen (nI f) (nI k) (nI w) Q s := by
  have E0 := Inv_En i hF h73
  have EX := En_xK (κ := nI k) E0 hf w1 w2
  have t12 : (12 : Int32).toNatClampNeg = 12 := rfl
  have t2 : (2 : Int32).toNatClampNeg = 2 := rfl
  have t38 : (38 : Int32).toNatClampNeg = 38 := rfl
  have f39 : (39 : Int32) + nI f = nI (39 + f) := nI_add 39 f
  have g39 := cl_nI (n := 39 + f) (by omega)
  have w39 : vp_in (nI (39 + f)) 83 := vp_in_nI (by omega) (by omega)
  have ib := i.2.2.2.2.2.1
  obtain ⟨n, hn, en⟩ := nI_of2 (M := 6) (n := 6) rfl (show ¬ s0 69 34 < 0 by have := ib.2.1; grind) ib.2.2.1
  have okl := ok_lines (F := F) (f := f) (k := k) (w := w) i hn en
  unfold w_X12_isUnseen
  refine m_copies (by omega) (fun s1 f1 g1 => ?_)
  rw [t12, t2, t38]
  show l_X12_isUnseen_40 (nI f) (nI k) (nI w) Q (nI f) 1 (ac_u (ac_u (ac_u s1 114 2 (nI k)) 557 12 (nI w)) 557 38 (nI f))
  have k1 : kp s s1 := ⟨fun a ha => f1 a (fun e => by subst e; cases ha), fun j _ => by rw [f1 69 (by omega)]⟩
  have c1 : s1 557 = cpx s0 := by
    rw [g1]
    funext j
    unfold cpx
    by_cases c : j < 83
    · rw [if_pos c, if_pos c, kp0.1 556 rfl]
    · rw [if_neg c, if_neg c]; exact tl j (by omega)
  have kA : kp s0 (ac_u (ac_u (ac_u s1 114 2 (nI k)) 557 12 (nI w)) 557 38 (nI f)) := (kp0.trans k1).trans ((((kp.refl s1).u rfl (by decide)).u rfl (by decide)).u rfl (by decide))
  have fin : ∀ s', kp s0 s' → s' 557 = dys (ac_u s0 114 2 (nI k)) F (xK s0 f w) 12 → s' 69 0 = s 69 0 → s' 582 = s 582 → (∀ d, d < 12 → s' 581 (d + 1) = gK s0 F f k w (d + 1)) → l_X12_isUnseen_80 (nI f) (nI k) (nI w) Q 0 s' := by
    intro s' k' e' t' q' g'
    have tl' : ∀ j, 83 ≤ j → s' 557 j = s0 557 j := fun j hj => by
      rw [e', dys_hi EX hj, xK_pt, if_neg (by omega), if_neg (by omega)]
      unfold cpx
      rw [if_neg (by omega)]
    have d1 : ∀ l, l < 6 → isScr (460 + l) = false := by decide +kernel
    have e34 : s' 69 34 = nI n := by rw [k'.2 34 rfl]; exact en
    obtain ⟨b, hb, b1, b2⟩ := cut0 (p := fun l => ¬ gK s0 F f k w (s0 (460 + l) 0).toNatClampNeg = s0 (460 + l) 1) n
    unfold l_X12_isUnseen_80
    intro P hP
    have ln : ∀ l, l < n → ∃ e, 1 ≤ e ∧ e ≤ 12 ∧ s0 (460 + l) 0 = nI e := by
      intro l hl
      have q := ib.2.2.2.1 l (by omega) (by rw [en]; exact nI_lt hl (by omega))
      obtain ⟨e, he, ee⟩ := nI_of2 (M := 12) (n := 12) rfl (show ¬ s0 (460 + l) 0 < 0 by grind) q.2.1
      refine ⟨e, ?_, he, ee⟩
      rcases Nat.eq_zero_or_pos e with z | z
      · subst z; rw [ee] at q; exact absurd q.1 (by decide)
      · exact z
    refine loopUp (P := fun l => P (nI l) s') b ?_ ?_
    · rcases Nat.lt_or_ge b n with h | h
      · obtain ⟨e, e1, e2, ee⟩ := ln b h
        have no := b2 h
        rw [ee, cl_nI (by omega)] at no
        refine hP _ _ ⟨fun z => absurd z (by rw [e34]; exact nI_ge h (by omega)), fun _ => ?_⟩
        rw [cl_nI (by omega), k'.1 _ (d1 b (by omega)), show s0 (460 + b) (0 : Int32).toNatClampNeg = nI e from ee, cl_nI (by omega)]
        have g := g' (e - 1) (by omega)
        rw [show e - 1 + 1 = e by omega] at g
        rw [g]
        exact ⟨vp_in_nI (by omega) (by omega), vp_in_nI (by omega) (by omega), vp_in_nI (by omega) (by omega), fun z => absurd z no, fun _ => h0 (fun ok => b2 h (okl.1 ok b h)) s' k' tl' t' q'⟩
      · refine hP _ _ ⟨fun _ => h1 (okl.2 (fun l hl => Decidable.not_not.mp (b1 l (by omega)))) s' k' tl' t' q' g', fun z => absurd ?_ z⟩
        rw [e34]
        exact nI_le h (by omega)
    · intro l hl ih
      obtain ⟨e, e1, e2, ee⟩ := ln l (by omega)
      have yes := Decidable.not_not.mp (b1 l hl)
      rw [ee, cl_nI (by omega)] at yes
      refine hP _ _ ⟨fun z => absurd z (by rw [e34]; exact nI_ge (show l < n by omega) (by omega)), fun _ => ?_⟩
      rw [cl_nI (by omega), k'.1 _ (d1 l (by omega)), show s0 (460 + l) (0 : Int32).toNatClampNeg = nI e from ee, cl_nI (by omega)]
      have g := g' (e - 1) (by omega)
      rw [show e - 1 + 1 = e by omega] at g
      rw [g, nI_1]
      exact ⟨vp_in_nI (by omega) (by omega), vp_in_nI (by omega) (by omega), vp_in_nI (by omega) (by omega), fun _ => ih, fun z => absurd yes z⟩
  unfold l_X12_isUnseen_40
  intro P hP
  refine loopUp (P := fun d => ∀ s', kp s0 s' → s' 114 2 = nI k → s' 557 = dys (ac_u s0 114 2 (nI k)) F (xK s0 f w) d → s' 69 0 = s 69 0 → s' 582 = s 582 → (∀ e, e < d → s' 581 (e + 1) = gK s0 F f k w (e + 1)) → P (nI (d + 1)) s') 12 ?_ ?_ _ kA ?_ ?_ ?_ ?_ (fun e he => absurd he (Nat.not_lt_zero e))
  · intro s4 k4 n4 e4 t4 q4 g4
    exact hP _ _ ⟨fun _ => fin s4 k4 e4 t4 q4 g4, fun z => absurd (by decide) z⟩
  · intro d hd ih s4 k4 n4 e4 t4 q4 g4
    have k4' : kp (ac_u s0 114 2 (nI k)) s4 := kp_114'.trans k4
    refine hP _ _ ⟨fun z => absurd z (nI_nlt (a := 12) (by omega) (by omega)), fun _ => ?_⟩
    refine m_de (En_kp k4' (En_dys EX d)) e4 (fun s5 k5 f5 e5 => ?_)
    rw [dyF_kp k4' EX.1 hF (.inl (by rw [n4, u_eq]))] at e5
    have e5' : s5 557 = dys (ac_u s0 114 2 (nI k)) F (xK s0 f w) (d + 1) := e5
    rw [f39, g39, cl_nI (by omega), nI_1]
    refine ⟨w39, vp_in_nI (by omega) (by omega), ih _ ((k4.trans k5).trans ((kp.refl s5).u rfl (fun e => absurd e (by decide)))) ?_ ?_ ?_ ?_ (fun e he => ?_)⟩
    · rw [u_ne (by omega), f5 114 (by omega) (by omega) (by omega) (by omega)]; exact n4
    · rw [u_ne (by omega)]; exact e5'
    · rw [u_ne (by omega), f5 69 (by omega) (by omega) (by omega) (by omega)]; exact t4
    · rw [u_ne (by omega), f5 582 (by omega) (by omega) (by omega) (by omega)]; exact q4
    · by_cases c : e = d
      · rw [c, u_eq, e5']; rfl
      · rw [u_at (by omega), f5 581 (by omega) (by omega) (by omega) (by omega)]; exact g4 e (by omega)
  · rw [u_ne (by omega), u_ne (by omega), u_eq]
  · rw [u_row', u_row', u_ne (by omega), c1]; rfl
  · rw [u_ne (by omega), u_ne (by omega), u_ne (by omega), f1 69 (by omega)]
  · rw [u_ne (by omega), u_ne (by omega), u_ne (by omega), f1 582 (by omega)]
/-! UNSEEN -/
noncomputable def okB (s : ac_m) (F f t : Nat) : Bool := @decide (okA s F f (t / 30) (t % 30 + 1)) (Classical.propDecidable _)
theorem okB_t {s : ac_m} {F f t : Nat} (h : okA s F f (t / 30) (t % 30 + 1)) : okB s F f t = true := @decide_eq_true _ (Classical.propDecidable _) h
theorem okB_f {s : ac_m} {F f t : Nat} (h : ¬ okA s F f (t / 30) (t % 30 + 1)) : okB s F f t = false := @decide_eq_false _ (Classical.propDecidable _) h
noncomputable def cU (s : ac_m) (F f : Nat) : Nat → Int32
  | 0 => 0
  | t + 1 => if okB s F f t = true then cU s F f t + 1 else cU s F f t
noncomputable def fU (s : ac_m) (F f : Nat) : Nat → Int32
  | 0 => -1
  | t + 1 => if okB s F f t = true then (if cU s F f t = 0 then 100 * nI (t / 30) + nI (t % 30 + 1) else fU s F f t) else fU s F f t
theorem cU_fU {s : ac_m} {F f : Nat} : ∀ t, t < 1000 → (∃ m, m ≤ t ∧ cU s F f t = nI m ∧ (m = 0 ↔ fU s F f t = -1))
  | 0, _ => ⟨0, Nat.le_refl 0, rfl, ⟨fun _ => rfl, fun _ => rfl⟩⟩
  | t + 1, h => by
    obtain ⟨m, hm, e1, e2⟩ := cU_fU (s := s) (F := F) (f := f) t (by omega)
    rw [cU, fU]
    by_cases c : okB s F f t = true
    · rw [if_pos c, if_pos c]
      refine ⟨m + 1, by omega, by rw [e1, nI_1], ⟨fun z => absurd z (by omega), fun z => ?_⟩⟩
      rw [e1] at z
      by_cases m0 : m = 0
      · subst m0
        rw [if_pos nI_0, show (100 : Int32) = nI 100 from rfl, nI_mul, nI_add] at z
        have := nI_pos' (n := 100 * (t / 30) + (t % 30 + 1)) (by omega)
        rw [z] at this
        exact absurd this (by decide)
      · rw [if_neg (nI_ne0 (by omega) (by omega))] at z
        exact absurd (e2.2 z) m0
    · rw [if_neg c, if_neg c]
      exact ⟨m, by omega, e1, e2⟩
theorem cU_0 {s : ac_m} {F f t : Nat} (h : t < 1000) : cU s F f t = 0 ↔ fU s F f t = -1 := by
  obtain ⟨m, hm, e1, e2⟩ := cU_fU (s := s) (F := F) (f := f) t h
  rw [e1, ← e2]
  constructor
  · intro z
    rcases Nat.eq_zero_or_pos m with y | y
    · exact y
    · exact absurd z (nI_ne0 y (by omega))
  · intro z; subst z; rfl
theorem e_unseen {p q : Int32} {Q : Int32 → ac_m → Prop} {s : ac_m} : w_X12_unseen p q Q s = gF2 p q 0 1 (fun Q s44 => l_X12_unseen_60 p q Q p q 0 (-1) 0 s44) Q s := rfl
theorem idx {k j : Nat} (hj : j < 30) : (30 * k + j) / 30 = k ∧ (30 * k + j) % 30 = j := by omega
theorem s_unseen (p q : Int32) (s : ac_m) (i : Inv s) : simX thB (w_X11_unseen p q) (w_X12_unseen p q) s := by
  obtain ⟨F, hf, hF, hD⟩ := Inv_F i
  have hn := i.1.1.1
  unfold simX w_X11_unseen
  refine gF2_no (G := w_X12_unseen p q) (fun Q s z => by rw [e_unseen]; exact z) i (fun h1 h2 h3 h4 => ?_)
  have h2' := h2
  rw [hF] at h2'
  obtain ⟨f, hfF, ef⟩ := of_in (by omega) h1 h2'
  subst ef
  have fin : ∀ s2, kp s s2 → s2 557 = s 557 → ∀ v, (q = 0 → v = cU s F f 180) → (¬ q = 0 → v = fU s F f 180) → w_X12_unseen (nI f) q (fun b s2 => v = b ∧ s2 69 0 = 0 ∧ Inv s2) s2 := by
    intro s2 k2 e557 v v0 v1
    rw [e_unseen]
    refine gF2_ok (by rw [k2.1 73 rfl]; exact hn) h1 (by rw [k2.1 73 rfl]; exact h2) h3 h4 ?_
    unfold l_X12_unseen_60
    intro P hP
    refine loopUp (P := fun k => ∀ s', kp s s' → (∀ j, 83 ≤ j → s' 557 j = s 557 j) → s' 69 0 = 0 → P (cU s F f (30 * k)) (fU s F f (30 * k)) (nI k) s') 6 ?_ ?_ _ (k2.trans kp_0) (fun j _ => by rw [u_ne (by omega), e557]) u_eq
    · intro s4 k4 tl4 t4
      have i4 := Inv_kp k4 i
      exact hP _ _ _ _ ⟨fun _ => ⟨fun q0 => ⟨v1 q0, t4, i4⟩, fun q0 => ⟨v0 q0, t4, i4⟩⟩, fun z => absurd (by decide) z⟩
    · intro k hk ih s4 k4 tl4 t4
      refine hP _ _ _ _ ⟨fun z => absurd z (nI_ge (b := 6) hk (by omega)), fun _ => ?_⟩
      unfold l_X12_unseen_70
      intro P2 hP2
      refine loopUp (P := fun j => ∀ s', kp s s' → (∀ j, 83 ≤ j → s' 557 j = s 557 j) → s' 69 0 = 0 → P2 (cU s F f (30 * k + j)) (fU s F f (30 * k + j)) (nI (j + 1)) s') 30 ?_ ?_ s4 k4 tl4 t4
      · intro s5 k5 tl5 t5
        refine hP2 _ _ _ _ ⟨fun _ => ?_, fun z => absurd (by decide) z⟩
        rw [nI_1]
        exact ih s5 k5 tl5 t5
      · intro j hj ih2 s5 k5 tl5 t5
        have ix := idx (k := k) hj
        refine hP2 _ _ _ _ ⟨fun z => absurd z (nI_nlt (a := 30) (by omega) (by omega)), fun _ => ?_⟩
        rw [nI_1]
        refine m_isU i hf hF hfF (by omega) (by omega) k5 tl5 (fun ok s6 k6 tl6 t6 _ _ => m_if1A ?_) (fun ok s6 k6 tl6 t6 _ => m_if0A ?_)
        · have ih3 := ih2 s6 k6 tl6 (t6.trans t5)
          rw [show 30 * k + (j + 1) = 30 * k + j + 1 by omega, cU, fU, okB_t (by rw [ix.1, ix.2]; exact ok), if_pos rfl, if_pos rfl, ix.1, ix.2] at ih3
          exact ⟨fun z => by rw [if_neg z] at ih3; exact ih3, fun z => by rw [if_pos z] at ih3; exact ih3⟩
        · have ih3 := ih2 s6 k6 tl6 (t6.trans t5)
          rw [show 30 * k + (j + 1) = 30 * k + j + 1 by omega, cU, fU, okB_f (by rw [ix.1, ix.2]; exact ok), if_neg (by decide), if_neg (by decide)] at ih3
          exact ih3
  unfold w_X9_search
  refine c_last (fun L hL hz => ?_)
  have e34 : (ac_u (ac_u s 65 5 0) 65 6 (-1)) 34 = s 34 := by rw [u_ne (by omega), u_ne (by omega)]
  rw [e34] at hz
  have okL : ∀ k w, (∀ d, d < L → (s 34 (d + 1) = -1 ∨ s 34 (d + 1) = gK s F f k w (d + 1))) ↔ okA s F f k w := by
    intro k w
    refine ⟨fun h d hd => ?_, fun h d hd => h d (by omega)⟩
    rcases Nat.lt_or_ge d L with c | c
    · exact h d c
    · exact .inl (hz (d + 1) (by omega) (by omega))
  unfold l_X9_search_20
  intro P hP
  refine loopUp (P := fun k => ∀ s', kp s s' → s' 557 = s 557 → s' 65 5 = cU s F f (30 * k) → s' 65 6 = fU s F f (30 * k) → P (nI k) s') 6 ?_ ?_ _ (((kp.refl s).u rfl (by decide)).u rfl (by decide)) ?_ ?_ ?_
  · intro s4 k4 e4 c4 g4
    have F4 := fin s4 k4 e4
    refine hP _ _ ⟨fun _ => ⟨fun q0 => F4 _ (fun q1 => absurd q1 q0) (fun _ => g4), fun q0 => F4 _ (fun _ => c4) (fun q1 => absurd q0 q1)⟩, fun z => absurd (by decide) z⟩
  · intro k hk ih s4 k4 e4 c4 g4
    refine hP _ _ ⟨fun z => absurd z (nI_ge (b := 6) hk (by omega)), fun _ => ?_⟩
    unfold l_X9_search_29
    intro P2 hP2
    refine loopUp (P := fun j => ∀ s', kp s s' → s' 557 = s 557 → s' 65 5 = cU s F f (30 * k + j) → s' 65 6 = fU s F f (30 * k + j) → P2 (nI (j + 1)) s') 30 ?_ ?_ s4 k4 e4 c4 g4
    · intro s5 k5 e5 c5 g5
      refine hP2 _ _ ⟨fun _ => ?_, fun z => absurd (by decide) z⟩
      rw [nI_1]
      exact ih s5 k5 e5 c5 g5
    · intro j hj ih2 s5 k5 e5 c5 g5
      have ix := idx (k := k) hj
      refine hP2 _ _ ⟨fun z => absurd z (nI_nlt (a := 30) (by omega) (by omega)), fun _ => ?_⟩
      rw [nI_1]
      refine c_fits i hf hF hfF (by omega) (by omega) hL k5 e5 (fun ok s6 f6 _ => m_if1B ?_) (fun ok s6 f6 => m_if0B ?_)
      · have k6 := k5.trans (fz9_kp f6)
        have e6 : s6 557 = s 557 := by rw [f6 557 (by omega) (by omega) (by omega) (by omega)]; exact e5
        have r65 : s6 65 = s5 65 := f6 65 (by omega) (by omega) (by omega) (by omega)
        have ok' := (okL k (j + 1)).1 ok
        have n56 : (6 : Nat) ≠ 5 := by omega
        rw [u_at n56, r65, c5, g5]
        refine ⟨fun z => ih2 _ ((k6.u rfl (by decide)).u rfl (by decide)) (by rw [u_ne (by omega), u_ne (by omega)]; exact e6) ?_ ?_, fun z => ih2 _ ((k6.u rfl (by decide)).u rfl (by decide)) (by rw [u_ne (by omega), u_ne (by omega)]; exact e6) ?_ ?_⟩
        · rw [u_at (by omega), u_eq, show 30 * k + (j + 1) = 30 * k + j + 1 by omega, cU, okB_t (by rw [ix.1, ix.2]; exact ok'), if_pos rfl]
        · rw [u_eq, show 30 * k + (j + 1) = 30 * k + j + 1 by omega, fU, okB_t (by rw [ix.1, ix.2]; exact ok'), if_pos rfl, if_neg (fun y => z ((cU_0 (by omega)).1 y))]
        · rw [u_at (by omega), u_eq, show 30 * k + (j + 1) = 30 * k + j + 1 by omega, cU, okB_t (by rw [ix.1, ix.2]; exact ok'), if_pos rfl]
        · rw [u_eq, show 30 * k + (j + 1) = 30 * k + j + 1 by omega, fU, okB_t (by rw [ix.1, ix.2]; exact ok'), if_pos rfl, if_pos ((cU_0 (by omega)).2 z), ix.1, ix.2]
      · have k6 := k5.trans (fz9_kp f6)
        have e6 : s6 557 = s 557 := by rw [f6 557 (by omega) (by omega) (by omega) (by omega)]; exact e5
        have r65 : s6 65 = s5 65 := f6 65 (by omega) (by omega) (by omega) (by omega)
        have no : ¬ okA s F f k (j + 1) := fun z => ok ((okL k (j + 1)).2 z)
        refine ih2 s6 k6 e6 ?_ ?_
        · rw [r65, c5, show 30 * k + (j + 1) = 30 * k + j + 1 by omega, cU, okB_f (by rw [ix.1, ix.2]; exact no), if_neg (by decide)]
        · rw [r65, g5, show 30 * k + (j + 1) = 30 * k + j + 1 by omega, fU, okB_f (by rw [ix.1, ix.2]; exact no), if_neg (by decide)]
  · rw [u_ne (by omega), u_ne (by omega)]
  · rw [u_at (by omega), u_eq]; rfl
  · rw [u_eq]; rfl
