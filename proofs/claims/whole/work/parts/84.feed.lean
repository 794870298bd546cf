/-! FEED -/
def by8 (x : Int32) : Int32 := x.toInt8.toInt32
theorem nar_by (x : Int32) : vp_nar .byte x.toInt8.toInt32 = by8 x := by
  unfold by8
  show (x.toInt8.toInt32).toInt8.toInt32 = _
  rw [Int8.toInt8_toInt32]
theorem by_255 (x : Int32) : by8 (x &&& 255) = by8 x := by
  unfold by8
  have e : (x &&& 255).toInt8 = x.toInt8 := by
    apply Int8.toBitVec_inj.mp
    show (x &&& 255).toBitVec.signExtend 8 = x.toBitVec.signExtend 8
    apply BitVec.eq_of_getLsbD_eq
    intro j hj
    rw [BitVec.getLsbD_signExtend, BitVec.getLsbD_signExtend, if_pos (by omega), if_pos (by omega)]
    have := b_and x 255 j
    unfold bt at this
    rw [this]
    have h255 := b_255 j
    unfold bt at h255
    rw [h255, decide_eq_true (by omega), Bool.and_true]
  rw [e]
theorem in_255 (x : Int32) : 0 ≤ (x &&& 255) ∧ (x &&& 255) ≤ 255 := by
  obtain ⟨n, hn, e⟩ := smallF (x := x &&& 255) (F := 8) (fun i h1 h2 => by rw [b_and, b_255, decide_eq_false (by omega), Bool.and_false])
  rw [e]
  exact ⟨nI_pos' (by omega), nI_le (b := 255) (by omega) (by omega)⟩
def shB (p : Int32) (i : Nat) : Int32 := p >>> (nI (24 - 8 * i) &&& 31)
theorem c_put {p : Int32} {m : Nat} {Q : ac_m → Prop} {s : ac_m} (e : s 1 1 = nI m) (hm : m + 4 ≤ 600)
    (h : ∀ s', (∀ y, y ≠ 1 → y ≠ 2 → s' y = s y) → (∀ j, j ≠ 1 → s' 1 j = s 1 j) → s' 1 1 = nI (m + 4) → (∀ j, j < m → s' 2 j = s 2 j) → (∀ i, i < 4 → s' 2 (m + i) = by8 (shB p i)) → Q s') : w_X10_put p Q s := by
  unfold w_X10_put l_X10_put_3
  intro P hP
  have st : ∀ i, i < 4 → ∀ s1, s1 1 1 = nI (m + i) → P (nI (24 - 8 * i) + (-8 : Int32)) (ac_u (ac_u s1 2 (m + i) (by8 (shB p i))) 1 1 (nI (m + (i + 1)))) → P (nI (24 - 8 * i)) s1 := by
    intro i hi s1 e1 k
    refine hP _ _ ⟨fun z => absurd z (nI_pos (by omega)), fun _ => ?_⟩
    have n12 : (1 : Nat) ≠ 2 := by omega
    rw [u_ne n12, e1, cl_nI (by omega), nar_by, nI_1]
    exact ⟨fun z => absurd z (nI_pos (by omega)), fun _ => ⟨fun z => absurd z (nI_ge (b := 600) (by omega) (by omega)), fun _ => ⟨vp_in_nI (by omega) (by omega), k⟩⟩⟩
  refine st 0 (by omega) s e ?_
  refine st 1 (by omega) _ u_eq ?_
  refine st 2 (by omega) _ u_eq ?_
  refine st 3 (by omega) _ u_eq ?_
  refine hP _ _ ⟨fun _ => h _ (fun y y1 y2 => ?_) (fun j hj => ?_) u_eq (fun j hj => ?_) (fun i hi => ?_), fun z => absurd (by decide) z⟩
  · rw [u_ne y1, u_ne y2, u_ne y1, u_ne y2, u_ne y1, u_ne y2, u_ne y1, u_ne y2]
  · rw [u_at hj, u_ne (by omega), u_at hj, u_ne (by omega), u_at hj, u_ne (by omega), u_at hj, u_ne (by omega)]
  · rw [u_ne (by omega), u_at (by omega), u_ne (by omega), u_at (by omega), u_ne (by omega), u_at (by omega), u_ne (by omega), u_at (by omega)]
  · have : i = 0 ∨ i = 1 ∨ i = 2 ∨ i = 3 := by omega
    rcases this with c | c | c | c <;> subst c
    · rw [u_ne (by omega), u_at (by omega), u_ne (by omega), u_at (by omega), u_ne (by omega), u_at (by omega), u_ne (by omega), u_eq]
    · rw [u_ne (by omega), u_at (by omega), u_ne (by omega), u_at (by omega), u_ne (by omega), u_eq]
    · rw [u_ne (by omega), u_at (by omega), u_ne (by omega), u_eq]
    · rw [u_ne (by omega), u_eq]
def pv (a b c d e : Int32) (k : Nat) : Int32 := if k < 4 then a else if k < 8 then b else if k < 12 then c else if k < 16 then d else e
theorem sh_idx : ∀ k, k < 20 → (24 : Int32) - ((8 : Int32) * (nI k - nI k / (4 : Int32) * (4 : Int32))) = nI (24 - 8 * (k % 4)) := by decide +kernel
theorem s_feed (a b c d e : Int32) (s : ac_m) (i : Inv s) : sim0 (w_X11_feed a b c d e) (w_X12_feed a b c d e) s := by
  obtain ⟨iH0, iM0, vM0, vB0, iL0, iB0, iT0, iP0, iX0⟩ := id i
  obtain ⟨t1, t2, t3, t4⟩ := iT0
  obtain ⟨m, hm, em⟩ := nI_of2 (M := 600) (n := 600) rfl (show ¬ s 69 1 < 0 by grind) t3
  have add20 : nI m + (20 : Int32) = nI (m + 20) := nI_add m 20
  unfold sim0 w_X11_feed w_X10_hasRoom
  rw [t1, em, add20]
  rcases Nat.lt_or_ge 600 (m + 20) with h | h
  · refine ⟨fun _ => m_if0A ?_, fun z => absurd (nI_lt (a := 600) h (by omega)) z⟩
    show w_X12_feed a b c d e (fun b s2 => (-1 : Int32) = b ∧ s2 69 0 = 0 ∧ Inv s2) s
    unfold w_X12_feed
    rw [u_at (show 1 ≠ 0 by omega), em, add20]
    exact ⟨fun z => absurd z (nI_ge (a := 600) h (by omega)), fun _ => ⟨rfl, u_eq, Inv_0 i⟩⟩
  · refine ⟨fun z => absurd z (nI_nlt (a := 600) h (by omega)), fun _ => m_if1A ?_⟩
    refine c_put (m := m) (t1.trans em) (by omega) (fun s1 f1 g1 e1 l1 b1 => ?_)
    refine c_put (m := m + 4) e1 (by omega) (fun s2 f2 g2 e2 l2 b2 => ?_)
    refine c_put (m := m + 8) e2 (by omega) (fun s3 f3 g3 e3 l3 b3 => ?_)
    refine c_put (m := m + 12) e3 (by omega) (fun s4 f4 g4 e4 l4 b4 => ?_)
    refine c_put (m := m + 16) e4 (by omega) (fun s5 f5 g5 e5 l5 b5 => ?_)
    rw [e5]
    have F : ∀ y, y ≠ 1 → y ≠ 2 → s5 y = s y := fun y y1 y2 => by rw [f5 y y1 y2, f4 y y1 y2, f3 y y1 y2, f2 y y1 y2, f1 y y1 y2]
    have G : ∀ j, j ≠ 1 → s5 1 j = s 1 j := fun j hj => by rw [g5 j hj, g4 j hj, g3 j hj, g2 j hj, g1 j hj]
    have L : ∀ j, j < m → s5 2 j = s 2 j := fun j hj => by rw [l5 j (by omega), l4 j (by omega), l3 j (by omega), l2 j (by omega), l1 j hj]
    have N : ∀ k, k < 20 → s5 2 (m + k) = by8 (shB (pv a b c d e k) (k % 4)) := by
      intro k hk
      unfold pv
      rcases Nat.lt_or_ge k 4 with q | q
      · rw [if_pos q, l5 _ (by omega), l4 _ (by omega), l3 _ (by omega), l2 _ (by omega), b1 k q, Nat.mod_eq_of_lt q]
      · rw [if_neg (by omega)]
        rcases Nat.lt_or_ge k 8 with q2 | q2
        · have := b2 (k - 4) (by omega)
          rw [show m + 4 + (k - 4) = m + k by omega] at this
          rw [if_pos q2, l5 _ (by omega), l4 _ (by omega), l3 _ (by omega), this, show k - 4 = k % 4 by omega]
        · rw [if_neg (by omega)]
          rcases Nat.lt_or_ge k 12 with q3 | q3
          · have := b3 (k - 8) (by omega)
            rw [show m + 8 + (k - 8) = m + k by omega] at this
            rw [if_pos q3, l5 _ (by omega), l4 _ (by omega), this, show k - 8 = k % 4 by omega]
          · rw [if_neg (by omega)]
            rcases Nat.lt_or_ge k 16 with q4 | q4
            · have := b4 (k - 12) (by omega)
              rw [show m + 12 + (k - 12) = m + k by omega] at this
              rw [if_pos q4, l5 _ (by omega), this, show k - 12 = k % 4 by omega]
            · have := b5 (k - 16) (by omega)
              rw [show m + 16 + (k - 16) = m + k by omega] at this
              rw [if_neg (by omega), this, show k - 16 = k % 4 by omega]
    show w_X12_feed a b c d e (fun b s2 => nI (m + 16 + 4) = b ∧ s2 69 0 = 0 ∧ Inv s2) s5
    unfold w_X12_feed
    rw [u_at (show 1 ≠ 0 by omega), F 69 (by omega) (by omega), em, add20]
    refine ⟨fun _ => ?_, fun z => absurd (nI_le (b := 600) h (by omega)) z⟩
    unfold l_X12_feed_23
    intro P hP
    refine loopUp (P := fun k => ∀ s', (∀ y, y ≠ 69 → y ≠ 70 → s' y = s5 y) → (∀ j, j ≠ 1 → j ≠ 0 → s' 69 j = s 69 j) → s' 69 0 = 0 → s' 69 1 = nI (m + k) → (∀ j, j < m → s' 70 j = s 70 j) → (∀ j, j < k → s' 70 (m + j) = shB (pv a b c d e j) (j % 4) &&& 255) → P (nI k) s') 20 ?_ ?_ _ (fun y y1 _ => u_ne y1) (fun j j1 j2 => by rw [u_at j2, F 69 (by omega) (by omega)]) u_eq (by rw [u_at (by omega), F 69 (by omega) (by omega)]; exact em) (fun j _ => by rw [u_ne (by omega), F 70 (by omega) (by omega)]) (fun j hj => absurd hj (Nat.not_lt_zero j))
    · intro s6 f6 g6 z6 e6 l6 b6
      refine hP _ _ ⟨fun _ => ?_, fun z => absurd (by decide) z⟩
      have R : ∀ y, y ≠ 1 → y ≠ 2 → y ≠ 69 → y ≠ 70 → s6 y = s y := fun y y1 y2 y3 y4 => by rw [f6 y y3 y4, F y y1 y2]
      have R1 : ∀ j, j ≠ 1 → s6 1 j = s 1 j := fun j hj => by rw [f6 1 (by omega) (by omega), G j hj]
      rw [e6]
      refine ⟨rfl, z6, iH_fr iH0 (fun a ha => R a (by omega) (by omega) (by omega) (by omega)), ?_, ?_, ?_, iL_of iL0 (g6 19 (by omega) (by omega)) (by rw [R 25 (by omega) (by omega) (by omega) (by omega)]) (R 26 (by omega) (by omega) (by omega) (by omega)) (fun j hj => R _ (by omega) (by omega) (by omega) (by omega)), iB_fr iB0 (fun a ha => R a (by omega) (by omega) (by omega) (by omega)) (g6 34 (by omega) (by omega)), ⟨?_, ?_, ?_, fun j hj hl => ?_⟩, ?_, ?_⟩
      · show rM _ 42 _
        rw [R 556 (by omega) (by omega) (by omega) (by omega)]
        exact rM_fr (s := s) (fun j hj => R _ (by omega) (by omega) (by omega) (by omega)) iM0
      · rw [R 73 (by omega) (by omega) (by omega) (by omega), R 556 (by omega) (by omega) (by omega) (by omega)]; exact vM0
      · rw [R 73 (by omega) (by omega) (by omega) (by omega), R 556 (by omega) (by omega) (by omega) (by omega)]; exact vB0
      · rw [f6 1 (by omega) (by omega), e5, e6]
      · rw [e6]; exact nI_pos' (by omega)
      · rw [e6]; exact nI_le (b := 600) h (by omega)
      · rw [e6] at hl
        have jl := (nI_ltI (by omega) (by omega)).1 hl
        rw [f6 2 (by omega) (by omega)]
        rcases Nat.lt_or_ge j m with q | q
        · rw [l6 j q, L j q]
          exact t4 j hj (by rw [em]; exact nI_lt q (by omega))
        · have q1 := b6 (j - m) (by omega)
          have q2 := N (j - m) (by omega)
          rw [show m + (j - m) = j by omega] at q1 q2
          rw [q1, q2]
          have q3 := in_255 (shB (pv a b c d e (j - m)) ((j - m) % 4))
          exact ⟨q3.1, q3.2, (by_255 _).symm⟩
      · obtain ⟨p1, p2, p3, p4, p5, p6, p7, p8⟩ := iP0
        refine ⟨?_, ?_, ?_, ?_, ?_, ?_, fun w hw => ?_, fun j hj hl => ?_⟩
        · rw [R 58 (by omega) (by omega) (by omega) (by omega), g6 35 (by omega) (by omega)]; exact p1
        · rw [g6 35 (by omega) (by omega)]; exact p2
        · rw [g6 35 (by omega) (by omega)]; exact p3
        · rw [R 58 (by omega) (by omega) (by omega) (by omega), g6 37 (by omega) (by omega)]; exact p4
        · rw [g6 37 (by omega) (by omega)]; exact p5
        · rw [g6 37 (by omega) (by omega)]; exact p6
        · rw [R 73 (by omega) (by omega) (by omega) (by omega), g6 35 (by omega) (by omega), R 59 (by omega) (by omega) (by omega) (by omega), R (560 + w) (by omega) (by omega) (by omega) (by omega)]; exact p7 w hw
        · rw [g6 37 (by omega) (by omega)] at hl
          rw [R 73 (by omega) (by omega) (by omega) (by omega), R 61 (by omega) (by omega) (by omega) (by omega), R 60 (by omega) (by omega) (by omega) (by omega), R (577 + j) (by omega) (by omega) (by omega) (by omega)]; exact p8 j hj hl
      · unfold iX
        rw [R1 6 (by omega), R 0 (by omega) (by omega) (by omega) (by omega), R 71 (by omega) (by omega) (by omega) (by omega), g6 3 (by omega) (by omega), g6 36 (by omega) (by omega)]
        exact iX0
    · intro k hk ih s6 f6 g6 z6 e6 l6 b6
      have go : ∀ v, v = pv a b c d e k → vp_in (s6 69 1) 600 ∧ (P (nI k + (1 : Int32)) (ac_u (ac_u s6 70 (s6 69 1).toNatClampNeg ((v >>> (((24 : Int32) - ((8 : Int32) * (nI k - nI k / (4 : Int32) * (4 : Int32)))) &&& 31)) &&& (255 : Int32))) 69 1 (((ac_u s6 70 (s6 69 1).toNatClampNeg ((v >>> (((24 : Int32) - ((8 : Int32) * (nI k - nI k / (4 : Int32) * (4 : Int32)))) &&& 31)) &&& (255 : Int32))) 69 1) + (1 : Int32)))) := by
        intro v hv
        have n69 : (69 : Nat) ≠ 70 := by omega
        rw [u_ne n69, e6, cl_nI (by omega), sh_idx k hk, nI_1, nI_1]
        refine ⟨vp_in_nI (by omega) (by omega), ih _ (fun y y1 y2 => by rw [u_ne y1, u_ne y2]; exact f6 y y1 y2) (fun j j1 j2 => by rw [u_at j1, u_ne (by omega)]; exact g6 j j1 j2) (by rw [u_at (by omega), u_ne (by omega)]; exact z6) (by rw [u_eq]; rfl) (fun j hj => by rw [u_ne (by omega), u_at (by omega)]; exact l6 j hj) (fun j hj => ?_)⟩
        rw [u_ne (by omega)]
        by_cases q : j = k
        · rw [q, u_eq, hv]; rfl
        · rw [u_at (by omega)]; exact b6 j (by omega)
      have le4 : ∀ c : Nat, c < 20 → (nI c ≤ nI k ↔ c ≤ k) := fun c hc => nI_leI (by omega) (by omega)
      refine hP _ _ ⟨fun z => absurd z (nI_ge (b := 20) hk (by omega)), fun _ => ⟨fun z4 => ⟨fun z8 => ⟨fun z12 => ⟨fun z16 => go _ ?_, fun z16 => go _ ?_⟩, fun z12 => go _ ?_⟩, fun z8 => go _ ?_⟩, fun z4 => go _ ?_⟩⟩
      · have := (le4 16 (by omega)).1 z16
        unfold pv; rw [if_neg (by omega), if_neg (by omega), if_neg (by omega), if_neg (by omega)]
      · have q1 := (le4 12 (by omega)).1 z12
        have q2 : ¬ 16 ≤ k := fun q => z16 ((le4 16 (by omega)).2 q)
        unfold pv; rw [if_neg (by omega), if_neg (by omega), if_neg (by omega), if_pos (by omega)]
      · have q1 := (le4 8 (by omega)).1 z8
        have q2 : ¬ 12 ≤ k := fun q => z12 ((le4 12 (by omega)).2 q)
        unfold pv; rw [if_neg (by omega), if_neg (by omega), if_pos (by omega)]
      · have q1 := (le4 4 (by omega)).1 z4
        have q2 : ¬ 8 ≤ k := fun q => z8 ((le4 8 (by omega)).2 q)
        unfold pv; rw [if_neg (by omega), if_pos (by omega)]
      · have q2 : ¬ 4 ≤ k := fun q => z4 ((le4 4 (by omega)).2 q)
        unfold pv; rw [if_pos (by omega)]
