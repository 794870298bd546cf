/-! LOOK -/
theorem m_isTold {d : Nat} {Q : Int32 → ac_m → Prop} {s0 s : ac_m} (i : Inv s0) (kp0 : kp s0 s) (d1 : 1 ≤ d) (d2 : d ≤ 12) (h1 : ¬ s0 34 d = -1 → Q 1 s) (h0 : s0 34 d = -1 → Q 0 s) : w_X12_isTold (nI d) Q s := by
  have ib := i.2.2.2.2.2.1
  obtain ⟨n, hn, en⟩ := nI_of2 (M := 6) (n := 6) rfl (show ¬ s0 69 34 < 0 by have := ib.2.1; grind) ib.2.2.1
  have dS : ∀ l, l < 6 → isScr (460 + l) = false := by decide +kernel
  have e34 : s 69 34 = nI n := by rw [kp0.2 34 rfl]; exact en
  obtain ⟨b, hb, b1, b2⟩ := cut0 (p := fun l => s0 (460 + l) 0 = nI d) n
  unfold w_X12_isTold l_X12_isTold_2
  intro P hP
  refine loopUp (P := fun l => P (nI l) s) b ?_ ?_
  · rcases Nat.lt_or_ge b n with h | h
    · have yes := b2 h
      have q := ib.2.2.2.1 b (by omega) (by rw [en]; exact nI_lt h (by omega))
      refine hP _ _ ⟨fun z => absurd z (by rw [e34]; exact nI_ge h (by omega)), fun _ => ⟨vp_in_nI (by omega) (by omega), ?_⟩⟩
      rw [cl_nI (by omega), kp0.1 _ (dS b (by omega))]
      refine ⟨fun z => absurd yes z, fun _ => h1 (fun z => ?_)⟩
      rw [yes, cl_nI (by omega), z] at q
      have := q.2.2.1
      rw [← q.2.2.2.2] at this
      exact absurd this (by decide)
    · refine hP _ _ ⟨fun _ => h0 ?_, fun z => absurd (by rw [e34]; exact nI_le h (by omega)) z⟩
      rcases ib.2.2.2.2 d (by omega) with o | ⟨l, hl, hl2, q1, -⟩
      · exact o
      · rw [en] at hl2
        exact absurd q1 (b1 l (by have := (nI_ltI (by omega) (by omega)).1 hl2; omega))
  · intro l hl ih
    refine hP _ _ ⟨fun z => absurd z (by rw [e34]; exact nI_ge (show l < n by omega) (by omega)), fun _ => ⟨vp_in_nI (by omega) (by omega), ?_⟩⟩
    rw [cl_nI (by omega), kp0.1 _ (dS l (by omega)), nI_1]
    exact ⟨fun _ => ih, fun z => absurd z (b1 l hl)⟩
theorem m_worst {F f d : Nat} {Q : Int32 → ac_m → Prop} {s0 s : ac_m} (i : Inv s0) (hF : F ≤ 6) (h73 : s0 73 0 = nI F) (hf : f < F) (d1 : 1 ≤ d) (d2 : d ≤ 12) (kp0 : kp s0 s) (tl : ∀ j, 83 ≤ j → s 557 j = s0 557 j)
    (h : ∀ s', kp s0 s' → (∀ j, 83 ≤ j → s' 557 j = s0 557 j) → s' 69 0 = s 69 0 → Q (wR s0 F f d 180) s') : w_X12_worstAt (nI f) (nI d) Q s := by
  have E0 := Inv_En i hF h73
  have v13 : vp_in (nI d) 13 := vp_in_nI (by omega) (by omega)
  have cd := cl_nI (n := d) (by omega)
  unfold w_X12_worstAt l_X12_worstAt_5
  intro P hP
  refine loopUp (P := fun k => ∀ s', kp s0 s' → (∀ j, 83 ≤ j → s' 557 j = s0 557 j) → s' 69 0 = s 69 0 → (∀ g, g < k → s' 582 g = 0) → P (nI k) s') 100 ?_ ?_ s kp0 tl rfl (fun g hg => absurd hg (Nat.not_lt_zero g))
  rotate_left
  · intro k hk ih s1 k1 tl1 t1 g1
    refine hP _ _ ⟨fun z => absurd z (nI_nlt (a := 99) (by omega) (by omega)), fun _ => ⟨vp_in_nI hk (by omega), ?_⟩⟩
    rw [cl_nI (by omega), nI_1]
    refine ih _ (k1.trans ((kp.refl s1).u rfl (fun e => absurd e (by decide)))) (fun j hj => by rw [u_ne (by omega)]; exact tl1 j hj) (by rw [u_ne (by omega)]; exact t1) (fun g hg => ?_)
    by_cases e : g = k
    · rw [e, u_eq]
    · rw [u_at e]; exact g1 g (by omega)
  intro s1 k1 tl1 t1 g1
  refine hP _ _ ⟨fun _ => ?_, fun z => absurd (by decide) z⟩
  unfold l_X12_worstAt_29
  intro P2 hP2
  refine loopUp (P := fun k => ∀ s', kp s0 s' → (∀ j, 83 ≤ j → s' 557 j = s0 557 j) → s' 69 0 = s 69 0 → (∀ g, g < 100 → s' 582 g = cL s0 F f d g (30 * k)) → P2 (wR s0 F f d (30 * k)) (nI k) s') 6 ?_ ?_ s1 k1 tl1 t1 g1
  · intro s2 k2 tl2 t2 g2
    exact hP2 _ _ _ ⟨fun _ => h s2 k2 tl2 t2, fun z => absurd (by decide) z⟩
  · intro k hk ih s2 k2 tl2 t2 g2
    refine hP2 _ _ _ ⟨fun z => absurd z (nI_ge (b := 6) hk (by omega)), fun _ => ?_⟩
    unfold l_X12_worstAt_39
    intro P3 hP3
    refine loopUp (P := fun j => ∀ s', kp s0 s' → (∀ j, 83 ≤ j → s' 557 j = s0 557 j) → s' 69 0 = s 69 0 → (∀ g, g < 100 → s' 582 g = cL s0 F f d g (30 * k + j)) → P3 (wR s0 F f d (30 * k + j)) (nI (j + 1)) s') 30 ?_ ?_ s2 k2 tl2 t2 g2
    · intro s3 k3 tl3 t3 g3
      refine hP3 _ _ _ ⟨fun _ => ?_, fun z => absurd (by decide) z⟩
      rw [nI_1]
      exact ih s3 k3 tl3 t3 g3
    · intro j hj ih2 s3 k3 tl3 t3 g3
      have ix := idx (k := k) hj
      refine hP3 _ _ _ ⟨fun z => absurd z (nI_nlt (a := 30) (by omega) (by omega)), fun _ => ?_⟩
      rw [nI_1]
      obtain ⟨G, hG, eG⟩ := gT_bd (t := 30 * k + j) (d := d) E0 hf
      refine m_isU i hF h73 hf (by omega) (by omega) k3 tl3 (fun ok s4 k4 tl4 t4 q4 g4 => m_if1A ?_) (fun ok s4 k4 tl4 t4 q4 => m_if0A ?_)
      · have okb : okB s0 F f (30 * k + j) = true := okB_t (by rw [ix.1, ix.2]; exact ok)
        have gd := g4 (d - 1) (by omega)
        have eg : gK s0 F f k (j + 1) d = nI G := by have := eG; unfold gT at this; rw [ix.1, ix.2] at this; exact this
        rw [show d - 1 + 1 = d by omega, eg] at gd
        have vG : vp_in (nI G) 100 := vp_in_nI hG (by omega)
        have n81 : (581 : Nat) ≠ 582 := by omega
        rw [cd, gd, cl_nI (by omega), u_ne n81, gd, cl_nI (by omega), u_eq]
        have c4 : s4 582 G + 1 = cL s0 F f d G (30 * k + j + 1) := by rw [q4, g3 G hG, cL, if_pos ⟨okb, eG⟩]
        have ih3 := ih2 (ac_u s4 582 G (s4 582 G + 1)) (k4.trans ((kp.refl s4).u rfl (fun e => absurd e (by decide)))) (fun j hj => by rw [u_ne (by omega)]; exact tl4 j hj) (by rw [u_ne (by omega), t4]; exact t3) (fun g hg => by
          rw [show 30 * k + (j + 1) = 30 * k + j + 1 by omega]
          by_cases e : g = G
          · rw [e, u_eq]; exact c4
          · rw [u_at e, q4, g3 g hg, cL, if_neg (fun z => e ((nI_eq (by omega) (by omega)).1 (z.2.symm.trans eG)))])
        rw [show 30 * k + (j + 1) = 30 * k + j + 1 by omega, wR, if_pos okb, eG, cl_nI (by omega), ← c4] at ih3
        refine ⟨v13, vG, vG, v13, vG, ?_⟩
        unfold w_X12_more
        refine ⟨fun z => ?_, fun z => ?_⟩
        · by_cases c : wR s0 F f d (30 * k + j) < s4 582 G + 1
          · rw [if_pos c] at ih3; exact ih3
          · rw [if_neg c] at ih3
            have : wR s0 F f d (30 * k + j) = s4 582 G + 1 := by grind
            rw [← this]
            rw [← this] at ih3
            exact ih3
        · rw [if_neg (by grind)] at ih3; exact ih3
      · have okb : okB s0 F f (30 * k + j) = false := okB_f (by rw [ix.1, ix.2]; exact ok)
        have ih3 := ih2 s4 k4 tl4 (t4.trans t3) (fun g hg => by rw [show 30 * k + (j + 1) = 30 * k + j + 1 by omega, q4, g3 g hg, cL, if_neg (fun z => by rw [okb] at z; cases z.1)])
        rw [show 30 * k + (j + 1) = 30 * k + j + 1 by omega, wR, okb, if_neg (by decide)] at ih3
        exact ih3
theorem e_look {p q : Int32} {Q : Int32 → ac_m → Prop} {s : ac_m} : w_X12_look p q Q s = gF2 p q 0 1 (fun Q s44 => l_X12_look_60 p q Q p q (-1) (-1) 1 s44) Q s := rfl
theorem s_look (p q : Int32) (s : ac_m) (i : Inv s) : simX thB (w_X11_look p q) (w_X12_look p q) s := by
  obtain ⟨F, hf, hF, hD⟩ := Inv_F i
  have hn := i.1.1.1
  have E0 := Inv_En i hf hF
  unfold simX w_X11_look
  refine gF2_no (G := w_X12_look p q) (fun Q s z => by rw [e_look]; exact z) i (fun h1 h2 h3 h4 => ?_)
  have h2' := h2
  rw [hF] at h2'
  obtain ⟨f, hfF, ef⟩ := of_in (by omega) h1 h2'
  subst ef
  have fin : ∀ s2, kp s s2 → s2 557 = s 557 → ∀ v, (q = 0 → v = (bDL (fun d => !decide (s 34 d = -1)) (fun d => wR s F f d 180) (-1) 12).1) → (¬ q = 0 → v = (bDL (fun d => !decide (s 34 d = -1)) (fun d => wR s F f d 180) (-1) 12).2) → w_X12_look (nI f) q (fun b s2 => v = b ∧ s2 69 0 = 0 ∧ Inv s2) s2 := by
    intro s2 k2 e557 v v0 v1
    rw [e_look]
    refine gF2_ok (by rw [k2.1 73 rfl]; exact hn) h1 (by rw [k2.1 73 rfl]; exact h2) h3 h4 ?_
    generalize hL : (fun d => !decide (s 34 d = -1)) = L at *
    generalize hW : (fun d => wR s F f d 180) = W at *
    have eL : ∀ d, L d = !decide (s 34 d = -1) := fun d => by rw [← hL]
    have eW : ∀ d, wR s F f d 180 = W d := fun d => by rw [← hW]
    unfold l_X12_look_60
    intro P hP
    refine loopUp (P := fun k => ∀ s', kp s s' → (∀ j, 83 ≤ j → s' 557 j = s 557 j) → s' 69 0 = 0 → P (bDL L W (-1) k).1 (bDL L W (-1) k).2 (nI (k + 1)) s') 12 ?_ ?_ _ (k2.trans kp_0) (fun j _ => by rw [u_ne (by omega), e557]) u_eq
    · intro s4 k4 tl4 t4
      have i4 := Inv_kp k4 i
      exact hP _ _ _ _ ⟨fun _ => ⟨fun q0 => ⟨v1 q0, t4, i4⟩, fun q0 => ⟨v0 q0, t4, i4⟩⟩, fun z => absurd (by decide) z⟩
    · intro k hk ih s4 k4 tl4 t4
      refine hP _ _ _ _ ⟨fun z => absurd z (nI_nlt (a := 12) (by omega) (by omega)), fun _ => ?_⟩
      rw [nI_1]
      refine m_isTold i k4 (by omega) (by omega) (fun z => m_if1B ?_) (fun z => m_if0B (m_worst i hf hF hfF (by omega) (by omega) k4 tl4 (fun s5 k5 tl5 t5 => ?_)))
      · have ih2 := ih s4 k4 tl4 t4
        rw [bDL, eL, decide_eq_false z, if_pos Bool.not_false] at ih2
        exact ih2
      · have ih2 := ih s5 k5 tl5 (t5.trans t4)
        rw [bDL, eL, decide_eq_true z, if_neg (by decide)] at ih2
        rw [eW]
        refine ⟨fun y => ?_, fun y => ⟨fun x => ?_, fun x => ?_⟩⟩
        · rw [if_pos (.inl y)] at ih2; exact ih2
        · rw [if_pos (.inr x)] at ih2; exact ih2
        · rw [if_neg (fun t => t.elim y x)] at ih2; exact ih2
  unfold w_X9_chooseDay
  refine c_fill (by omega) (fun s1 f1 g1 => ?_)
  have k1 : kp s s1 := ⟨fun a ha => f1 a (fun e => by subst e; cases ha), fun j _ => by rw [f1 69 (by omega)]⟩
  have tail : ∀ s', kp s s' → s' 557 = s 557 → (∀ e, 1 ≤ e → e ≤ 12 → ∀ g, g < 100 → s' 67 (100 * e + g) = cL s F f e g 180) → l_X9_chooseDay_59 (nI f) (fun s17 => (¬ q = 0 → (w_X12_look (nI f) q (fun b s2 => s17 65 8 = b ∧ s2 69 0 = 0 ∧ Inv s2) s17)) ∧ (q = 0 → (w_X12_look (nI f) q (fun b s2 => s17 65 7 = b ∧ s2 69 0 = 0 ∧ Inv s2) s17))) 1 (ac_u s' 65 7 (-1)) := by
    intro s' k' e' g'
    generalize hL : (fun d => !decide (s 34 d = -1)) = L at *
    generalize hW : (fun d => wR s F f d 180) = W at *
    have eL : ∀ d, L d = !decide (s 34 d = -1) := fun d => by rw [← hL]
    have eW : ∀ d, mxq (fun g => cL s F f d g 180) 100 = W d := fun d => by rw [← wR_mx E0 hfF (by omega), ← hW]
    unfold l_X9_chooseDay_59
    intro P hP
    refine loopUp (P := fun k => ∀ t, kp s t → t 557 = s 557 → (∀ e, 1 ≤ e → e ≤ 12 → ∀ g, g < 100 → t 67 (100 * e + g) = cL s F f e g 180) → t 65 7 = (bDL L W (s' 65 8) k).1 → t 65 8 = (bDL L W (s' 65 8) k).2 → P (nI (k + 1)) t) 12 ?_ ?_ _ (k'.trans ((kp.refl s').u rfl (by decide))) (by rw [u_ne (by omega)]; exact e') (fun e e1 e2 g hg => by rw [u_ne (by omega)]; exact g' e e1 e2 g hg) (by rw [u_eq]; rfl) (by rw [u_at (by omega)]; rfl)
    · intro t kt et gt b7 b8
      obtain ⟨z1, z2, z3⟩ := bDL_z (L := L) (W := W) (z := s' 65 8) (z' := -1) 12 (Nat.le_refl 12)
      have fr : ∃ d, 1 ≤ d ∧ d ≤ 12 ∧ L d = false := by
        have ib := i.2.2.2.2.2.1
        obtain ⟨d, d1, d2, d3⟩ := free_day 6 ((List.range 6).map (fun l => (s (460 + l) 0).toNatClampNeg)) (by simp)
        refine ⟨d, d1, by omega, ?_⟩
        rw [eL]
        rcases ib.2.2.2.2 d (by omega) with o | ⟨l, hl, -, q1, -⟩
        · rw [decide_eq_true o]; rfl
        · exact absurd (List.mem_map.mpr ⟨l, List.mem_range.mpr hl, by rw [q1, cl_nI (by omega)]⟩) d3
      have eq := z2 (z3 fr)
      rw [eq] at b7 b8
      have F4 := fin t kt et
      exact hP _ _ ⟨fun _ => ⟨fun q0 => F4 _ (fun q1 => absurd q1 q0) (fun _ => b8), fun q0 => F4 _ (fun _ => b7) (fun q1 => absurd q0 q1)⟩, fun z => absurd (by decide) z⟩
    · intro k hk ih t kt et gt b7 b8
      have e34 : t 34 = s 34 := kt.1 34 rfl
      refine hP _ _ ⟨fun z => absurd z (nI_nlt (a := 12) (by omega) (by omega)), fun _ => ?_⟩
      rw [nI_1]
      refine c_hasLine (by omega) (fun z => m_if0A (c_weigh (c := fun g => cL s F f (k + 1) g 180) (by omega) (by omega) (fun g hg => gt (k + 1) (by omega) (by omega) g hg) (fun y => ih _ ((kt.u rfl (by decide)).u rfl (by decide)) (by rw [u_ne (by omega), u_ne (by omega)]; exact et) (fun e e1 e2 g hg => by rw [u_ne (by omega), u_ne (by omega)]; exact gt e e1 e2 g hg) ?_ ?_) (fun y => ih t kt et gt ?_ ?_))) (fun z => m_if1A (ih t kt et gt ?_ ?_))
      · rw [u_at (by omega), u_eq]
        rw [e34] at z
        rw [b7, b8, eW] at y
        rw [bDL, eL, decide_eq_true z, if_neg (by decide), if_pos y]
      · rw [u_eq]
        rw [e34] at z
        rw [b7, b8, eW] at y
        rw [bDL, eL, decide_eq_true z, if_neg (by decide), if_pos y]
        exact eW (k + 1)
      · rw [e34] at z
        rw [b7, b8, eW] at y
        rw [b7, bDL, eL, decide_eq_true z, if_neg (by decide), if_neg y]
      · rw [e34] at z
        rw [b7, b8, eW] at y
        rw [b8, bDL, eL, decide_eq_true z, if_neg (by decide), if_neg y]
      · rw [e34] at z
        rw [b7, bDL, eL, decide_eq_false z, if_pos Bool.not_false]
      · rw [e34] at z
        rw [b8, bDL, eL, decide_eq_false z, if_pos Bool.not_false]
  unfold l_X9_chooseDay_10
  intro P hP
  refine loopUp (P := fun k => ∀ s', kp s s' → s' 557 = s 557 → (∀ e, 1 ≤ e → e ≤ 12 → ∀ g, g < 100 → s' 67 (100 * e + g) = cL s F f e g (30 * k)) → P (nI k) s') 6 ?_ ?_ s1 k1 (f1 557 (by omega)) (fun e e1 e2 g hg => g1 _ (by omega))
  · intro s4 k4 e4 g4
    exact hP _ _ ⟨fun _ => tail s4 k4 e4 g4, fun z => absurd (by decide) z⟩
  · intro k hk ih s4 k4 e4 g4
    refine hP _ _ ⟨fun z => absurd z (nI_ge (b := 6) hk (by omega)), fun _ => ?_⟩
    unfold l_X9_chooseDay_18
    intro P2 hP2
    refine loopUp (P := fun j => ∀ s', kp s s' → s' 557 = s 557 → (∀ e, 1 ≤ e → e ≤ 12 → ∀ g, g < 100 → s' 67 (100 * e + g) = cL s F f e g (30 * k + j)) → P2 (nI (j + 1)) s') 30 ?_ ?_ s4 k4 e4 g4
    · intro s5 k5 e5 g5
      refine hP2 _ _ ⟨fun _ => ?_, fun z => absurd (by decide) z⟩
      rw [nI_1]
      exact ih s5 k5 e5 g5
    · intro j hj ih2 s5 k5 e5 g5
      have ix := idx (k := k) hj
      refine hP2 _ _ ⟨fun z => absurd z (nI_nlt (a := 30) (by omega) (by omega)), fun _ => ?_⟩
      rw [nI_1]
      refine c_fits (L := 12) i hf hF hfF (by omega) (by omega) (Nat.le_refl 12) k5 e5 (fun ok s6 f6 h6 => m_if1B ?_) (fun ok s6 f6 => m_if0B ?_)
      · have k6 := k5.trans (fz9_kp f6)
        have e6 : s6 557 = s 557 := by rw [f6 557 (by omega) (by omega) (by omega) (by omega)]; exact e5
        have r67 : s6 67 = s5 67 := f6 67 (by omega) (by omega) (by omega) (by omega)
        have okb : okB s F f (30 * k + j) = true := okB_t (by rw [ix.1, ix.2]; exact ok)
        refine c_tally (c := fun e g => cL s F f e g (30 * k + j)) (G := fun e => (gT s F f (30 * k + j) e).toNatClampNeg) (fun e e1 e2 g hg => by rw [r67]; exact g5 e e1 e2 g hg) (fun e e1 e2 => ?_) (fun s7 f7 g7 => ih2 s7 (k6.trans ⟨fun a ha => f7 a (fun e => by subst e; cases ha), fun j _ => by rw [f7 69 (by omega)]⟩) (by rw [f7 557 (by omega)]; exact e6) (fun e e1 e2 g hg => ?_))
        · obtain ⟨G, hG, eG⟩ := gT_bd (t := 30 * k + j) (d := e) E0 hfF
          have q := h6 (e - 1) (by omega)
          have eg : gK s F f k (j + 1) e = nI G := by have := eG; unfold gT at this; rw [ix.1, ix.2] at this; exact this
          rw [show e - 1 + 1 = e by omega, eg] at q
          show s6 66 e = nI (gT s F f (30 * k + j) e).toNatClampNeg ∧ (gT s F f (30 * k + j) e).toNatClampNeg < 100
          rw [eG, cl_nI (by omega)]
          exact ⟨q, hG⟩
        · obtain ⟨G, hG, eG⟩ := gT_bd (t := 30 * k + j) (d := e) E0 hfF
          rw [g7 e e1 e2 g hg, show 30 * k + (j + 1) = 30 * k + j + 1 by omega, cL, eG, cl_nI (by omega)]
          by_cases c : g = G
          · rw [if_pos c, if_pos ⟨okb, by rw [c]⟩]
          · rw [if_neg c, if_neg (fun z => c ((nI_eq (by omega) (by omega)).1 z.2.symm))]
      · have k6 := k5.trans (fz9_kp f6)
        have e6 : s6 557 = s 557 := by rw [f6 557 (by omega) (by omega) (by omega) (by omega)]; exact e5
        have r67 : s6 67 = s5 67 := f6 67 (by omega) (by omega) (by omega) (by omega)
        have okb : okB s F f (30 * k + j) = false := okB_f (by rw [ix.1, ix.2]; exact ok)
        refine ih2 s6 k6 e6 (fun e e1 e2 g hg => ?_)
        rw [r67, g5 e e1 e2 g hg, show 30 * k + (j + 1) = 30 * k + j + 1 by omega, cL, if_neg (fun z => by rw [okb] at z; cases z.1)]
