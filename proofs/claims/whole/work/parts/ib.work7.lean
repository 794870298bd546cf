theorem dr_wk : ∀ a, a < 556 → (a = 1 ∨ a = 69 ∨ (37 ≤ a ∧ a ≤ 41) ∨ (476 ≤ a ∧ a ≤ 555)) → isDr a = true := by decide +kernel
theorem s_work (p : Int32) (s : ac_m) (i : Inv s) : simX thA (w_X11_work p) (w_X12_work p) s := by
  obtain ⟨iH0, iM0, vM0, vB0, iL0, iB0, iT0, iP0, iX0⟩ := id i
  obtain ⟨t1, t2, t3, t4⟩ := iT0
  obtain ⟨m, hm, em⟩ := nI_of2 (M := 600) (n := 600) rfl (show ¬ s 69 1 < 0 by grind) t3
  obtain ⟨F, hF, e73⟩ := nI_of2 (M := 6) (n := 6) rfl (show ¬ s 73 0 < 0 by have := iH0.1.1; grind) iH0.1.2.1
  obtain ⟨B, hB, e731⟩ := nI_of2 (M := 12) (n := 12) rfl (show ¬ s 73 1 < 0 by have := iH0.1.2.2.1; grind) iH0.1.2.2.2.1
  obtain ⟨P1, P2, P3, P4, P5, P6, P7, P8⟩ := id iP0
  obtain ⟨V, hV, eV⟩ := nI_of2 (M := 16) (n := 16) rfl (show ¬ s 69 35 < 0 by grind) P3
  have e3 : s 3 10 = nI F := by rw [iH0.2.1.1]; exact e73
  have e31 : s 3 11 = nI B := by rw [iH0.2.1.2.1]; exact e731
  unfold simX w_X11_work
  rw [t1, em]
  refine c_within (fun h1 h2 => ?_) (fun h => ?_)
  · have hp : p ≤ 150 ∧ p ≤ nI m := by
      by_cases c : (150 : Int32) < nI m
      · rw [if_pos c] at h2; grind
      · rw [if_neg c] at h2; grind
    obtain ⟨n, hn, rfl⟩ := nI_of2 (M := 150) (n := 150) rfl (show ¬ p < 0 by grind) hp.1
    have hnm : n ≤ m := (nI_leI (by omega) (by omega)).1 hp.2
    obtain ⟨T, hb70, hb2⟩ := tX_ok i em hm hnm
    rw [P1, eV]
    refine ⟨fun cV => ?_, fun cV => ?_⟩
    · have hV2 : V < 16 := (nI_ltI (b := 16) (by omega) (by omega)).1 cV
      have wI : wkI s F B := ⟨iH0, iL0, e73, e731, hF, hB⟩
      have wX : wkX F B (s 556) := by
        rw [e73] at vM0
        rw [e731] at vB0
        exact ⟨vM0, vB0⟩
      have nd : ∀ y, (y < 37 ∨ 41 < y) → ¬ wDC y := fun y hy => by unfold wDC; omega
      refine c_workR T hn hF hB e3 e31 hb2 (fun w0 o M x e ex x2 s1 Fr z1 z6 cw => m_if1A ?_) (fun o M kd pl e s1 Fr z1 z5 z6 => m_if0A ?_)
      · obtain ⟨c, w⟩ := x
        obtain ⟨ex1, ex2, ex3, f, ex4⟩ := ex
        have c2 : 2 * c ≤ n := x2
        obtain ⟨C1, C2, C3, ⟨C4, C5, C6⟩, C7⟩ := cw
        obtain ⟨x', n', m', r', vx, ⟨b1, b2, b3⟩, RC, RM⟩ := wk_run wI (fun i hi => ex3 i (Nat.zero_le _) hi) (show c ≤ 79 by omega) f 0 0 c ex4 (by omega) (Nat.le_refl c) (s 556) 0 0 0 wX ⟨by omega, Nat.le_refl _, Nat.le_refl _⟩
        unfold w_X6_keepWork
        rw [Fr 58 (by omega) (nd _ (by omega)), P1, eV]
        refine ⟨fun z => absurd z (nI_pos (by omega)), fun _ => ⟨fun z => absurd z (nI_ge (b := 16) hV2 (by omega)), fun _ => ?_⟩⟩
        rw [show nI V * (83 : Int32) = nI (83 * V) by rw [show (83 : Int32) = nI 83 from rfl, nI_mul, Nat.mul_comm]]
        have m1 : rM s1 42 (s 556) := rM_un (s := s) iM0 (fun y hy => Fr y (by omega) (nd _ (by omega)))
        refine c_store (by omega) (by omega) (by omega) m1 (fun s2 f2 g2 st2 => ?_)
        rw [f2 58 (by omega), Fr 58 (by omega) (nd _ (by omega)), P1, eV, nI_1]
        have S2 : ∀ y, y ≠ 58 → y ≠ 59 → (ac_u s2 58 3 (nI (V + 1))) y = s1 y := fun y y1 y2 => by rw [u_ne y1, f2 y y2]
        have e37 : (ac_u s2 58 3 (nI (V + 1))) 37 = s1 37 := S2 37 (by omega) (by omega)
        show t_X7_carryOut 0 ((ac_u s2 58 3 (nI (V + 1))) 37 4) 0 _ _
        rw [show (ac_u s2 58 3 (nI (V + 1))) 37 4 = nI c by rw [e37]; exact C3]
        unfold t_X7_carryOut
        rw [tk_X7_carryOut]
        unfold w_X7_carryOut
        refine ⟨fun z => absurd z (by decide), fun _ => ⟨fun _ => ?_, fun z => absurd (nI_le (b := 150) (by omega) (by omega)) z⟩⟩
        unfold l_X7_carryOut_15
        intro P hP
        have S3 : ∀ y, y ≠ 1 → y ≠ 58 → y ≠ 59 → ¬ wDC y → (ac_u s2 58 3 (nI (V + 1))) y = s y := fun y y1 y2 y3 y4 => by rw [S2 y y2 y3, Fr y y1 y4]
        refine RC 7 _ _ _ _ P (by omega) hP _ ⟨⟨fun y hy => S3 y (by unfold wkSt at hy; omega) (by unfold wkSt at hy; omega) (by unfold wkSt at hy; omega) (nd _ (by unfold wkSt at hy; omega)), by rw [S3 69 (by omega) (by omega) (by omega) (nd _ (by omega))]⟩, fun k hk j hj => by rw [S2 _ (by omega) (by omega)]; exact C7 k hk j, rM_un m1 (fun y hy => S2 y (by omega) (by omega)), by rw [e37]; exact C4, by rw [e37]; exact C5, by rw [e37]; exact C6⟩ (fun s4 f4 cs4 => ?_)
        have S4 : ∀ y, y ≠ 1 → y ≠ 27 → y ≠ 28 → y ≠ 58 → y ≠ 59 → (y < 37 ∨ 49 < y) → s4 y = s y := fun y y1 y2 y3 y4 y5 y6 => by rw [f4.1 y y2 y3 (by omega) (by omega), S3 y y1 y4 y5 (nd _ (by omega))]
        rw [cs4.2.2.2.2.2, show (ac_u s4 0 14 (nI r')) 37 6 = nI m' by rw [u_ne (by omega)]; exact cs4.2.2.2.2.1]
        have S5 : ∀ y, y ≠ 0 → y ≠ 1 → y ≠ 27 → y ≠ 28 → y ≠ 58 → y ≠ 59 → (y < 37 ∨ 49 < y) → (ac_u s4 0 14 (nI r')) y = s y := fun y y0 y1 y2 y3 y4 y5 y6 => by rw [u_ne y0, S4 y y1 y2 y3 y4 y5 y6]
        refine m_workR (V := V) T (fun j hj => by rw [S5 70 (by omega) (by omega) (by omega) (by omega) (by omega) (by omega) (by omega)]; exact hb70 j hj) (by rw [S5 69 (by omega) (by omega) (by omega) (by omega) (by omega) (by omega) (by omega)]; exact em) hm hn hnm (by rw [S5 69 (by omega) (by omega) (by omega) (by omega) (by omega) (by omega) (by omega)]; exact eV) hV2 (by rw [S5 73 (by omega) (by omega) (by omega) (by omega) (by omega) (by omega) (by omega)]; exact e73) (by rw [S5 73 (by omega) (by omega) (by omega) (by omega) (by omega) (by omega) (by omega)]; exact e731) M (fun x' e2 s5 gx mx => ?_) (fun kd pl e2 => absurd (e.symm.trans e2) (by intro z; cases z))
        cases e.symm.trans e2
        obtain ⟨⟨M1, M2, M3, M4⟩, MR⟩ := mx
        have g35 : s5 69 35 = nI V := by rw [gx.2.1 35 (by omega) (by omega) (by omega) (by omega) (by omega) (by omega) (by omega) (by omega) (by omega), S5 69 (by omega) (by omega) (by omega) (by omega) (by omega) (by omega) (by omega)]; exact eV
        unfold wkS
        rw [u_at (show 35 ≠ 3 by omega), g35]
        refine ⟨vp_in_nI hV2 (by omega), ?_⟩
        rw [cl_nI (by omega)]
        refine m_copies (by omega) (fun s6 f6 g6 => ?_)
        have u69 : ∀ j, j ≠ 3 → s6 69 j = s5 69 j := fun j hj => by rw [f6 69 (by omega), u_at hj]
        rw [u69 35 (by omega), g35, nI_1]
        rw [show (ac_u (ac_u (ac_u (ac_u s6 69 35 (nI (V + 1))) 69 39 0) 69 40 0) 69 36 0) 69 28 = nI c by rw [u_at (by omega), u_at (by omega), u_at (by omega), u_at (by omega), u69 28 (by omega)]; exact M4]
        have k7 : ∀ y, y ≠ 69 → (ac_u (ac_u (ac_u (ac_u s6 69 35 (nI (V + 1))) 69 39 0) 69 40 0) 69 36 0) y = s6 y := fun y hy => by rw [u_ne hy, u_ne hy, u_ne hy, u_ne hy]
        have k69 : ∀ j, j ≠ 35 → j ≠ 39 → j ≠ 40 → j ≠ 36 → (ac_u (ac_u (ac_u (ac_u s6 69 35 (nI (V + 1))) 69 39 0) 69 40 0) 69 36 0) 69 j = s6 69 j := fun j a b d e => by rw [u_at e, u_at d, u_at b, u_at a]
        have k35 : (ac_u (ac_u (ac_u (ac_u s6 69 35 (nI (V + 1))) 69 39 0) 69 40 0) 69 36 0) 69 35 = nI (V + 1) ∧ (ac_u (ac_u (ac_u (ac_u s6 69 35 (nI (V + 1))) 69 39 0) 69 40 0) 69 36 0) 69 39 = 0 ∧ (ac_u (ac_u (ac_u (ac_u s6 69 35 (nI (V + 1))) 69 39 0) 69 40 0) 69 36 0) 69 40 = 0 ∧ (ac_u (ac_u (ac_u (ac_u s6 69 35 (nI (V + 1))) 69 39 0) 69 40 0) 69 36 0) 69 36 = 0 := by
          refine ⟨?_, ?_, ?_, u_eq⟩
          · rw [u_at (by omega), u_at (by omega), u_at (by omega), u_eq]
          · rw [u_at (by omega), u_at (by omega), u_eq]
          · rw [u_at (by omega), u_eq]
        revert k7 k69 k35
        generalize ac_u (ac_u (ac_u (ac_u s6 69 35 (nI (V + 1))) 69 39 0) 69 40 0) 69 36 0 = s7
        intro k7 k69 k35
        have W7 : ∀ y, y ≠ 69 → y ≠ 560 + V → ¬ (476 ≤ y ∧ y ≤ 555) → s7 y = (ac_u s4 0 14 (nI r')) y := fun y y1 y2 y3 => by
          rw [k7 y y1, f6 y y2, u_ne y1, gx.1 y y1 y3]
        have V7 : ∀ j, j ≠ 0 → j ≠ 1 → j ≠ 2 → j ≠ 3 → j ≠ 4 → j ≠ 5 → j ≠ 6 → j ≠ 7 → j ≠ 8 → j ≠ 28 → j ≠ 35 → j ≠ 36 → j ≠ 39 → j ≠ 40 → s7 69 j = s 69 j := fun j j0 j1 j2 j3 j4 j5 j6 j7 j8 j28 j35 j36 j39 j40 => by
          rw [k69 j j35 j39 j40 j36, u69 j j3, gx.2.1 j j0 j1 j2 j4 j5 j6 j7 j8 j28, S5 69 (by omega) (by omega) (by omega) (by omega) (by omega) (by omega) (by omega)]
        have x7 : s7 556 = s 556 := by rw [W7 556 (by omega) (by omega) (by omega), S5 556 (by omega) (by omega) (by omega) (by omega) (by omega) (by omega) (by omega)]
        have r7 : s7 (560 + V) = fun j => if j < 83 then s 556 j else s5 (560 + V) j := by
          rw [k7 _ (by omega), g6]
          funext j
          rw [u_ne (by omega), u_ne (by omega), gx.1 556 (by omega) (by omega), S5 556 (by omega) (by omega) (by omega) (by omega) (by omega) (by omega) (by omega)]
        unfold t_X12_goes
        rw [tk_X12_goes]
        unfold w_X12_goes l_X12_goes_2
        intro P2 hP2
        have sf7 : SF s s7 := ⟨fun y hy => by
            have h' := hy
            unfold wkSt at h'
            rw [W7 y (by omega) (by omega) (by omega), S5 y (by omega) (by omega) (by omega) (by omega) (by omega) (by omega) (by omega)], V7 19 (by omega) (by omega) (by omega) (by omega) (by omega) (by omega) (by omega) (by omega) (by omega) (by omega) (by omega) (by omega) (by omega) (by omega)⟩
        refine RM 7 _ _ _ P2 (by omega) hP2 s7 ⟨sf7, fun j hj => ?_, x7, k35.2.1, k35.2.2.1, k35.2.2.2⟩ (fun s8 f8 cs8 => ?_)
        · have q := MR j (Nat.zero_le j) hj
          unfold rwS at q
          rw [k7 _ (by omega), f6 _ (by omega), u_ne (by omega)]; exact q
        have W8 : ∀ y, y ≠ 69 → y ≠ 560 + V → ¬ (476 ≤ y ∧ y ≤ 555) → y ≠ 473 → y ≠ 474 → y ≠ 556 → y ≠ 558 → s8 y = (ac_u s4 0 14 (nI r')) y := fun y y1 y2 y3 y4 y5 y6 y7 => by rw [f8.1 y y4 y5 y7 y6 y1, W7 y y1 y2 y3]
        have X8 : ∀ y, y ≠ 69 → y ≠ 560 + V → ¬ (476 ≤ y ∧ y ≤ 555) → y ≠ 473 → y ≠ 474 → y ≠ 556 → y ≠ 558 → y ≠ 0 → y ≠ 1 → y ≠ 27 → y ≠ 28 → y ≠ 58 → y ≠ 59 → (y < 37 ∨ 49 < y) → s8 y = s y := fun y y1 y2 y3 y4 y5 y6 y7 a b c d e f g => by rw [W8 y y1 y2 y3 y4 y5 y6 y7, S5 y a b c d e f g]
        have V8 : ∀ j, j ≠ 0 → j ≠ 1 → j ≠ 2 → j ≠ 3 → j ≠ 4 → j ≠ 5 → j ≠ 6 → j ≠ 7 → j ≠ 8 → j ≠ 28 → j ≠ 35 → j ≠ 36 → j ≠ 39 → j ≠ 40 → s8 69 j = s 69 j := fun j j0 j1 j2 j3 j4 j5 j6 j7 j8 j28 j35 j36 j39 j40 => by
          rw [f8.2 j j39 j40 j36, V7 j j0 j1 j2 j3 j4 j5 j6 j7 j8 j28 j35 j36 j39 j40]
        have h0 : s8 69 0 = 0 := by rw [f8.2 0 (by omega) (by omega) (by omega), k69 0 (by omega) (by omega) (by omega) (by omega), u69 0 (by omega)]; exact gx.2.2.1
        have h1 : s8 69 1 = 0 := by rw [f8.2 1 (by omega) (by omega) (by omega), k69 1 (by omega) (by omega) (by omega) (by omega), u69 1 (by omega)]; exact gx.2.2.2
        have h3 : s8 69 3 = -1 := by rw [f8.2 3 (by omega) (by omega) (by omega), k69 3 (by omega) (by omega) (by omega) (by omega), f6 69 (by omega), u_eq]
        have h35 : s8 69 35 = nI (V + 1) := by rw [f8.2 35 (by omega) (by omega) (by omega)]; exact k35.1
        have r1 : s8 1 = s1 1 := by rw [W8 1 (by omega) (by omega) (by omega) (by omega) (by omega) (by omega) (by omega), u_ne (by omega), f4.1 1 (by omega) (by omega) (by omega) (by omega), S2 1 (by omega) (by omega)]
        have r59 : s8 59 = s2 59 := by rw [W8 59 (by omega) (by omega) (by omega) (by omega) (by omega) (by omega) (by omega), u_ne (by omega), f4.1 59 (by omega) (by omega) (by omega) (by omega), u_ne (by omega)]
        have r58 : s8 58 = (ac_u s2 58 3 (nI (V + 1))) 58 := by rw [W8 58 (by omega) (by omega) (by omega) (by omega) (by omega) (by omega) (by omega), u_ne (by omega), f4.1 58 (by omega) (by omega) (by omega) (by omega)]
        have rV : s8 (560 + V) = fun j => if j < 83 then s 556 j else s5 (560 + V) j := by rw [f8.1 _ (by omega) (by omega) (by omega) (by omega) (by omega)]; exact r7
        have q59 : ∀ j, ¬ (83 * V ≤ j ∧ j < 83 * V + 83) → s8 59 j = s 59 j := fun j hj => by rw [r59, g2 j hj, Fr 59 (by omega) (nd _ (by omega))]
        have w560 : ∀ u, u < 16 → u ≠ V → s8 (560 + u) = s (560 + u) := fun u hu hne => X8 _ (by omega) (by omega) (by omega) (by omega) (by omega) (by omega) (by omega) (by omega) (by omega) (by omega) (by omega) (by omega) (by omega) (by omega)
        have q73 : s8 73 = s 73 := X8 73 (by omega) (by omega) (by omega) (by omega) (by omega) (by omega) (by omega) (by omega) (by omega) (by omega) (by omega) (by omega) (by omega) (by omega)
        refine ⟨cs8.2.2.2.2.1.symm, h0, iH_f2 iH0 (fun a ha => X8 a (by omega) (by omega) (by omega) (by omega) (by omega) (by omega) (by omega) (by omega) (by omega) (by omega) (by omega) (by omega) (by omega) (by omega)), ?_, ?_, ?_, iL_of iL0 (V8 19 (by omega) (by omega) (by omega) (by omega) (by omega) (by omega) (by omega) (by omega) (by omega) (by omega) (by omega) (by omega) (by omega) (by omega)) (by rw [X8 25 (by omega) (by omega) (by omega) (by omega) (by omega) (by omega) (by omega) (by omega) (by omega) (by omega) (by omega) (by omega) (by omega) (by omega)]) (X8 26 (by omega) (by omega) (by omega) (by omega) (by omega) (by omega) (by omega) (by omega) (by omega) (by omega) (by omega) (by omega) (by omega) (by omega)) (fun j hj => X8 _ (by omega) (by omega) (by omega) (by omega) (by omega) (by omega) (by omega) (by omega) (by omega) (by omega) (by omega) (by omega) (by omega) (by omega)), iB_f2 iB0 (fun a ha => X8 a (by omega) (by omega) (by omega) (by omega) (by omega) (by omega) (by omega) (by omega) (by omega) (by omega) (by omega) (by omega) (by omega) (by omega)) (V8 34 (by omega) (by omega) (by omega) (by omega) (by omega) (by omega) (by omega) (by omega) (by omega) (by omega) (by omega) (by omega) (by omega) (by omega)), iT_0 (by rw [r1]; exact z1) h1, ?_, ?_⟩
        · show rM _ 42 _
          rw [cs8.2.2.1]
          refine rM_un cs4.2.2.1 (fun y hy => ?_)
          rw [W8 y (by omega) (by omega) (by omega) (by omega) (by omega) (by omega) (by omega), u_ne (by omega)]
        · rw [q73, e73, cs8.2.2.1]; exact vx.1
        · rw [q73, e731, cs8.2.2.1]; exact vx.2
        · refine ⟨?_, by rw [h35]; exact nI_pos' (by omega), by rw [h35]; exact nI_le (b := 16) (by omega) (by omega), ?_, ?_, ?_, fun u hu => ⟨?_, fun lu => ?_⟩, fun j hj lj => ?_⟩
          · rw [h35, r58, u_eq]
          · rw [r58, u_at (by omega), f2 58 (by omega), Fr 58 (by omega) (nd _ (by omega)), V8 37 (by omega) (by omega) (by omega) (by omega) (by omega) (by omega) (by omega) (by omega) (by omega) (by omega) (by omega) (by omega) (by omega) (by omega)]; exact P4
          · rw [V8 37 (by omega) (by omega) (by omega) (by omega) (by omega) (by omega) (by omega) (by omega) (by omega) (by omega) (by omega) (by omega) (by omega) (by omega)]; exact P5
          · rw [V8 37 (by omega) (by omega) (by omega) (by omega) (by omega) (by omega) (by omega) (by omega) (by omega) (by omega) (by omega) (by omega) (by omega) (by omega)]; exact P6
          · by_cases eu : u = V
            · subst eu
              rw [r59, rV]
              refine iS_st.2 (stR_cong st2 (fun _ _ => rfl) (fun j hj => ?_))
              show (if 0 + j < 83 then s 556 (0 + j) else s5 (560 + u) (0 + j)) = s 556 j
              rw [Nat.zero_add, if_pos hj]
            · rw [w560 u hu eu]
              refine iS_st.2 (stR_cong (iS_st.1 (P7 u hu).1) (fun j hj => q59 _ (by omega)) (fun _ _ => rfl))
          · rw [q73]
            by_cases eu : u = V
            · subst eu
              rw [rV, e73, e731]
              exact ⟨vM_cong wX.1 (fun j hj => if_pos hj), vB_cong wX.2 (fun j hj => if_pos hj)⟩
            · rw [h35] at lu
              have := (nI_ltI (by omega) (by omega)).1 lu
              rw [w560 u hu eu]
              exact (P7 u hu).2 (by rw [eV]; exact nI_lt (by omega) (by omega))
          · rw [V8 37 (by omega) (by omega) (by omega) (by omega) (by omega) (by omega) (by omega) (by omega) (by omega) (by omega) (by omega) (by omega) (by omega) (by omega)] at lj
            rw [q73, X8 61 (by omega) (by omega) (by omega) (by omega) (by omega) (by omega) (by omega) (by omega) (by omega) (by omega) (by omega) (by omega) (by omega) (by omega), X8 60 (by omega) (by omega) (by omega) (by omega) (by omega) (by omega) (by omega) (by omega) (by omega) (by omega) (by omega) (by omega) (by omega) (by omega), X8 (577 + j) (by omega) (by omega) (by omega) (by omega) (by omega) (by omega) (by omega) (by omega) (by omega) (by omega) (by omega) (by omega) (by omega) (by omega)]
            exact P8 j hj lj
        · unfold iX
          have h00 : s8 0 = (ac_u s4 0 14 (nI r')) 0 := W8 0 (by omega) (by omega) (by omega) (by omega) (by omega) (by omega) (by omega)
          rw [r1, z6, h3, h00, u_eq, cs8.2.2.2.2.2, u_at (by omega), u_at (by omega), S4 0 (by omega) (by omega) (by omega) (by omega) (by omega) (by omega), X8 71 (by omega) (by omega) (by omega) (by omega) (by omega) (by omega) (by omega) (by omega) (by omega) (by omega) (by omega) (by omega) (by omega) (by omega)]
          exact ⟨rfl, rfl, iX0.2.2.1, iX0.2.2.2⟩
      · have key : w_X12_work (nI n) (fun b s3 => nI kd - 10 = b ∧ s3 69 0 = 0 ∧ Inv s3) s1 := by
          refine m_workR (V := V) T (fun j hj => by rw [Fr 70 (by omega) (nd _ (by omega))]; exact hb70 j hj) (by rw [Fr 69 (by omega) (nd _ (by omega))]; exact em) hm hn hnm (by rw [Fr 69 (by omega) (nd _ (by omega))]; exact eV) hV2 (by rw [Fr 73 (by omega) (nd _ (by omega))]; exact e73) (by rw [Fr 73 (by omega) (nd _ (by omega))]; exact e731) M (fun x' e2 => absurd (e.symm.trans e2) (by intro z; cases z)) (fun kd2 pl2 e2 s2 gx => ?_)
          cases e.symm.trans e2
          refine ⟨rfl, by rw [u_at (by omega)]; exact gx.2.2.1, Inv_dr i (fun a ha => ?_) (fun j hj => ?_) ?_ ?_ ?_⟩
          · have na : ¬ (a = 1 ∨ a = 69 ∨ (37 ≤ a ∧ a ≤ 41) ∨ (476 ≤ a ∧ a ≤ 555)) := fun z => by
              rw [dr_wk a (by omega) z] at ha; cases ha
            rw [u_ne (by omega), gx.1 a (by omega) (by omega), Fr a (by omega) (nd _ (by omega))]
          · rw [u_at (by omega), gx.2.1 j (by omega) (by omega) (by omega) (by omega) (by omega) (by omega) (by omega) (by omega) (by omega), Fr 69 (by omega) (nd _ (by omega))]
          · rw [u_ne (by omega), gx.1 1 (by omega) (by omega)]; exact z1
          · rw [u_at (by omega)]; exact gx.2.2.2
          · rw [u_ne (by omega), gx.1 1 (by omega) (by omega), u_eq]; exact z6
        unfold w_X10_faultAnswer
        show w_X12_work (nI n) (fun b s3 => s1 1 5 - 10 = b ∧ s3 69 0 = 0 ∧ Inv s3) s1
        rw [z5]
        exact key
    · have hV2 : V = 16 := by
        rcases Nat.lt_or_ge V 16 with z | z
        · exact absurd (nI_lt (b := 16) z (by omega)) cV
        · omega
      refine c_open (n := 0) (fun s1 f1 z1 z2 z3 z5 z6 => ?_)
      show w_X12_work (nI n) (fun b s2 => (-20 : Int32) = b ∧ s2 69 0 = 0 ∧ Inv s2) s1
      unfold w_X12_work
      have g1 : (ac_u s1 69 0 0) 69 1 = nI m := by rw [u_at (by omega), f1 69 (by omega)]; exact em
      rw [g1]
      refine m_in (fun _ _ => m_if1B ⟨fun _ => ?_, fun z => absurd (nI_le (b := 150) hn (by omega)) z⟩) (fun z => absurd ⟨nI_pos' (by omega), nI_le hnm (by omega)⟩ z)
      refine m_bad0 u_eq (m_if0B ⟨fun z => absurd ?_ z, fun _ => ⟨rfl, ?_, ?_⟩⟩)
      · rw [u_at (by omega), f1 69 (by omega), eV, hV2]; rfl
      · rw [u_at (by omega), u_at (by omega), u_eq]
      · refine Inv_dr i (fun a ha => ?_) (fun j hj => ?_) ?_ ?_ ?_
        · have na : ¬ (a = 1 ∨ a = 69 ∨ (37 ≤ a ∧ a ≤ 41) ∨ (476 ≤ a ∧ a ≤ 555)) := fun z => by
            rw [dr_wk a (by omega) z] at ha; cases ha
          rw [u_ne (by omega), u_ne (by omega), u_ne (by omega), f1 a (by omega)]
        · rw [u_at (by omega), u_at (by omega), u_at (by omega), f1 69 (by omega)]
        · rw [u_ne (by omega), u_ne (by omega), u_ne (by omega)]; exact z1
        · rw [u_at (by omega), u_eq]
        · rw [u_ne (by omega), u_ne (by omega), u_ne (by omega), u_eq]; exact z6
  · unfold w_X12_work
    rw [u_at (show 1 ≠ 0 by omega), u_ne (show 69 ≠ 0 by omega), em]
    have fin : ∀ Z : ac_m → Prop, w_X12_bad (1 : Int32) (1 : Int32) (1 : Int32) (fun r31 s31 => (r31 = 0 → Z s31) ∧ (¬ r31 = 0 → (thA "java/lang/IllegalArgumentException" (s31 69 0) ∧ Inv s31))) (ac_u (ac_u s 0 16 (s 0 16 + 1)) 69 0 0) := fun Z => m_bad1 u_eq (by decide) in2_1 (m_if1B ⟨⟨rfl, bad_69⟩, Inv_bad1 i⟩)
    refine m_in (fun a b => m_if1B ⟨fun z => absurd ⟨a, ?_⟩ h, fun _ => fin _⟩) (fun _ => m_if0B (fin _))
    by_cases c : (150 : Int32) < nI m
    · rw [if_pos c]; exact z
    · rw [if_neg c]; exact b
