/-! RESTORE -/
theorem s_restore (s : ac_m) (i : Inv s) : sim0 w_X11_restore w_X12_restore s := by
  obtain ⟨iH0, iM0, vM0, vB0, iL0, iB0, iT0, iP0, iX0⟩ := id i
  obtain ⟨p1, p2, p3, p4, p5, p6, p7, p8⟩ := iP0
  obtain ⟨n, hn, en⟩ := nI_of2 (M := 3) (n := 3) rfl (show ¬ s 69 37 < 0 by grind) p6
  unfold sim0 w_X11_restore w_X6_useImage
  rw [p4, en]
  have t0 : ∀ (s1 : ac_m) j, j ≠ 0 → (ac_u s1 69 0 0) 69 j = s1 69 j := fun s1 j hj => u_at hj
  rcases Nat.eq_zero_or_pos n with z | z
  · subst z
    refine ⟨fun _ => m_if0A ?_, fun h => absurd (by decide) h⟩
    show w_X12_restore (fun b s2 => (-1 : Int32) = b ∧ s2 69 0 = 0 ∧ Inv s2) s
    unfold w_X12_restore
    rw [t0 s 37 (by omega), en]
    exact ⟨fun h => absurd rfl h, fun _ => ⟨rfl, u_eq, Inv_0 i⟩⟩
  · obtain ⟨k, ek⟩ : ∃ k, n = k + 1 := ⟨n - 1, by omega⟩
    subst ek
    have ed : nI (k + 1) - (1 : Int32) = nI k := nI_pred k
    have em : nI k * (1411 : Int32) = nI (1411 * k) := by rw [show (1411 : Int32) = nI 1411 from rfl, nI_mul, Nat.mul_comm]
    have ea : nI (1411 * k) + (1328 : Int32) = nI (1411 * k + 1328) := nI_add _ 1328
    have T0 : (0 : Int32).toNatClampNeg = 0 := rfl
    have T1 : (1328 : Int32).toNatClampNeg = 1328 := rfl
    rw [ed, u_eq, em, ea, T0, T1, cl_nI (n := 1411 * k) (by omega)]
    have q := p8 k (by omega) (by rw [en]; exact nI_lt (by omega) (by omega))
    obtain ⟨q1, q2, q3, q4, q5, q6, q7⟩ := q
    obtain ⟨o, ho, eo⟩ := nI_of2 (M := 16) (n := 16) rfl (show ¬ s 61 k < 0 by grind) q3
    refine ⟨fun h => absurd h (nI_nle z (by omega)), fun _ => ⟨fun _ => ⟨⟨nI_pos (by omega), by decide, by decide, by omega, by omega⟩, ?_⟩, fun h => absurd (nI_le (b := 3) hn (by omega)) h⟩⟩
    have m0 : stR ((ac_cp (ac_u s 58 4 (nI k)) 60 59 (1411 * k) 0 1328) 60) (1411 * k + 1328) (fun j => s (577 + k) (1 + j)) := by
      rw [cp_ne (by omega), u_ne (by omega)]; exact iS_st.1 q4
    refine c_load (by omega) (by omega) (by omega) m0 (fun s1 f1 g1 m1 => ?_)
    have e58 : s1 58 4 = nI k := by rw [f1 58 (by omega), cp_ne (by omega), u_eq]
    have e61 : s1 61 = s 61 := by rw [f1 61 (by omega), cp_ne (by omega), u_ne (by omega)]
    rw [e58, e61, cl_nI (n := k) (by omega), eo]
    refine ⟨vp_in_nI (by omega) (by omega), m_if1A ?_⟩
    have e84 : (ac_u (ac_u s1 58 3 (nI o)) 0 14 0) 58 4 = nI k := by rw [u_ne (by omega), u_at (by omega), e58]
    rw [e84]
    show w_X12_restore (fun b s2 => nI k = b ∧ s2 69 0 = 0 ∧ Inv s2) (ac_u (ac_u s1 58 3 (nI o)) 0 14 0)
    have X69 : (ac_u (ac_u s1 58 3 (nI o)) 0 14 0) 69 = s 69 := by rw [u_ne (by omega), u_ne (by omega), f1 69 (by omega), cp_ne (by omega), u_ne (by omega)]
    unfold w_X12_restore
    rw [t0 _ 37 (by omega), X69, en, ed, u_eq, cl_nI (by omega)]
    refine ⟨fun _ => ⟨vp_in_nI (by omega) (by omega), m_putsR (by omega) (fun s2 q2' => ?_)⟩, fun h => absurd h (nI_ne0 z (by omega))⟩
    obtain ⟨a1, a2, a3, a4, a5, a6⟩ := q2'
    have B1 : ∀ y, y ≠ 69 → y ≠ 0 → y ≠ 58 → (y < 42 ∨ 47 < y) → y ≠ 59 → (ac_u (ac_u (ac_u (ac_u s1 58 3 (nI o)) 0 14 0) 69 0 0) 69 37 (nI k)) y = s y := by
      intro y y1 y2 y3 y4 y5
      rw [u_ne y1, u_ne y1, u_ne y2, u_ne y3, f1 y (by omega), cp_ne y5, u_ne y3]
    have B69 : ∀ j, (ac_u (ac_u (ac_u (ac_u s1 58 3 (nI o)) 0 14 0) 69 0 0) 69 37 (nI k)) 69 j = if j = 37 then nI k else if j = 0 then 0 else s 69 j := by
      intro j
      by_cases c : j = 37
      · rw [if_pos c, c, u_eq]
      · rw [if_neg c, u_at c]
        by_cases d : j = 0
        · rw [if_pos d, d, u_eq]
        · rw [if_neg d, t0 _ j d, X69]
    have K577 : (ac_u (ac_u (ac_u (ac_u s1 58 3 (nI o)) 0 14 0) 69 0 0) 69 37 (nI k)) (577 + k) = s (577 + k) := B1 _ (by omega) (by omega) (by omega) (by omega) (by omega)
    have e37 : s2 69 37 = nI k := by rw [a2 37 (by omega) (by omega), B69, if_pos rfl]
    rw [u_at (show 37 ≠ 36 by omega), e37]
    have T : ∀ j, j ≠ 38 → (ac_u s2 69 36 0) 69 j = if j = 36 then 0 else if j = 35 then nI o else if j = 37 then nI k else if j = 0 then 0 else s 69 j := by
      intro j hj
      by_cases c : j = 36
      · rw [if_pos c, c, u_eq]
      · rw [if_neg c, u_at c]
        by_cases d : j = 35
        · rw [if_pos d, d, a4 (by omega), K577, ← q1, eo]
        · rw [if_neg d, a2 j hj d, B69]
    have R : ∀ y, y ≠ 69 → y ≠ 0 → y ≠ 58 → (y < 42 ∨ 47 < y) → y ≠ 59 → y ≠ 556 → (y < 560 ∨ 575 < y) → (ac_u s2 69 36 0) y = s y := by
      intro y y1 y2 y3 y4 y5 y6 y7
      rw [u_ne y1, a1 y y1 y6 y7]; exact B1 y y1 y2 y3 y4 y5
    have R556 : ∀ j, j < 83 → (ac_u s2 69 36 0) 556 j = s (577 + k) (1 + j) := by
      intro j hj
      rw [u_ne (by omega), a5 j hj (by omega), K577]
    have RW : ∀ w, w < 16 → ∀ j, j < 83 → (ac_u s2 69 36 0) (560 + w) j = s (577 + k) (84 + 83 * w + j) := by
      intro w hw j hj
      rw [u_ne (by omega), a6 w hw j hj (by omega), K577]
    have R59 : ∀ j, j < 1328 → (ac_u s2 69 36 0) 59 j = s 60 (1411 * k + j) := by
      intro j hj
      rw [u_ne (by omega), a1 59 (by omega) (by omega) (by omega), u_ne (by omega), u_ne (by omega), u_ne (by omega), u_ne (by omega), f1 59 (by omega), cp_in (by omega) (by omega), u_ne (by omega), Nat.sub_zero]
    have R58 : ∀ j, (ac_u s2 69 36 0) 58 j = if j = 3 then nI o else if j = 4 then nI k else s 58 j := by
      intro j
      rw [u_ne (by omega), a1 58 (by omega) (by omega) (by omega), u_ne (by omega), u_ne (by omega), u_ne (by omega)]
      by_cases c : j = 3
      · rw [if_pos c, c, u_eq]
      · rw [if_neg c, u_at c, f1 58 (by omega), cp_ne (by omega)]
        by_cases d : j = 4
        · rw [if_pos d, d, u_eq]
        · rw [if_neg d, u_at d]
    have R0 : ∀ j, (ac_u s2 69 36 0) 0 j = if j = 14 then 0 else s 0 j := by
      intro j
      rw [u_ne (by omega), a1 0 (by omega) (by omega) (by omega), u_ne (by omega), u_ne (by omega)]
      by_cases c : j = 14
      · rw [if_pos c, c, u_eq]
      · rw [if_neg c, u_at c, u_ne (by omega), f1 0 (by omega), cp_ne (by omega), u_ne (by omega)]
    have RM : rM (ac_u s2 69 36 0) 42 (fun j => s (577 + k) (1 + j)) := by
      refine rM_fr (s := s1) (fun j hj => ?_) m1
      rw [u_ne (by omega), a1 _ (by omega) (by omega) (by omega), u_ne (by omega), u_ne (by omega), u_ne (by omega), u_ne (by omega)]
    have e73 : (ac_u s2 69 36 0) 73 = s 73 := R 73 (by omega) (by omega) (by omega) (by omega) (by omega) (by omega) (by omega)
    refine ⟨rfl, by rw [T 0 (by omega), if_neg (by omega), if_neg (by omega), if_neg (by omega), if_pos rfl], iH_fr iH0 (fun a ha => R a (by omega) (by omega) (by omega) (by omega) (by omega) (by omega) (by omega)), ?_, ?_, ?_, iL_of iL0 ?_ ?_ ?_ (fun j hj => R _ (by omega) (by omega) (by omega) (by omega) (by omega) (by omega) (by omega)), iB_fr iB0 (fun a ha => R a (by omega) (by omega) (by omega) (by omega) (by omega) (by omega) (by omega)) ?_, iT_fr iT0 ?_ ?_ ?_ ?_, ⟨?_, ?_, ?_, ?_, ?_, ?_, fun w hw => ?_, fun j hj hl => ?_⟩, ?_⟩
    · show rM _ 42 _
      exact rM_cong RM (fun j hj => (R556 j hj).symm)
    · rw [e73]; exact vM_cong q5 R556
    · rw [e73]; exact vB_cong q6 R556
    · rw [T 19 (by omega), if_neg (by omega), if_neg (by omega), if_neg (by omega), if_neg (by omega)]
    · rw [R 25 (by omega) (by omega) (by omega) (by omega) (by omega) (by omega) (by omega)]
    · rw [R 26 (by omega) (by omega) (by omega) (by omega) (by omega) (by omega) (by omega)]
    · rw [T 34 (by omega), if_neg (by omega), if_neg (by omega), if_neg (by omega), if_neg (by omega)]
    · rw [R 1 (by omega) (by omega) (by omega) (by omega) (by omega) (by omega) (by omega)]
    · rw [R 2 (by omega) (by omega) (by omega) (by omega) (by omega) (by omega) (by omega)]
    · rw [R 70 (by omega) (by omega) (by omega) (by omega) (by omega) (by omega) (by omega)]
    · rw [T 1 (by omega), if_neg (by omega), if_neg (by omega), if_neg (by omega), if_neg (by omega)]
    · rw [R58, if_pos rfl, T 35 (by omega), if_neg (by omega), if_pos rfl]
    · rw [T 35 (by omega), if_neg (by omega), if_pos rfl]; exact nI_pos' (by omega)
    · rw [T 35 (by omega), if_neg (by omega), if_pos rfl]; exact nI_le (b := 16) ho (by omega)
    · rw [R58, if_neg (by omega), if_pos rfl, T 37 (by omega), if_neg (by omega), if_neg (by omega), if_pos rfl]
    · rw [T 37 (by omega), if_neg (by omega), if_neg (by omega), if_pos rfl]; exact nI_pos' (by omega)
    · rw [T 37 (by omega), if_neg (by omega), if_neg (by omega), if_pos rfl]; exact nI_le (b := 3) (by omega) (by omega)
    · rw [e73, T 35 (by omega), if_neg (by omega), if_pos rfl]
      have w7 := q7 w hw
      refine ⟨iS_st.2 ?_, fun hl => ?_⟩
      · refine stR_cong (stR_move (X' := (ac_u s2 69 36 0) 59) (p' := 83 * w) (iS_st.1 w7.1) (fun j hj => ?_)) (fun _ _ => rfl) (fun j hj => ?_)
        · rw [R59 _ (by omega)]
          congr 1
          omega
        · show (ac_u s2 69 36 0) (560 + w) (0 + j) = _
          rw [Nat.zero_add, RW w hw j hj]
      · have v := w7.2 (by rw [eo]; exact hl)
        exact ⟨vM_cong v.1 (RW w hw), vB_cong v.2 (RW w hw)⟩
    · rw [T 37 (by omega), if_neg (by omega), if_neg (by omega), if_pos rfl] at hl
      have jl := (nI_ltI (by omega) (by omega)).1 hl
      rw [e73, R 61 (by omega) (by omega) (by omega) (by omega) (by omega) (by omega) (by omega), R 60 (by omega) (by omega) (by omega) (by omega) (by omega) (by omega) (by omega), R (577 + j) (by omega) (by omega) (by omega) (by omega) (by omega) (by omega) (by omega)]
      exact p8 j hj (by rw [en]; exact nI_lt (by omega) (by omega))
    · unfold iX
      rw [R 1 (by omega) (by omega) (by omega) (by omega) (by omega) (by omega) (by omega), R0, R0, R0, R 71 (by omega) (by omega) (by omega) (by omega) (by omega) (by omega) (by omega), T 3 (by omega), T 36 (by omega), if_neg (by omega), if_neg (by omega), if_neg (by omega), if_neg (by omega), if_pos rfl, if_pos rfl, if_neg (by omega), if_neg (by omega)]
      exact ⟨iX0.1, rfl, iX0.2.2.1, iX0.2.2.2⟩
