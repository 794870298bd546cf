/-! LAW: the unit in both readers -/
theorem EX_word {t : Nat → Nat} {n d q i : Nat} {D : List Nat} {v : Int32} {x : lPc} {Rs : Int32 → (Int32 → ac_m → Prop) → ac_m → Prop} {Rm : (ac_m → Prop) → ac_m → Prop} (T0 : okT t n) (n150 : n ≤ 150) (hd : d ≤ 6) (pf : d < 6 → PF Rm) (IH : d < 6 → ∀ q, q ≤ n → skb t n q = q → EX t n (d + 1) 0 0 0 1 (Rs (nI (d + 1))) Rm q) (hq : q ≤ n) (qq : skb t n q = q)
    (hv : v = lc x.1 x.2) (hx : lOK x.1 x.2) (x0 : x.2 = 0) (hr : ∀ h, lRn (h + 2) [x] = some (h + 1)) (w : isW i D) (hD : 0 < D.length) (h : wdA t n q i) :
    ∃ o, (∀ (Q : Int32 → ac_m → Prop) (s s1 : ac_m) (c : Nat), CT s t n → mv s s1 (q + (ac_sb i).length) q → s 29 3 = nI c → c + 0 ≤ q → (∀ q' l, o = .inr (q', l) → ∀ s', okC t n s s' c q' l → Q 1 s') → (∀ kd pl, o = .inl (kd, pl) → ∀ s', badC s s' kd pl → Q 0 s') → w_X4_readPair (nI d) v (fun r s => ac_bo r ∧ Q r s) Rs s1)
      ∧ (∀ (Q : ac_m → Prop) (s s1 : ac_m) (c : Nat), MT s t n → mvM s s1 q → s 69 5 = 0 → s 69 8 = nI d → s 69 20 = nI c → c + 0 ≤ q → (∀ q' l, o = .inr (q', l) → ∀ s', okM t n s s' c q' l → Q s') → (∀ kd pl, o = .inl (kd, pl) → ∀ s', badM n s s' kd pl → Q s') → mPr x.1 Q Rm s1) ∧ gO t n 0 0 0 1 q o := by
  have le := wd_le T0 w hq h
  have len : 0 < (ac_sb i).length := by rw [w.1]; exact hD
  have rlq := wd_len T0 w h
  rcases Nat.lt_or_ge d 6 with h6 | h6
  · have sk := skb_le' (t := t) (n := n) (p := q + (ac_sb i).length) le
    obtain ⟨o, C, M, G⟩ := EX_pair n150 (pf h6) (IH h6) hv hx hr sk.2.1
    refine ⟨o, ?_, ?_, ?_, G.2⟩
    · intro Q s s1 c T m1 e29 hc hS hF
      have ok1 := okC_mv (t := t) e29 le m1
      unfold w_X4_readPair
      refine ⟨fun _ => ?_, fun z => absurd (nI_lt (b := 6) h6 (by omega)) z⟩
      rw [nI_1]
      exact C (fun r s => ac_bo r ∧ Q r s) s1 _ c (CT_mv T m1) le rfl m1.2.2.1 (by rw [m1.1 29 (by omega)]; exact e29) (by omega) (fun q' l eo s' ok => ⟨bo_1, hS q' l eo s' (ok1.trans ok)⟩) (fun kd pl eo s' bd => ⟨bo_0, hF kd pl eo s' (okC_bad ok1 bd)⟩)
    · intro Q s s1 c T m1 e5 e8 e20 hc hS hF
      have g (j : Nat) (hj : j ≠ 4) : s1 69 j = s 69 j := m1.2.1 j hj
      unfold mPr
      refine m_opensL (n := n) (by rw [g 5 (by omega)]; exact e5) (by rw [g 8 (by omega)]; exact e8) hd m1.2.2 hq (fun _ => m_if1A ?_) (fun z => by omega)
      have T2 : MT (ac_u s1 69 8 (nI (d + 1))) t n := by
        have := MT_mv T m1
        exact ⟨by rw [u_at (by omega)]; exact this.1, this.2.1, fun j hj => by rw [u_ne (by omega)]; exact this.2.2 j hj⟩
      refine m_skipWord T2 hq (by rw [u_at (by omega)]; exact m1.2.2) (fun s3 m3 => ?_)
      rw [rlq] at m3
      have f : frM s s3 := ⟨fun y y1 _ => by rw [m3.1 y y1, u_ne y1, m1.1 y y1], fun j j4 _ _ j8 _ => by rw [m3.2.1 j j4, u_at j8, g j j4]⟩
      have r : ∀ j, s3 (299 + j) = s (299 + j) := fun j => by rw [m3.1 _ (by omega), u_ne (by omega), m1.1 _ (by omega)]
      have e38 : s3 69 8 = nI (d + 1) := by rw [m3.2.1 8 (by omega), u_eq]
      have e35 : s3 69 5 = s 69 5 := by rw [m3.2.1 5 (by omega), u_at (by omega), g 5 (by omega)]
      have e36 : s3 69 6 = s 69 6 := by rw [m3.2.1 6 (by omega), u_at (by omega), g 6 (by omega)]
      have := M (fun s' => Q (ac_u s' 69 8 (s' 69 8 - 1))) s3 _ c (frM_MT T f) le rfl m3.2.2 (e35.trans e5) e38 (by rw [m3.2.1 20 (by omega), u_at (by omega), g 20 (by omega)]; exact e20) (by omega) (fun q' l eo s' ok => hS q' l eo _ (okM_dep f e35 e36 e38 e8 r ok)) (fun kd pl eo s' bd => hF kd pl eo _ (badM_dep f bd))
      rw [x0] at this
      exact this
    · intro q' l eo
      obtain ⟨g1, g2, g3⟩ := G.1 q' l eo
      exact ⟨by omega, by omega, g3⟩
  · refine ⟨.inl (3, q), ?_, ?_, fun _ _ eo => (by cases eo), fun _ _ eo => by cases eo; omega⟩
    · intro Q s s1 c T m1 e29 hc hS hF
      unfold w_X4_readPair
      refine ⟨fun z => absurd z (nI_nlt (b := 6) h6 (by omega)), fun _ => ?_⟩
      exact c_fail (kd := 3) m1.2.2.2 (fun s2 f2 => ⟨bo_0, bo_0, hF 3 q rfl s2 (bad_fl (fl_mv m1 f2))⟩)
    · intro Q s s1 c T m1 e5 e8 e20 hc hS hF
      unfold mPr
      refine m_opensL (n := n) (by rw [m1.2.1 5 (by omega)]; exact e5) (by rw [m1.2.1 8 (by omega)]; exact e8) hd m1.2.2 hq (fun z => by omega) (fun _ s2 f2 => m_if0A (hF 3 q rfl s2 (bad_flM (flM_mv m1 f2))))
theorem EX_unit {t : Nat → Nat} {n d q : Nat} {Rs : Int32 → (Int32 → ac_m → Prop) → ac_m → Prop} {Rm : (ac_m → Prop) → ac_m → Prop} (T0 : okT t n) (n150 : n ≤ 150) (hd : d ≤ 6) (pf : d < 6 → PF Rm) (IH : d < 6 → ∀ q, q ≤ n → skb t n q = q → EX t n (d + 1) 0 0 0 1 (Rs (nI (d + 1))) Rm q) (hq : q ≤ n) (qq : skb t n q = q) :
    EX t n d 0 0 0 1 (fun Q s => w_X4_readUnit (nI d) Q Rs s) (fun Q s => w_X12_one Q Rm s) q := by
  have W : ∀ {i D}, isW i D → 0 < D.length → wdA t n q i → sml (ch t n q) := fun w hD h => wd_sml T0 w hD h
  have W4 : wdA t n q 4 → sml (ch t n q) := W wd4 (by decide)
  have W5 : wdA t n q 5 → sml (ch t n q) := W wd5 (by decide)
  have WF : ∀ j, j < 8 → wdA t n q (6 + j) → sml (ch t n q) := fun j hj h => by
    obtain ⟨D, w, hD⟩ := fct_W j hj
    exact W w hD h
  have lR1 : ∀ (x : lPc), x.1 < 2 → ∀ h, lRn (h + 0) [x] = some (h + 1) := fun x hx h => by
    rw [lRn, if_pos hx]; rfl
  by_cases cd : dg (ch t n q)
  · have no : ¬ sml (ch t n q) := fun y => by unfold sml at y; unfold dg at cd; omega
    have n40 : ch t n q ≠ 40 := fun y => by unfold dg at cd; omega
    have le := nmE_gt cd
    have bd := nmV_bd (t := t) (n := n) (p := q)
    have sk := skb_le' (t := t) (n := n) (p := nmE t n q) le.2
    by_cases c9 : nmV t n q ≤ 999
    · refine ⟨.inr (skb t n (nmE t n q), [(0, nI (nmV t n q))]), ?_, ?_, ?_, fun _ _ eo => by cases eo⟩
      · intro Q s p c T hp hq' e3 e29 hc hS hF
        refine c_unit T hp hq' e3 (fun _ s1 m1 => ?_) (fun y => absurd y n40) (fun y => absurd (W4 y) no) (fun _ y => absurd (W5 y) no) (fun j hj _ _ y => absurd (WF j hj y) no) (fun y => absurd cd y)
        refine c_num (CT_mv T m1) hq m1.2.2.1 ?_ ?_ ?_
        · rw [qq]
          intro _ _ _ s2 m2
          have M := m1.trans m2
          refine ⟨fun z => ?_, fun _ => c_putL (t := t) (n := n) (q := skb t n (nmE t n q)) (c := c) (x := (0, nI (nmV t n q))) (by rw [M.1 29 (by omega)]; exact e29) (by omega) rfl ⟨_, le.2, rfl, M.2.2.1⟩ (fun s' ok => m_if1B (hS _ _ rfl s' ((okC_mv e29 le.2 M).trans ok)))⟩
          have p0 := nI_pos' (n := nmV t n q) (by omega)
          rw [z] at p0
          exact absurd p0 (by decide)
        · rw [qq]; exact fun y => absurd cd y
        · rw [qq]; exact fun _ y => absurd ⟨nI_pos (by omega), nI_le (b := 999) c9 (by omega)⟩ y
      · intro Q s p c T hp hq' e4 e5 e8 e20 hc hS hF
        refine m_unit T hp hq' e4 e5 (fun y => absurd y n40) (fun y => absurd (W4 y) no) (fun _ y => absurd (W5 y) no) (fun j hj _ _ y => absurd (WF j hj y) no) (fun _ _ _ _ s1 m1 => ?_)
        refine m_num (MT_mv T m1) hq m1.2.2 ((m1.2.1 5 (by omega)).trans e5) ?_ ?_ ?_
        · rw [qq]
          intro _ _ _ s2 m2
          have M := m1.trans m2
          exact m_notesL (t := t) (n := n) (q := skb t n (nmE t n q)) (c := c) (x := (0, nI (nmV t n q))) ((M.2.1 5 (by omega)).trans e5) ((M.2.1 20 (by omega)).trans e20) (by omega) ⟨_, le.2, rfl, M.2.2⟩ (fun s' ok => hS _ _ rfl s' ((okM_mv e20 le.2 M).trans ok))
        · rw [qq]; exact fun y => absurd cd y
        · rw [qq]; exact fun _ y => absurd ⟨nI_pos (by omega), nI_le (b := 999) c9 (by omega)⟩ y
      · intro q' l eo
        cases eo
        refine ⟨by rw [List.length_singleton]; omega, by omega, sk.2.1, skb_0 sk.2.2, fun x hx => ?_, lR1 _ (show (0 : Int32) < 2 by decide)⟩
        rw [List.mem_singleton] at hx
        rw [hx]
        exact .inl ⟨rfl, nI_pos' (by omega), nI_le (b := 999) c9 (by omega)⟩
    · refine ⟨.inl (2, q), ?_, ?_, fun _ _ eo => (by cases eo), fun _ _ eo => by cases eo; omega⟩
      · intro Q s p c T hp hq' e3 e29 hc hS hF
        refine c_unit T hp hq' e3 (fun _ s1 m1 => ?_) (fun y => absurd y n40) (fun y => absurd (W4 y) no) (fun _ y => absurd (W5 y) no) (fun j hj _ _ y => absurd (WF j hj y) no) (fun y => absurd cd y)
        refine c_num (CT_mv T m1) hq m1.2.2.1 ?_ ?_ ?_
        · rw [qq]; exact fun _ _ y => absurd ((nI_leI (b := 999) (by omega) (by omega)).1 y) c9
        · rw [qq]; exact fun y => absurd cd y
        · rw [qq]; exact fun _ _ s2 f2 => ⟨fun _ => hF 2 q rfl s2 (bad_fl (fl_mv m1 f2)), fun z => absurd rfl z⟩
      · intro Q s p c T hp hq' e4 e5 e8 e20 hc hS hF
        refine m_unit T hp hq' e4 e5 (fun y => absurd y n40) (fun y => absurd (W4 y) no) (fun _ y => absurd (W5 y) no) (fun j hj _ _ y => absurd (WF j hj y) no) (fun _ _ _ _ s1 m1 => ?_)
        refine m_num (MT_mv T m1) hq m1.2.2 ((m1.2.1 5 (by omega)).trans e5) ?_ ?_ ?_
        · rw [qq]; exact fun _ _ y => absurd ((nI_leI (b := 999) (by omega) (by omega)).1 y) c9
        · rw [qq]; exact fun y => absurd cd y
        · rw [qq]; exact fun _ _ s2 f2 => PF_notes _ _ (by rw [f2.2.2.1]; decide) (hF 2 q rfl s2 (bad_flM (flM_mv m1 f2)))
  · by_cases c40 : ch t n q = 40
    · have no : ¬ sml (ch t n q) := fun y => by unfold sml at y; omega
      have ql : q + 1 ≤ n := by
        rcases Nat.lt_or_ge q n with z | z
        · exact z
        · rw [ch_end z] at c40; omega
      have sk := skb_le' (t := t) (n := n) (p := q + 1) ql
      rcases Nat.lt_or_ge d 6 with h6 | h6
      · obtain ⟨o, C, M, G⟩ := EX_paren (IH h6) sk.2.1 (skb_0 sk.2.2)
        refine ⟨o, ?_, ?_, ?_, G.2⟩
        · intro Q s p c T hp hq' e3 e29 hc hS hF
          refine c_unit T hp hq' e3 (fun y => absurd y cd) (fun _ s1 m1 => ?_) (fun y => absurd (W4 y) no) (fun _ y => absurd (W5 y) no) (fun j hj _ _ y => absurd (WF j hj y) no) (fun _ y => absurd c40 y)
          have ok1 := okC_mv (t := t) e29 ql m1
          refine ⟨fun _ => ?_, fun z => absurd (nI_lt (b := 6) h6 (by omega)) z⟩
          rw [nI_1]
          exact C Q s1 _ c (CT_mv T m1) ql rfl m1.2.2.1 (by rw [m1.1 29 (by omega)]; exact e29) (by omega) (fun q' l eo s' ok => hS q' l eo s' (ok1.trans ok)) (fun kd pl eo s' bd => hF kd pl eo s' (okC_bad ok1 bd))
        · intro Q s p c T hp hq' e4 e5 e8 e20 hc hS hF
          refine m_unit T hp hq' e4 e5 (fun _ s1 m1 => ?_) (fun y => absurd (W4 y) no) (fun _ y => absurd (W5 y) no) (fun j hj _ _ y => absurd (WF j hj y) no) (fun y => absurd c40 y)
          have g (j : Nat) (hj : j ≠ 4) : s1 69 j = s 69 j := m1.2.1 j hj
          refine m_opensL (n := n) (by rw [g 5 (by omega)]; exact e5) (by rw [g 8 (by omega)]; exact e8) hd m1.2.2 hq (fun _ => m_if1A ?_) (fun z => by omega)
          rw [u_at (by omega), m1.2.2, nI_1]
          have f : frM s (ac_u (ac_u s1 69 8 (nI (d + 1))) 69 4 (nI (q + 1))) := ⟨fun y y1 _ => by rw [u_ne y1, u_ne y1, m1.1 y y1], fun j j4 _ _ j8 _ => by rw [u_at j4, u_at j8, g j j4]⟩
          have k (j : Nat) (j4 : j ≠ 4) (j8 : j ≠ 8) : (ac_u (ac_u s1 69 8 (nI (d + 1))) 69 4 (nI (q + 1))) 69 j = s 69 j := by rw [u_at j4, u_at j8, g j j4]
          have e38 : (ac_u (ac_u s1 69 8 (nI (d + 1))) 69 4 (nI (q + 1))) 69 8 = nI (d + 1) := by rw [u_at (by omega), u_eq]
          exact M (fun s' => Q (ac_u s' 69 8 (s' 69 8 - 1))) _ _ c (frM_MT T f) ql rfl u_eq ((k 5 (by omega) (by omega)).trans e5) e38 ((k 20 (by omega) (by omega)).trans e20) (by omega) (fun q' l eo s' ok => hS q' l eo _ (okM_dep f (k 5 (by omega) (by omega)) (k 6 (by omega) (by omega)) e38 e8 (fun j => by rw [u_ne (by omega), u_ne (by omega), m1.1 _ (by omega)]) ok)) (fun kd pl eo s' bd => hF kd pl eo _ (badM_dep f bd))
        · intro q' l eo
          obtain ⟨g1, g2, g3⟩ := G.1 q' l eo
          exact ⟨by omega, by omega, g3⟩
      · refine ⟨.inl (3, q), ?_, ?_, fun _ _ eo => (by cases eo), fun _ _ eo => by cases eo; omega⟩
        · intro Q s p c T hp hq' e3 e29 hc hS hF
          refine c_unit T hp hq' e3 (fun y => absurd y cd) (fun _ s1 m1 => ?_) (fun y => absurd (W4 y) no) (fun _ y => absurd (W5 y) no) (fun j hj _ _ y => absurd (WF j hj y) no) (fun _ y => absurd c40 y)
          refine ⟨fun z => absurd z (nI_nlt (b := 6) h6 (by omega)), fun _ => ?_⟩
          exact c_fail (kd := 3) m1.2.2.2 (fun s2 f2 => ⟨bo_0, hF 3 q rfl s2 (bad_fl (fl_mv m1 f2))⟩)
        · intro Q s p c T hp hq' e4 e5 e8 e20 hc hS hF
          refine m_unit T hp hq' e4 e5 (fun _ s1 m1 => ?_) (fun y => absurd (W4 y) no) (fun _ y => absurd (W5 y) no) (fun j hj _ _ y => absurd (WF j hj y) no) (fun y => absurd c40 y)
          exact m_opensL (n := n) (by rw [m1.2.1 5 (by omega)]; exact e5) (by rw [m1.2.1 8 (by omega)]; exact e8) hd m1.2.2 hq (fun z => by omega) (fun _ s2 f2 => m_if0A (hF 3 q rfl s2 (bad_flM (flM_mv m1 f2))))
    · have opr : ∀ (x : lPc), ¬ x.1 < 2 → ∀ h, lRn (h + 2) [x] = some (h + 1) := fun x hx h => by
        rw [lRn, if_neg hx, if_pos (by omega)]; rfl
      by_cases w4 : wdA t n q 4
      · obtain ⟨o, C, M, G⟩ := EX_word (v := -14) (x := (7, 0)) T0 n150 hd pf IH hq qq (by decide) (.inr (.inr (by decide))) rfl (opr _ (by decide)) wd4 (by decide) w4
        refine ⟨o, ?_, ?_, G⟩
        · intro Q s p c T hp hq' e3 e29 hc hS hF
          exact c_unit T hp hq' e3 (fun y => absurd y cd) (fun y => absurd y c40) (fun _ s1 m1 => C Q s s1 c T m1 e29 hc hS hF) (fun y => absurd w4 y) (fun _ _ y => absurd w4 y) (fun _ _ y => absurd w4 y)
        · intro Q s p c T hp hq' e4 e5 e8 e20 hc hS hF
          exact m_unit T hp hq' e4 e5 (fun y => absurd y c40) (fun _ s1 m1 => M Q s s1 c T m1 e5 e8 e20 hc hS hF) (fun y => absurd w4 y) (fun _ _ y => absurd w4 y) (fun _ y => absurd w4 y)
      · by_cases w5 : wdA t n q 5
        · obtain ⟨o, C, M, G⟩ := EX_word (v := -15) (x := (8, 0)) T0 n150 hd pf IH hq qq (by decide) (.inr (.inr (by decide))) rfl (opr _ (by decide)) wd5 (by decide) w5
          refine ⟨o, ?_, ?_, G⟩
          · intro Q s p c T hp hq' e3 e29 hc hS hF
            exact c_unit T hp hq' e3 (fun y => absurd y cd) (fun y => absurd y c40) (fun y => absurd y w4) (fun _ _ s1 m1 => C Q s s1 c T m1 e29 hc hS hF) (fun _ _ _ y => absurd w5 y) (fun _ _ _ y => absurd w5 y)
          · intro Q s p c T hp hq' e4 e5 e8 e20 hc hS hF
            exact m_unit T hp hq' e4 e5 (fun y => absurd y c40) (fun y => absurd y w4) (fun _ _ s1 m1 => M Q s s1 c T m1 e5 e8 e20 hc hS hF) (fun _ _ _ y => absurd w5 y) (fun _ _ y => absurd w5 y)
        · by_cases wf : ∃ j, j < 8 ∧ wdA t n q (6 + j)
          · obtain ⟨j, hj, wj, lj⟩ := leastP (P := fun j => wdA t n q (6 + j)) 8 wf
            obtain ⟨D, w, hD⟩ := fct_W j hj
            have le := wd_le T0 w hq wj
            have len : 0 < (ac_sb (6 + j)).length := by rw [w.1]; exact hD
            have sk := skb_le' (t := t) (n := n) (p := q + (ac_sb (6 + j)).length) le
            have nE : ¬ ∀ i, i < 8 → ¬ wdA t n q (6 + i) := fun a => a j hj wj
            refine ⟨.inr (skb t n (q + (ac_sb (6 + j)).length), [(1, nI j)]), ?_, ?_, ?_, fun _ _ eo => by cases eo⟩
            · intro Q s p c T hp hq' e3 e29 hc hS hF
              refine c_unit T hp hq' e3 (fun y => absurd y cd) (fun y => absurd y c40) (fun y => absurd y w4) (fun _ y => absurd y w5) (fun i hi _ _ wi li s1 m1 => ?_) (fun _ _ _ _ y => absurd y nE)
              have e := least_eq (P := fun j => wdA t n q (6 + j)) wi li wj lj
              subst e
              exact c_putL (t := t) (n := n) (q := skb t n (q + (ac_sb (6 + i)).length)) (c := c) (x := (1, nI i)) (by rw [m1.1 29 (by omega)]; exact e29) (by omega) (fct_lc i hi) ⟨_, le, rfl, m1.2.2.1⟩ (fun s' ok => ⟨bo_1, hS _ _ rfl s' ((okC_mv e29 le m1).trans ok)⟩)
            · intro Q s p c T hp hq' e4 e5 e8 e20 hc hS hF
              refine m_unit T hp hq' e4 e5 (fun y => absurd y c40) (fun y => absurd y w4) (fun _ y => absurd y w5) (fun i hi _ _ wi li s1 m1 => ?_) (fun _ _ _ y => absurd y nE)
              have e := least_eq (P := fun j => wdA t n q (6 + j)) wi li wj lj
              subst e
              exact m_notesL (t := t) (n := n) (q := skb t n (q + (ac_sb (6 + i)).length)) (c := c) (x := (1, nI i)) ((m1.2.1 5 (by omega)).trans e5) ((m1.2.1 20 (by omega)).trans e20) (by omega) ⟨_, le, rfl, m1.2.2⟩ (fun s' ok => hS _ _ rfl s' ((okM_mv e20 le m1).trans ok))
            · intro q' l eo
              cases eo
              refine ⟨by rw [List.length_singleton]; omega, by omega, sk.2.1, skb_0 sk.2.2, fun x hx => ?_, lR1 _ (show (1 : Int32) < 2 by decide)⟩
              rw [List.mem_singleton] at hx
              rw [hx]
              exact .inr (.inl ⟨rfl, nI_pos' (by omega), nI_le (b := 7) (by omega) (by omega)⟩)
          · have nE : ∀ i, i < 8 → ¬ wdA t n q (6 + i) := fun i hi y => wf ⟨i, hi, y⟩
            refine ⟨.inl (1, q), ?_, ?_, fun _ _ eo => (by cases eo), fun _ _ eo => by cases eo; omega⟩
            · intro Q s p c T hp hq' e3 e29 hc hS hF
              exact c_unit T hp hq' e3 (fun y => absurd y cd) (fun y => absurd y c40) (fun y => absurd y w4) (fun _ y => absurd y w5) (fun i hi _ _ y => absurd y (nE i hi)) (fun _ _ _ _ _ s1 m1 => c_fail (kd := 1) m1.2.2.2 (fun s2 f2 => ⟨bo_0, hF 1 q rfl s2 (bad_fl (fl_mv m1 f2))⟩))
            · intro Q s p c T hp hq' e4 e5 e8 e20 hc hS hF
              refine m_unit T hp hq' e4 e5 (fun y => absurd y c40) (fun y => absurd y w4) (fun _ y => absurd y w5) (fun i hi _ _ y => absurd y (nE i hi)) (fun _ _ _ _ s1 m1 => ?_)
              refine m_num (MT_mv T m1) hq m1.2.2 ((m1.2.1 5 (by omega)).trans e5) ?_ ?_ ?_
              · rw [qq]; exact fun y => absurd y cd
              · rw [qq]; exact fun _ s2 f2 => PF_notes _ _ (by rw [f2.2.2.1]; decide) (hF 1 q rfl s2 (bad_flM (flM_mv m1 f2)))
              · rw [qq]; exact fun y => absurd y cd
