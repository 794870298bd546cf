/-! LAW: THE STEP -/
def lwOK (w z r : Nat → Int32) : Nat → List lPc → Prop
  | _, [] => True
  | c, x :: l => (w c = x.1 ∧ z c = x.2 ∧ r c = lc x.1 x.2) ∧ lwOK w z r (c + 1) l
theorem lw_of {s' : ac_m} {r r' w z : Nat → Int32} : ∀ (l : List lPc) (c : Nat), cdM s' c l → cdC r c l → (∀ k, k < c + l.length → w k = s' (299 + k) 0 ∧ z k = s' (299 + k) 1 ∧ r' k = r k) → lwOK w z r' c l
  | [], _, _, _, _ => trivial
  | x :: l, c, hm, hc, f => by
    rw [List.length_cons] at f
    obtain ⟨f1, f2, f3⟩ := f c (by omega)
    exact ⟨⟨f1.trans hm.1.1, f2.trans hm.1.2, f3.trans hc.1⟩, lw_of l (c + 1) hm.2 hc.2 (fun k hk => f k (by omega))⟩
theorem lw_fin {w z r : Nat → Int32} : ∀ (l : List lPc) (c h res : Nat), lwOK w z r c l → (∀ x, x ∈ l → lOK x.1 x.2) → lRn h l = some res → lH w c = (h : Int) → (∀ k, c ≤ k → k < c + l.length → lOK (w k) (z k) ∧ r k = lc (w k) (z k) ∧ (2 ≤ w k → 2 ≤ lH w k)) ∧ lH w (c + l.length) = (res : Int)
  | [], c, h, res, _, _, hr, e => by
    rw [lRn] at hr
    cases hr
    exact ⟨fun k h1 h2 => absurd h2 (by rw [List.length_nil]; omega), e⟩
  | x :: l, c, h, res, hw, ho, hr, e => by
    obtain ⟨⟨w1, w2, w3⟩, hw⟩ := hw
    have o1 := ho x List.mem_cons_self
    have o2 : ∀ y, y ∈ l → lOK y.1 y.2 := fun y hy => ho y (List.mem_cons_of_mem x hy)
    rw [lRn] at hr
    have fin : ∀ h', lRn h' l = some res → lH w (c + 1) = (h' : Int) → (2 ≤ w c → 2 ≤ lH w c) → (∀ k, c ≤ k → k < c + (x :: l).length → lOK (w k) (z k) ∧ r k = lc (w k) (z k) ∧ (2 ≤ w k → 2 ≤ lH w k)) ∧ lH w (c + (x :: l).length) = (res : Int) := by
      intro h' hr' e' g
      obtain ⟨i1, i2⟩ := lw_fin l (c + 1) h' res hw o2 hr' e'
      rw [List.length_cons]
      refine ⟨fun k h1 h2 => ?_, by rw [show c + (l.length + 1) = c + 1 + l.length by omega]; exact i2⟩
      by_cases ck : k = c
      · rw [ck, w1, w2, w3]
        refine ⟨o1, rfl, fun y => g (by rw [w1]; exact y)⟩
      · exact i1 k (by omega) (by omega)
    by_cases cx : x.1 < 2
    · rw [if_pos cx] at hr
      refine fin (h + 1) hr ?_ (fun y => ?_)
      · rw [lH, w1, if_pos cx, e]; omega
      · rw [w1] at y; exact absurd cx (by grind)
    · rw [if_neg cx] at hr
      by_cases c2 : 2 ≤ h
      · rw [if_pos c2] at hr
        refine fin (h - 1) hr ?_ (fun _ => by rw [e]; omega)
        rw [lH, w1, if_neg cx, e]; omega
      · rw [if_neg c2] at hr; cases hr
def gL (s1 s' : ac_m) : Prop := (∀ y, y ≠ 69 → ¬ (299 ≤ y ∧ y ≤ 458) → s' y = s1 y) ∧ (∀ j, j ≠ 0 → j ≠ 1 → j ≠ 2 → j ≠ 4 → j ≠ 5 → j ≠ 6 → j ≠ 7 → j ≠ 8 → j ≠ 20 → s' 69 j = s1 69 j) ∧ s' 69 0 = 0 ∧ s' 69 1 = 0
def mLE (Q : Int32 → ac_m → Prop) (s : ac_m) : Prop := ((s 69 5) = 0 → (w_X12_lays 298 160 299 2 137 160 138 ((ac_u (ac_u s 69 3 (-1 : Int32)) 69 19 ((ac_u s 69 3 (-1 : Int32)) 69 20)) 69 19) (fun s122 => Q (1 : Int32) s122) (ac_u (ac_u s 69 3 (-1 : Int32)) 69 19 ((ac_u s 69 3 (-1 : Int32)) 69 20)))) ∧ (¬ (s 69 5) = 0 → (w_X12_ends (fun r93 s93 => Q r93 s93) s))
theorem mLE_f {Q : Int32 → ac_m → Prop} {s : ac_m} {kd pl : Nat} (hk : kd = 1 ∨ kd = 2 ∨ kd = 3) (e5 : s 69 5 = nI kd) (e6 : s 69 6 = nI pl) (h : Q (nI kd - 10) (ac_u s 69 3 (nI pl))) : mLE Q s := by
  refine ⟨fun z => absurd z (by rw [e5]; exact nI_k hk), fun _ => ?_⟩
  unfold w_X12_ends
  rw [u_at (by omega), e5, e6]; exact h
theorem m_lawR {t : Nat → Nat} {n m : Nat} {o : lOut} {Q : Int32 → ac_m → Prop} {s1 : ac_m} (T : okT t n) (hb : ∀ j, j < n → s1 70 j = nI (t j)) (em : s1 69 1 = nI m) (hm : m ≤ 600) (hn : n ≤ 150) (hnm : n ≤ m)
    (M : MS t n 0 (fun Q s => tk_X12_sum 8 Q s) (skb t n 0) 0 o) (G : gO t n 0 0 0 1 (skb t n 0) o)
    (hS : ∀ l, o = .inr (n, l) → ∀ s', gL s1 s' → cdM s' 0 l → w_X12_lays 298 160 299 2 137 160 138 (nI l.length) (fun s122 => Q (1 : Int32) s122) (ac_u (ac_u s' 69 3 (-1 : Int32)) 69 19 (nI l.length)))
    (hF : ∀ kd pl, (o = .inl (kd, pl) ∨ (∃ l, o = .inr (pl, l) ∧ pl < n ∧ kd = 1)) → ∀ s', gL s1 s' → Q (nI kd - 10) (ac_u s' 69 3 (nI pl))) : w_X12_law (nI n) Q s1 := by
  unfold w_X12_law
  rw [u_at (show 1 ≠ 0 by omega), em]
  refine m_in (fun _ _ => ?_) (fun z => absurd ⟨nI_pos' (by omega), nI_le hnm (by omega)⟩ z)
  refine m_if1B ⟨fun _ => ?_, fun z => absurd (nI_le (b := 150) hn (by omega)) z⟩
  refine m_bad0 u_eq (m_if0B ?_)
  refine m_starts T (fun j hj => by rw [u_ne (by omega)]; exact hb j hj) (fun s2 f2 g2 z1 T2 e4 e5 e6 e7 e8 => ?_)
  have sk := skb_le' (t := t) (n := n) (p := 0) (Nat.zero_le n)
  have q2 (j : Nat) (hj : j ≠ 20) : (ac_u s2 69 20 0) 69 j = s2 69 j := u_at hj
  have gl : ∀ s', frM (ac_u s2 69 20 0) s' → gL s1 s' := by
    intro s' h
    refine ⟨fun y y1 y2 => ?_, fun j j0 j1 j2 j4 j5 j6 j7 j8 j20 => ?_, ?_, ?_⟩
    · rw [h.1 y y1 y2, u_ne y1, f2 y y1, u_ne y1]
    · rw [h.2 j j4 j5 j6 j8 j20, q2 j j20, g2 j j1 j2 j4 j5 j6 j7 j8, u_at j0]
    · rw [h.2 0 (by omega) (by omega) (by omega) (by omega) (by omega), q2 0 (by omega), g2 0 (by omega) (by omega) (by omega) (by omega) (by omega) (by omega) (by omega), u_eq]
    · rw [h.2 1 (by omega) (by omega) (by omega) (by omega) (by omega), q2 1 (by omega), z1]
  have T3 : MT (ac_u s2 69 20 0) t n := ⟨by rw [q2 2 (by omega)]; exact T2.1, T, fun j hj => by rw [u_ne (by omega)]; exact T2.2.2 j hj⟩
  refine M _ (ac_u s2 69 20 0) (skb t n 0) 0 T3 sk.2.1 (skb_0 sk.2.2) (by rw [q2 4 (by omega)]; exact e4) (by rw [q2 5 (by omega)]; exact e5) (by rw [q2 8 (by omega)]; exact e8) u_eq (by omega) (fun q' l eo s3 ok => ?_) (fun kd pl eo s3 bd => ?_)
  · obtain ⟨p3, hp3, hq3, e43⟩ := ok.2.2.1
    refine m_blanks (frM_MT T3 ok.1) hp3 e43 (fun s4 m4 => ?_)
    rw [hq3] at m4
    obtain ⟨g1, g22, g3, g4, g5, g6⟩ := G.1 q' l eo
    have F4 : frM (ac_u s2 69 20 0) s4 := ok.1.trans ⟨fun y y1 _ => m4.1 y y1, fun j j4 _ _ _ _ => m4.2.1 j j4⟩
    have e54 : s4 69 5 = 0 := by rw [m4.2.1 5 (by omega), ok.2.1.1, q2 5 (by omega)]; exact e5
    have e204 : s4 69 20 = nI l.length := by rw [m4.2.1 20 (by omega), ok.2.2.2.1, Nat.zero_add]
    have cd4 : cdM s4 0 l := cdM_fr l 0 ok.2.2.2.2.2 (fun j _ => m4.1 _ (by omega))
    refine ⟨fun z => absurd e54 z, fun _ => ⟨fun z => ?_, fun z => ?_⟩⟩
    · have en : q' = n := by
        rw [(frM_MT T3 F4).1, m4.2.2] at z
        have := (nI_leI (by omega) (by have := T.1; omega)).1 z
        omega
      subst en
      have key := hS l eo s4 (gl s4 F4) cd4
      refine ⟨fun _ => ?_, fun z => absurd e54 z⟩
      rw [u_eq, u_at (show 20 ≠ 3 by omega), e204]
      exact key
    · have ln : q' < n := by
        rcases Nat.lt_or_ge q' n with y | y
        · exact y
        · exact absurd (show s4 69 2 ≤ s4 69 4 by rw [(frM_MT T3 F4).1, m4.2.2]; exact nI_le y (by have := T.1; omega)) z
      rw [m4.2.2]
      refine m_wrong0 (kd := 1) e54 m4.2.2 g3 (fun s5 f5 _ => ?_)
      have F5 : frM (ac_u s2 69 20 0) s5 := F4.trans ⟨fun y y1 _ => f5.1 y y1, fun j j4 j5 j6 _ _ => f5.2.1 j j4 j5 j6⟩
      exact mLE_f (by omega) f5.2.2.1 f5.2.2.2.1 (hF 1 q' (.inr ⟨l, eo, ln, rfl⟩) s5 (gl s5 F5))
  · obtain ⟨r, hr, e43⟩ := bd.2.2.2
    refine m_blanks (frM_MT T3 bd.1) hr e43 (fun s4 m4 => ?_)
    have F4 : frM (ac_u s2 69 20 0) s4 := bd.1.trans ⟨fun y y1 _ => m4.1 y y1, fun j j4 _ _ _ _ => m4.2.1 j j4⟩
    have e54 : s4 69 5 = nI kd := by rw [m4.2.1 5 (by omega)]; exact bd.2.1
    have ne : ¬ s4 69 5 = 0 := by rw [e54]; exact nI_k (G.2 kd pl eo)
    exact ⟨fun _ => mLE_f (G.2 kd pl eo) e54 (by rw [m4.2.1 6 (by omega)]; exact bd.2.2.1) (hF kd pl (.inl eo) s4 (gl s4 F4)), fun z => absurd z ne⟩
theorem c_lawR {t : Nat → Nat} {n : Nat} {o : lOut} {Q : Int32 → ac_m → Prop} {s : ac_m} (T : okT t n) (hb : ∀ j, j < n → s 2 j = by8 (nI (t j)))
    (C : CS t n 0 (fun Q s => tk_X4_readSum 8 (nI 0) Q s) (skb t n 0) o) (G : gO t n 0 0 0 1 (skb t n 0) o)
    (hS : ∀ l, o = .inr (n, l) → ∀ s', (∀ y, y ≠ 1 → y ≠ 29 → y ≠ 30 → s' y = s y) → s' 1 1 = 0 → s' 1 6 = -1 → s' 29 3 = nI l.length → cdC (s' 30) 0 l → Q 1 s')
    (hF : ∀ kd pl, (o = .inl (kd, pl) ∨ (∃ l, o = .inr (pl, l) ∧ pl < n ∧ kd = 1)) → ∀ s', (∀ y, y ≠ 1 → y ≠ 29 → y ≠ 30 → s' y = s y) → s' 1 1 = 0 → s' 1 5 = nI kd → s' 1 6 = nI pl → Q 0 s') : w_X10_open (nI n) (fun s23 => w_X4_read Q s23) s := by
  refine c_open (fun s1 f1 z1 z2 z3 z5 z6 => ?_)
  unfold w_X4_read t_X4_readSum
  have c1 (j : Nat) : (ac_u s1 29 3 0) 1 j = s1 1 j := by rw [u_ne (by omega)]
  have T2 : CT (ac_u s1 29 3 0) t n := ⟨by rw [c1]; exact z2, T, fun j hj => by rw [u_ne (by omega), f1 2 (by omega)]; exact hb j hj⟩
  have fr : ∀ s', frC (ac_u s1 29 3 0) s' → (∀ y, y ≠ 1 → y ≠ 29 → y ≠ 30 → s' y = s y) ∧ s' 1 1 = 0 := fun s' h => ⟨fun y y1 y2 y3 => by rw [h.1 y y1 y2 y3, u_ne y2, f1 y y1], by rw [h.2.1, c1, z1]⟩
  refine C _ (ac_u s1 29 3 0) 0 0 T2 (Nat.zero_le n) rfl (by rw [c1]; exact z3) u_eq (by omega) (fun q' l eo s3 ok => m_if1A ?_) (fun kd pl eo s3 bd => m_if0A (hF kd pl (.inl eo) s3 (fr s3 bd.1).1 (fr s3 bd.1).2 bd.2.1 bd.2.2))
  obtain ⟨p3, hp3, hq3, e33⟩ := ok.2.2.1
  refine c_ended (okC_CT T2 ok) hp3 e33 (fun e s4 m4 => m_if1A ?_) (fun e s4 m4 => m_if0A ?_)
  · rw [hq3] at e
    subst e
    have F4 : frC (ac_u s1 29 3 0) s4 := ok.1.trans ⟨fun y y1 _ _ => m4.1 y y1, m4.2.1 1 (by omega) (by omega), m4.2.1 2 (by omega) (by omega)⟩
    refine hS l eo s4 (fr s4 F4).1 (fr s4 F4).2 ?_ ?_ ?_
    · rw [m4.2.1 6 (by omega) (by omega), ok.2.1, c1, z6]
    · rw [m4.1 29 (by omega), ok.2.2.2.1, Nat.zero_add]
    · rw [m4.1 30 (by omega)]; exact ok.2.2.2.2.2
  · rw [hq3] at e m4
    refine c_fail (kd := 1) m4.2.2.2 (fun s5 f5 => m_if0B ?_)
    have F5 : frC (ac_u s1 29 3 0) s5 := ok.1.trans (bad_fl (fl_mv m4 f5)).1
    exact hF 1 q' (.inr ⟨l, eo, e, rfl⟩) s5 (fr s5 F5).1 (fr s5 F5).2 f5.2.2.1 f5.2.2.2
theorem dr_lw : ∀ a, a < 459 → (a = 1 ∨ a = 69 ∨ a = 29 ∨ a = 30 ∨ (299 ≤ a ∧ a ≤ 458)) → isDr a = true := by decide +kernel
theorem s_law (p : Int32) (s : ac_m) (i : Inv s) : simX thA (w_X11_law p) (w_X12_law p) s := by
  obtain ⟨iH0, iM0, vM0, vB0, iL0, iB0, iT0, iP0, iX0⟩ := id i
  obtain ⟨t1, t2, t3, t4⟩ := iT0
  obtain ⟨m, hm, em⟩ := nI_of2 (M := 600) (n := 600) rfl (show ¬ s 69 1 < 0 by grind) t3
  unfold simX w_X11_law
  rw [t1, em]
  refine c_within (fun h1 h2 => ?_) (fun h => ?_)
  · have hp : p ≤ 150 ∧ p ≤ nI m := by
      by_cases c : (150 : Int32) < nI m
      · rw [if_pos c] at h2; grind
      · rw [if_neg c] at h2; grind
    obtain ⟨n, hn, rfl⟩ := nI_of2 (M := 150) (n := 150) rfl (show ¬ p < 0 by grind) hp.1
    have hnm : n ≤ m := (nI_leI (by omega) (by omega)).1 hp.2
    obtain ⟨T, hb70, hb2⟩ := tX_ok i em hm hnm
    have sk := skb_le' (t := tX s) (n := n) (p := 0) (Nat.zero_le n)
    obtain ⟨o, C, M, G⟩ := EX_tk T hn 8 0 (skb (tX s) n 0) (by omega) (by omega) sk.2.1 (skb_0 sk.2.2)
    refine c_lawR T hb2 C G (fun l e s1 F z1 z6 e29 cc => m_if1A ?_) (fun kd pl e s1 F z1 z5 z6 => m_if0A ?_)
    · obtain ⟨g1, g2, g3, g4, g5, g6⟩ := G.1 n l e
      have l150 : l.length ≤ 150 := by omega
      have key : w_X12_law (nI n) (fun b s3 => (1 : Int32) = b ∧ s3 69 0 = 0 ∧ Inv s3) (ac_u (ac_cp s1 30 26 0 0 150) 25 3 (nI l.length)) := by
        refine m_lawR T (fun j hj => by rw [u_ne (by omega), cp_ne (by omega), F 70 (by omega) (by omega) (by omega)]; exact hb70 j hj) (by rw [u_ne (by omega), cp_ne (by omega), F 69 (by omega) (by omega) (by omega)]; exact em) hm hn hnm M G (fun l2 e2 s2 gx db => ?_) (fun kd pl e2 => ?_)
        · cases e.symm.trans e2
          refine m_lays (m := l.length) (by omega) (by omega) (by omega) (by omega) (by omega) (by omega) (by omega) (fun s3 f3 k3 => ?_)
          have W : ∀ y, (y ≠ 69 ∧ y ≠ 1 ∧ y ≠ 25 ∧ y ≠ 26 ∧ y ≠ 29 ∧ y ≠ 30 ∧ ¬ (138 ≤ y ∧ y ≤ 458)) → s3 y = s y := fun y hy => by
            rw [f3 y (by omega), u_ne (by omega), u_ne (by omega), gx.1 y (by omega) (by omega), u_ne (by omega), cp_ne (by omega), F y (by omega) (by omega) (by omega)]
          have V : ∀ j, j ≠ 0 → j ≠ 1 → j ≠ 2 → j ≠ 3 → j ≠ 4 → j ≠ 5 → j ≠ 6 → j ≠ 7 → j ≠ 8 → j ≠ 19 → j ≠ 20 → s3 69 j = s 69 j := fun j j0 j1 j2 j3 j4 j5 j6 j7 j8 j19 j20 => by
            rw [f3 69 (by omega), u_at j19, u_at j3, gx.2.1 j j0 j1 j2 j4 j5 j6 j7 j8 j20, u_ne (by omega), cp_ne (by omega), F 69 (by omega) (by omega) (by omega)]
          have e0 : s3 69 0 = 0 := by rw [f3 69 (by omega), u_at (by omega), u_at (by omega)]; exact gx.2.2.1
          have e1 : s3 69 1 = 0 := by rw [f3 69 (by omega), u_at (by omega), u_at (by omega)]; exact gx.2.2.2
          have e3 : s3 69 3 = -1 := by rw [f3 69 (by omega), u_at (by omega), u_eq]
          have e19 : s3 69 19 = nI l.length := by rw [f3 69 (by omega), u_eq]
          have r1 : s3 1 = s1 1 := by rw [f3 1 (by omega), u_ne (by omega), u_ne (by omega), gx.1 1 (by omega) (by omega), u_ne (by omega), cp_ne (by omega)]
          have r25 : s3 25 3 = nI l.length := by rw [f3 25 (by omega), u_ne (by omega), u_ne (by omega), gx.1 25 (by omega) (by omega), u_eq]
          have r26 : ∀ e, e < 150 → s3 26 e = s1 30 e := fun e he => by rw [f3 26 (by omega), u_ne (by omega), u_ne (by omega), gx.1 26 (by omega) (by omega), u_ne (by omega), cp_in (by omega) (by omega), show 0 + (e - 0) = e by omega]
          have lw : lwOK (fun j => s3 (138 + j) 0) (fun j => s3 (138 + j) 1) (s3 26) 0 l := lw_of (s' := s2) (r := s1 30) l 0 db cc (fun k hk => by
            have k1 := k3 k (by omega) 0 (by omega)
            have k2 := k3 k (by omega) 1 (by omega)
            rw [u_ne (by omega), u_ne (by omega)] at k1 k2
            exact ⟨k1, k2, r26 k (by omega)⟩)
          have hr0 : lRn 0 l = some 1 := g6 0
          obtain ⟨w1, w2⟩ := lw_fin l 0 0 1 lw g5 hr0 rfl
          rw [Nat.zero_add] at w2
          have l1 : 1 ≤ l.length := by
            cases l with
            | nil => rw [lRn] at hr0; cases hr0
            | cons x l => rw [List.length_cons]; omega
          refine ⟨rfl, e0, iH_f2 iH0 (fun a ha => W a (by omega)), ?_, ?_, ?_, .inr ⟨l.length, l1, l150, e19, r25, fun k hk => ?_, w2⟩, iB_f2 iB0 (fun a ha => W a (by omega)) (V 34 (by omega) (by omega) (by omega) (by omega) (by omega) (by omega) (by omega) (by omega) (by omega) (by omega) (by omega)), iT_0 (by rw [r1]; exact z1) e1, iP_f2 iP0 (fun a ha => W a (by omega)) (V 35 (by omega) (by omega) (by omega) (by omega) (by omega) (by omega) (by omega) (by omega) (by omega) (by omega) (by omega)) (V 37 (by omega) (by omega) (by omega) (by omega) (by omega) (by omega) (by omega) (by omega) (by omega) (by omega) (by omega)), ?_⟩
          · show rM _ 42 _
            rw [W 556 (by omega)]
            exact rM_fr (s := s) (fun j hj => W _ (by omega)) iM0
          · rw [W 73 (by omega), W 556 (by omega)]; exact vM0
          · rw [W 73 (by omega), W 556 (by omega)]; exact vB0
          · exact w1 k (by omega) (by omega)
          · unfold iX
            rw [r1, z6, e3, W 0 (by omega), W 71 (by omega), V 36 (by omega) (by omega) (by omega) (by omega) (by omega) (by omega) (by omega) (by omega) (by omega) (by omega) (by omega)]
            exact ⟨rfl, iX0.2.1, iX0.2.2.1, iX0.2.2.2⟩
        · rcases e2 with e2 | ⟨l2, e2, l3, _⟩
          · cases e.symm.trans e2
          · cases e.symm.trans e2
            omega
      unfold w_X4_take
      have e35 : (ac_cp s1 30 26 (0 : Int32).toNatClampNeg (0 : Int32).toNatClampNeg (150 : Int32).toNatClampNeg) 29 3 = nI l.length := by rw [cp_ne (by omega)]; exact e29
      rw [e35]
      exact key
    · have key : w_X12_law (nI n) (fun b s3 => nI kd - 10 = b ∧ s3 69 0 = 0 ∧ Inv s3) s1 := by
        refine m_lawR T (fun j hj => by rw [F 70 (by omega) (by omega) (by omega)]; exact hb70 j hj) (by rw [F 69 (by omega) (by omega) (by omega)]; exact em) hm hn hnm M G (fun l2 e2 => ?_) (fun kd2 pl2 e2 s2 gx => ?_)
        · rcases e with e | ⟨l, e, h3, _⟩
          · cases e.symm.trans e2
          · cases e.symm.trans e2
            omega
        · have ee : kd2 = kd ∧ pl2 = pl := by
            rcases e with e | ⟨l, e, h3, h4⟩
            · rcases e2 with e2 | ⟨l', e2, h3', h4'⟩
              · cases e.symm.trans e2; exact ⟨rfl, rfl⟩
              · cases e.symm.trans e2
            · rcases e2 with e2 | ⟨l', e2, h3', h4'⟩
              · cases e.symm.trans e2
              · cases e.symm.trans e2; exact ⟨h4'.trans h4.symm, rfl⟩
          rw [ee.1, ee.2]
          refine ⟨rfl, by rw [u_at (by omega)]; exact gx.2.2.1, Inv_dr i (fun a ha => ?_) (fun j hj => ?_) ?_ ?_ ?_⟩
          · have na : ¬ (a = 1 ∨ a = 69 ∨ a = 29 ∨ a = 30 ∨ (299 ≤ a ∧ a ≤ 458)) := fun z => by
              rw [dr_lw a (by omega) z] at ha; cases ha
            rw [u_ne (by omega), gx.1 a (by omega) (by omega), F a (by omega) (by omega) (by omega)]
          · rw [u_at (by omega), gx.2.1 j (by omega) (by omega) (by omega) (by omega) (by omega) (by omega) (by omega) (by omega) (by omega), F 69 (by omega) (by omega) (by omega)]
          · rw [u_ne (by omega), gx.1 1 (by omega) (by omega)]; exact z1
          · rw [u_at (by omega)]; exact gx.2.2.2
          · rw [u_ne (by omega), gx.1 1 (by omega) (by omega), u_eq]; exact z6
      unfold w_X10_faultAnswer
      show w_X12_law (nI n) (fun b s3 => s1 1 5 - 10 = b ∧ s3 69 0 = 0 ∧ Inv s3) s1
      rw [z5]
      exact key
  · have key : ∀ (A : Prop), w_X12_bad (1 : Int32) (1 : Int32) (1 : Int32) (fun r31 s31 => (r31 = 0 → A) ∧ (¬ r31 = 0 → (thA "java/lang/IllegalArgumentException" (s31 69 0) ∧ Inv s31))) (ac_u (ac_u s 0 16 (s 0 16 + 1)) 69 0 0) := fun A => m_bad1 u_eq (by decide) in2_1 (m_if1B ⟨⟨rfl, bad_69⟩, Inv_bad1 i⟩)
    unfold w_X12_law
    rw [u_at (show 1 ≠ 0 by omega), u_ne (show 69 ≠ 0 by omega), em]
    refine m_in (fun a b => m_if1B ⟨fun z => absurd ⟨a, ?_⟩ h, fun _ => m_bad1 u_eq (by decide) in2_1 (m_if1B ⟨⟨rfl, bad_69⟩, Inv_bad1 i⟩)⟩) (fun _ => m_if0B (m_bad1 u_eq (by decide) in2_1 (m_if1B ⟨⟨rfl, bad_69⟩, Inv_bad1 i⟩)))
    by_cases c : (150 : Int32) < nI m
    · rw [if_pos c]; exact z
    · rw [if_neg c]; exact b
