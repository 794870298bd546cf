/-! LAW: one unit -/
theorem EX_weak {t : Nat → Nat} {n d e e' e2 a b q : Nat} {RC : (Int32 → ac_m → Prop) → ac_m → Prop} {RM : (ac_m → Prop) → ac_m → Prop} (k : e2 ≤ e') (h : EX t n d e e' a b RC RM q) : EX t n d e e2 a b RC RM q := by
  obtain ⟨o, C, M, G⟩ := h
  refine ⟨o, C, M, fun q' l eo => ?_, G.2⟩
  obtain ⟨g1, g⟩ := G.1 q' l eo
  exact ⟨by omega, g⟩
theorem nI_dec (d : Nat) : nI (d + 1) - 1 = nI d := by rw [← nI_1]; exact Int32.add_sub_cancel _ _
theorem okM_dep {t : Nat → Nat} {n d c q : Nat} {l : List lPc} {s s1 s' : ac_m} (f : frM s s1) (e5 : s1 69 5 = s 69 5) (e6 : s1 69 6 = s 69 6) (e8 : s1 69 8 = nI (d + 1)) (e8' : s 69 8 = nI d) (r : ∀ j, s1 (299 + j) = s (299 + j)) (ok : okM t n s1 s' c q l) : okM t n s (ac_u s' 69 8 (s' 69 8 - 1)) c q l := by
  obtain ⟨h1, h2, ⟨p, hp, hq, h3⟩, h4, h5, h6⟩ := ok
  have F := f.trans h1
  refine ⟨⟨fun y y1 y2 => by rw [u_ne y1]; exact F.1 y y1 y2, fun j j4 j5 j6 j8 j20 => by rw [u_at j8]; exact F.2 j j4 j5 j6 j8 j20⟩, ⟨?_, ?_, ?_⟩, ⟨p, hp, hq, ?_⟩, ?_, fun j hj => ?_, ?_⟩
  · rw [u_at (by omega), h2.1, e5]
  · rw [u_at (by omega), h2.2.1, e6]
  · rw [u_eq, h2.2.2, e8, e8', nI_dec]
  · rw [u_at (by omega)]; exact h3
  · rw [u_at (by omega)]; exact h4
  · rw [u_ne (by omega), h5 j hj, r]
  · exact cdM_fr l c h6 (fun j _ => by rw [u_ne (by omega)])
theorem badM_dep {n kd pl : Nat} {s s1 s' : ac_m} {v : Int32} (f : frM s s1) (b : badM n s1 s' kd pl) : badM n s (ac_u s' 69 8 v) kd pl := by
  obtain ⟨h1, h2, h3, r, hr, h4⟩ := b
  have F := f.trans h1
  refine ⟨⟨fun y y1 y2 => by rw [u_ne y1]; exact F.1 y y1 y2, fun j j4 j5 j6 j8 j20 => by rw [u_at j8]; exact F.2 j j4 j5 j6 j8 j20⟩, by rw [u_at (by omega)]; exact h2, by rw [u_at (by omega)]; exact h3, r, hr, by rw [u_at (by omega)]; exact h4⟩
theorem m_opensL {n d r : Nat} {Q : Int32 → ac_m → Prop} {s : ac_m} (e5 : s 69 5 = 0) (e8 : s 69 8 = nI d) (hd : d ≤ 6) (e4 : s 69 4 = nI r) (hr : r ≤ n) (h1 : d < 6 → Q 1 (ac_u s 69 8 (nI (d + 1)))) (h0 : d = 6 → ∀ s', flM s s' n 3 r → Q 0 s') : w_X12_opensOne Q s := by
  unfold w_X12_opensOne
  refine ⟨fun z => absurd e5 z, fun _ => ⟨fun z => ⟨fun y => absurd e5 y, fun _ => ⟨fun y => ?_, fun _ => ?_⟩⟩, fun z => ?_⟩⟩
  · rw [u_at (by omega)] at y; exact absurd e5 y
  · rw [e8, nI_1]
    refine h1 ?_
    rcases Nat.lt_or_ge d 6 with y | y
    · exact y
    · exact absurd (show s 69 8 = 6 by rw [e8, show d = 6 by omega]; rfl) z
  · have d6 : d = 6 := by
      rcases Nat.lt_or_ge d 6 with y | y
      · rw [e8] at z
        exact absurd (nI_lt (b := 6) y (by omega)) (by rw [z]; decide)
      · omega
    rw [e4]
    refine m_wrong0 (kd := 3) e5 e4 hr (fun s' f' _ => ⟨fun _ => h0 d6 s' f', fun y => ?_⟩)
    rw [f'.2.2.1] at y
    exact absurd y (by decide)
theorem PF_ret : PF (fun Q s => Q s) := fun _ _ _ h => h
/-- what stands between a word and the end of its pair -/
theorem EX_pair {t : Nat → Nat} {n d q : Nat} {v : Int32} {x : lPc} {Rs : (Int32 → ac_m → Prop) → ac_m → Prop} {Rm : (ac_m → Prop) → ac_m → Prop} (n150 : n ≤ 150) (pf : PF Rm) (IH : ∀ q, q ≤ n → skb t n q = q → EX t n d 0 0 0 1 Rs Rm q) (hv : v = lc x.1 x.2) (hx : lOK x.1 x.2) (hr : ∀ h, lRn (h + 2) [x] = some (h + 1)) (hq : q ≤ n) :
    EX t n d 0 0 0 1 (fun Q s => w_X10_expects (91 : Int32) (fun r15 s15 => (r15 = 0 → (Q (0 : Int32) s15)) ∧ (¬ r15 = 0 → (Rs (fun r26 s26 => (r26 = 0 → (Q (0 : Int32) s26)) ∧ (¬ r26 = 0 → (w_X10_expects (44 : Int32) (fun r35 s35 => (r35 = 0 → (Q (0 : Int32) s35)) ∧ (¬ r35 = 0 → (Rs (fun r46 s46 => (r46 = 0 → (Q (0 : Int32) s46)) ∧ (¬ r46 = 0 → (w_X10_expects (93 : Int32) (fun r55 s55 => (r55 = 0 → (Q (0 : Int32) s55)) ∧ (¬ r55 = 0 → (w_X4_put 29 v (fun r63 s63 => (r63 = 0 → (Q (0 : Int32) s63)) ∧ (¬ r63 = 0 → (Q (1 : Int32) s63))) s55))) s46))) s35))) s26))) s15))) s)
      (fun Q s => w_X12_sign (91 : Int32) (fun s77 => Rm (fun s81 => w_X12_sign (44 : Int32) (fun s87 => Rm (fun s91 => w_X12_sign (93 : Int32) (fun s97 => w_X12_notes x.1 x.2 (fun s103 => Q s103) s97) s91) s87) s81) s77) s) q := by
  have p5 : PF (fun Q s => w_X12_notes x.1 x.2 (fun s103 => Q s103) s) := PF_notes
  have p4 : PF (fun Q s => w_X12_sign (93 : Int32) (fun s97 => w_X12_notes x.1 x.2 (fun s103 => Q s103) s97) s) := PF_seq PF_sign p5
  have p3 : PF (fun Q s => Rm (fun s91 => w_X12_sign (93 : Int32) (fun s97 => w_X12_notes x.1 x.2 (fun s103 => Q s103) s97) s91) s) := PF_seq pf p4
  have p2 : PF (fun Q s => w_X12_sign (44 : Int32) (fun s87 => Rm (fun s91 => w_X12_sign (93 : Int32) (fun s97 => w_X12_notes x.1 x.2 (fun s103 => Q s103) s97) s91) s87) s) := PF_seq PF_sign p3
  have p1 : PF (fun Q s => Rm (fun s81 => w_X12_sign (44 : Int32) (fun s87 => Rm (fun s91 => w_X12_sign (93 : Int32) (fun s97 => w_X12_notes x.1 x.2 (fun s103 => Q s103) s97) s91) s87) s81) s) := PF_seq pf p2
  refine EX_weak (e' := 2) (by omega) ?_
  refine EX_seq (e2 := 1) (b := 0) (EX_tok (ch0 := 91) hq (by omega)) p1 (fun q1 _ l1 k1 _ => ?_)
  refine EX_seq (e2 := 1) (b := 1) (EX_lift 1 0 (IH q1 l1 k1)) p2 (fun q2 _ l2 k2 _ => ?_)
  refine EX_seq (e2 := 2) (b := 1) (EX_tok (ch0 := 44) l2 (by omega)) p3 (fun q3 _ l3 k3 _ => ?_)
  refine EX_seq (e2 := 2) (b := 2) (EX_lift 2 1 (IH q3 l3 k3)) p4 (fun q4 _ l4 k4 _ => ?_)
  refine EX_seq (e2 := 3) (b := 2) (EX_tok (ch0 := 93) l4 (by omega)) p5 (fun q5 _ l5 k5 _ => ?_)
  exact EX_seq (e2 := 2) (b := 1) (EX_put x n150 l5 k5 hv hx hr) PF_ret (fun q6 _ l6 k6 _ => EX_ret l6 k6)
/-- what stands in brackets -/
theorem EX_paren {t : Nat → Nat} {n d q : Nat} {Rs : (Int32 → ac_m → Prop) → ac_m → Prop} {Rm : (ac_m → Prop) → ac_m → Prop} (IH : ∀ q, q ≤ n → skb t n q = q → EX t n d 0 0 0 1 Rs Rm q) (hq : q ≤ n) (qq : skb t n q = q) :
    EX t n d 0 0 0 1 (fun Q s => Rs (fun r61 s61 => (r61 = 0 → (Q (0 : Int32) s61)) ∧ (¬ r61 = 0 → (w_X10_expects (41 : Int32) (fun r70 s70 => (r70 = 0 → (Q (0 : Int32) s70)) ∧ (¬ r70 = 0 → (Q (1 : Int32) s70))) s61))) s) (fun Q s => Rm (fun s149 => w_X12_sign (41 : Int32) (fun s155 => Q s155) s149) s) q := by
  have p1 : PF (fun Q s => w_X12_sign (41 : Int32) (fun s155 => Q s155) s) := PF_sign
  refine EX_weak (e' := 1) (by omega) ?_
  refine EX_seq (e2 := 0) (b := 1) (IH q hq qq) p1 (fun q1 _ l1 k1 _ => ?_)
  exact EX_seq (e2 := 1) (b := 1) (EX_tok (ch0 := 41) l1 (by omega)) PF_ret (fun q6 _ l6 k6 _ => EX_ret l6 k6)
theorem fct_ne : ∀ j, j < 8 → ¬ (-1 - nI j : Int32) = 0 := by decide +kernel
theorem fct_m1 : ∀ j, j < 8 → ¬ nI j = -1 := by decide +kernel
theorem fct_lc : ∀ j, j < 8 → (-1 - nI j : Int32) = lc 1 (nI j) := by decide +kernel
theorem fct_W : ∀ j, j < 8 → ∃ D, isW (6 + j) D ∧ 0 < D.length
  | 0, _ => ⟨_, wd6, by decide⟩
  | 1, _ => ⟨_, wd7, by decide⟩
  | 2, _ => ⟨_, wd8, by decide⟩
  | 3, _ => ⟨_, wd9, by decide⟩
  | 4, _ => ⟨_, wd10, by decide⟩
  | 5, _ => ⟨_, wd11, by decide⟩
  | 6, _ => ⟨_, wd12, by decide⟩
  | 7, _ => ⟨_, wd13, by decide⟩
  | j + 8, h => by omega
theorem c_unit {t : Nat → Nat} {n p q : Nat} {d : Int32} {Rs : Int32 → (Int32 → ac_m → Prop) → ac_m → Prop} {Q : Int32 → ac_m → Prop} {s : ac_m} (T : CT s t n) (hp : p ≤ n) (hq : skb t n p = q) (e3 : s 1 3 = nI p)
    (hN : dg (ch t n q) → ∀ s1, mv s s1 q q → w_X10_number (0 : Int32) (999 : Int32) (fun r12 s12 => (r12 = (-1 : Int32) → (Q (0 : Int32) s12)) ∧ (¬ r12 = (-1 : Int32) → (w_X4_put 29 r12 (fun r23 s23 => (r23 = 0 → (Q (0 : Int32) s23)) ∧ (¬ r23 = 0 → (Q (1 : Int32) s23))) s12))) s1)
    (hP : ch t n q = 40 → ∀ s1, mv s s1 (q + 1) q → ((d < (6 : Int32) → (Rs (d + (1 : Int32)) (fun r61 s61 => (r61 = 0 → (Q (0 : Int32) s61)) ∧ (¬ r61 = 0 → (w_X10_expects (41 : Int32) (fun r70 s70 => (r70 = 0 → (Q (0 : Int32) s70)) ∧ (¬ r70 = 0 → (Q (1 : Int32) s70))) s61))) s1)) ∧ (¬ d < (6 : Int32) → (w_X10_fail (3 : Int32) (fun r52 s52 => ac_bo r52 ∧ Q r52 s52) s1))))
    (hL : wdA t n q 4 → ∀ s1, mv s s1 (q + (ac_sb 4).length) q → w_X4_readPair d (-14 : Int32) (fun r96 s96 => ac_bo r96 ∧ Q r96 s96) Rs s1)
    (hM : ¬ wdA t n q 4 → wdA t n q 5 → ∀ s1, mv s s1 (q + (ac_sb 5).length) q → w_X4_readPair d (-15 : Int32) (fun r96 s96 => ac_bo r96 ∧ Q r96 s96) Rs s1)
    (hF : ∀ j, j < 8 → ¬ wdA t n q 4 → ¬ wdA t n q 5 → wdA t n q (6 + j) → (∀ i, i < j → ¬ wdA t n q (6 + i)) → ∀ s1, mv s s1 (q + (ac_sb (6 + j)).length) q → w_X4_put 29 (-1 - nI j) (fun r137 s137 => ac_bo r137 ∧ Q r137 s137) s1)
    (h0 : ¬ dg (ch t n q) → ch t n q ≠ 40 → ¬ wdA t n q 4 → ¬ wdA t n q 5 → (∀ j, j < 8 → ¬ wdA t n q (6 + j)) → ∀ s1, mv s s1 q q → w_X10_fail (1 : Int32) (fun r129 s129 => ac_bo r129 ∧ Q r129 s129) s1) : w_X4_readUnit d Q Rs s := by
  obtain ⟨qn, _, qq⟩ := skq hp hq
  unfold w_X4_readUnit
  subst hq
  refine c_atNum T hp e3 (fun y s1 m1 => m_if1B (hN y s1 m1)) (fun nd s1 m1 => m_if0B ?_)
  generalize skb t n p = q at *
  refine c_passes (c := 40) (CT_mv T m1) qn m1.2.2.1 (by omega) ?_ ?_
  · rw [qq]; exact fun y s2 m2 => m_if1B (hP y s2 (m1.trans m2))
  · rw [qq]
    intro n40 s2 m2
    have M2 := m1.trans m2
    refine m_if0B (c_wordQ (CT_mv T M2) qn qq M2.2.2.1 (by decide +kernel) (fun y s3 m3 => m_if1B (hL y s3 (M2.trans m3))) (fun w4 s3 m3 => m_if0B ?_))
    have M3 := M2.trans m3
    refine c_wordQ (CT_mv T M3) qn qq M3.2.2.1 (by decide +kernel) (fun y s4 m4 => m_if1B (hM w4 y s4 (M3.trans m4))) (fun w5 s4 m4 => m_if0B ?_)
    have M4 := M3.trans m4
    refine c_factL (CT_mv T M4) qn qq M4.2.2.1 (fun j hj w wl s5 m5 => ⟨fun _ => hF j hj w4 w5 w wl s5 (M4.trans m5), fun z => ?_⟩) (fun a s5 m5 => m_if0A (h0 nd n40 w4 w5 a s5 (M4.trans m5)))
    exact absurd z (fct_ne j hj)
def mPr (v : Int32) (Q : ac_m → Prop) (Rm : (ac_m → Prop) → ac_m → Prop) (s : ac_m) : Prop := w_X12_opensOne (fun r63 s63 => (¬ r63 = 0 → (w_X12_skipWord (fun s71 => w_X12_sign (91 : Int32) (fun s77 => Rm (fun s81 => w_X12_sign (44 : Int32) (fun s87 => Rm (fun s91 => w_X12_sign (93 : Int32) (fun s97 => w_X12_notes v (0 : Int32) (fun s103 => Q (ac_u s103 69 8 ((s103 69 8) - (1 : Int32)))) s97) s91) s87) s81) s77) s71) s63)) ∧ (r63 = 0 → (Q s63))) s
theorem m_unit {t : Nat → Nat} {n p q : Nat} {Rm : (ac_m → Prop) → ac_m → Prop} {Q : ac_m → Prop} {s : ac_m} (T : MT s t n) (hp : p ≤ n) (hq : skb t n p = q) (e4 : s 69 4 = nI p) (e5 : s 69 5 = 0)
    (hP : ch t n q = 40 → ∀ s1, mvM s s1 q → w_X12_opensOne (fun r131 s131 => (¬ r131 = 0 → (Rm (fun s149 => w_X12_sign (41 : Int32) (fun s155 => Q (ac_u s155 69 8 ((s155 69 8) - (1 : Int32)))) s149) (ac_u s131 69 4 ((s131 69 4) + (1 : Int32))))) ∧ (r131 = 0 → (Q s131))) s1)
    (hL : wdA t n q 4 → ∀ s1, mvM s s1 q → mPr 7 Q Rm s1)
    (hM : ¬ wdA t n q 4 → wdA t n q 5 → ∀ s1, mvM s s1 q → mPr 8 Q Rm s1)
    (hF : ∀ j, j < 8 → ¬ wdA t n q 4 → ¬ wdA t n q 5 → wdA t n q (6 + j) → (∀ i, i < j → ¬ wdA t n q (6 + i)) → ∀ s1, mvM s s1 (q + (ac_sb (6 + j)).length) → w_X12_notes (1 : Int32) (nI j) (fun s182 => Q s182) s1)
    (h0 : ch t n q ≠ 40 → ¬ wdA t n q 4 → ¬ wdA t n q 5 → (∀ j, j < 8 → ¬ wdA t n q (6 + j)) → ∀ s1, mvM s s1 q → w_X12_number (0 : Int32) (999 : Int32) (fun r195 s195 => w_X12_notes (0 : Int32) r195 (fun s198 => Q s198) s195) s1) : w_X12_one Q Rm s := by
  obtain ⟨qn, _, qq⟩ := skq hp hq
  unfold w_X12_one
  refine ⟨fun _ => ?_, fun z => absurd e5 z⟩
  subst hq
  refine m_blanks T hp e4 (fun s1 m1 => ?_)
  generalize skb t n p = q at *
  have f5 {s' : ac_m} {p : Nat} (m : mvM s s' p) : s' 69 5 = 0 := (m.2.1 5 (by omega)).trans e5
  refine m_isWordQ (i := 4) (MT_mv T m1) qn qq m1.2.2 (f5 m1) wd4 (fun Q s h => six5 (by decide) (by decide) (by decide +kernel) h) (fun w s2 m2 => m_if1B ⟨fun z => absurd z (by decide), fun _ => hL w s2 (m1.trans m2)⟩) (fun w4 s2 m2 => m_if0B ?_)
  have M2 := m1.trans m2
  refine m_isWordQ (i := 5) (MT_mv T M2) qn qq M2.2.2 (f5 M2) wd5 (fun Q s h => six4 (by decide) (by decide +kernel) h) (fun w s3 m3 => m_if1B ⟨fun z => absurd z (by decide), fun _ => hM w4 w s3 (M2.trans m3)⟩) (fun w5 s3 m3 => m_if0B ⟨fun _ => ?_, fun z => absurd rfl z⟩)
  have M3 := M2.trans m3
  rw [M3.2.2]
  refine m_byte (MT_mv T M3) (by have := T.2.1.1; omega) ⟨fun z => ?_, fun z => ?_⟩
  · have n40 : ch t n q ≠ 40 := fun y => z ((kM_eq _ (ch_lt T.2.1 q) 40 (by omega)).2 y)
    refine m_knownL (MT_mv T M3) qn qq M3.2.2 (f5 M3) (fun j hj w wl s4 m4 => ⟨fun z => ?_, fun _ => hF j hj w4 w5 w wl s4 (M3.trans m4)⟩) (fun a s4 m4 => ⟨fun _ => h0 n40 w4 w5 a s4 (M3.trans m4), fun z => absurd rfl z⟩)
    exact absurd z (fct_m1 j hj)
  · exact hP ((kM_eq _ (ch_lt T.2.1 q) 40 (by omega)).1 z) s3 M3
