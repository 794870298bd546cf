/-! LAW: one unit -/
theorem EX_weak {t : Nat → Nat} {n d e e' e2 a b q : Nat} {RC : (Int32 → ac_m → Prop) → ac_m → Prop} {RM : (ac_m → Prop) → ac_m → Prop} (k : e2 ≤ e') (h : EX t n d e e' a b RC RM q) : EX t n d e e2 a b RC RM q := by
  obtain ⟨o, C, M, G⟩ := h
  refine ⟨o, C, M, fun q' l eo => ?_, G.2⟩
  obtain ⟨g1, g⟩ := G.1 q' l eo
  exact ⟨by omega, g⟩
theorem nI_dec (d : Nat) : nI (d + 1) - 1 = nI d := by rw [← nI_1]; exact Int32.add_sub_cancel _ _
theorem okM_dep {t : Nat → Nat} {n d c q : Nat} {l : List lPc} {s s1 s' : ac_m} (f : frM s s1) (e5 : s1 69 5 = s 69 5) (e6 : s1 69 6 = s 69 6) (e8 : s1 69 8 = nI (d + 1)) (e8' : s 69 8 = nI d) (r : ∀ j, s1 (299 + j) = s (299 + j)) (ok : okM t n s1 s' c q l) : okM t n s (ac_u s' 69 8 (s' 69 8 - 1)) c q l := by
  obtain ⟨h1, h2, ⟨p, hp, hq, h3⟩, h4, h5, h6⟩ := ok
  have F := f.trans h1
  refine ⟨⟨fun y y1 y2 => by rw [u_ne y1]; exact F.1 y y1 y2, fun j j4 j5 j6 j8 j20 => by rw [u_at j8]; exact F.2 j j4 j5 j6 j8 j20⟩, ⟨?_, ?_, ?_⟩, ⟨p, hp, hq, ?_⟩, ?_, fun j hj => ?_, ?_⟩
  · rw [u_at (by omega), h2.1, e5]
  · rw [u_at (by omega), h2.2.1, e6]
  · rw [u_eq, h2.2.2, e8, e8', nI_dec]
  · rw [u_at (by omega)]; exact h3
  · rw [u_at (by omega)]; exact h4
  · rw [u_ne (by omega), h5 j hj, r]
  · exact cdM_fr l c h6 (fun j _ => by rw [u_ne (by omega)])
theorem badM_dep {n kd pl : Nat} {s s1 s' : ac_m} {v : Int32} (f : frM s s1) (b : badM n s1 s' kd pl) : badM n s (ac_u s' 69 8 v) kd pl := by
  obtain ⟨h1, h2, h3, r, hr, h4⟩ := b
  have F := f.trans h1
  refine ⟨⟨fun y y1 y2 => by rw [u_ne y1]; exact F.1 y y1 y2, fun j j4 j5 j6 j8 j20 => by rw [u_at j8]; exact F.2 j j4 j5 j6 j8 j20⟩, by rw [u_at (by omega)]; exact h2, by rw [u_at (by omega)]; exact h3, r, hr, by rw [u_at (by omega)]; exact h4⟩
theorem m_opensL {n d r : Nat} {Q : Int32 → ac_m → Prop} {s : ac_m} (e5 : s 69 5 = 0) (e8 : s 69 8 = nI d) (hd : d ≤ 6) (e4 : s 69 4 = nI r) (hr : r ≤ n) (h1 : d < 6 → Q 1 (ac_u s 69 8 (nI (d + 1)))) (h0 : d = 6 → ∀ s', flM s s' n 3 r → Q 0 s') : w_X12_opensOne Q s := by
  unfold w_X12_opensOne
  refine ⟨fun z => absurd e5 z, fun _ => ⟨fun z => ⟨fun y => absurd e5 y, fun _ => ⟨fun y => ?_, fun _ => ?_⟩⟩, fun z => ?_⟩⟩
  · rw [u_at (by omega)] at y; exact absurd e5 y
  · rw [e8, nI_1]
    refine h1 ?_
    rcases Nat.lt_or_ge d 6 with y | y
    · exact y
    · exact absurd (show s 69 8 = 6 by rw [e8, show d = 6 by omega]; rfl) z
  · have d6 : d = 6 := by
      rcases Nat.lt_or_ge d 6 with y | y
      · rw [e8] at z
        exact absurd (nI_lt (b := 6) y (by omega)) (by rw [z]; decide)
      · omega
    rw [e4]
    refine m_wrong0 (kd := 3) e5 e4 hr (fun s' f' _ => ⟨fun _ => h0 d6 s' f', fun y => ?_⟩)
    rw [f'.2.2.1] at y
    exact absurd y (by decide)
theorem PF_ret : PF (fun Q s => Q s) := fun _ _ _ h => h
/-- what stands between a word and the end of its pair -/
theorem EX_pair {t : Nat → Nat} {n d q : Nat} {v : Int32} {x : lPc} {Rs : (Int32 → ac_m → Prop) → ac_m → Prop} {Rm : (ac_m → Prop) → ac_m → Prop} (n150 : n ≤ 150) (pf : PF Rm) (IH : ∀ q, q ≤ n → skb t n q = q → EX t n d 0 0 0 1 Rs Rm q) (hv : v = lc x.1 x.2) (hx : lOK x.1 x.2) (hr : ∀ h, lRn (h + 2) [x] = some (h + 1)) (hq : q ≤ n) :
    EX t n d 0 0 0 1 (fun Q s => w_X10_expects (91 : Int32) (fun r15 s15 => (r15 = 0 → (Q (0 : Int32) s15)) ∧ (¬ r15 = 0 → (Rs (fun r26 s26 => (r26 = 0 → (Q (0 : Int32) s26)) ∧ (¬ r26 = 0 → (w_X10_expects (44 : Int32) (fun r35 s35 => (r35 = 0 → (Q (0 : Int32) s35)) ∧ (¬ r35 = 0 → (Rs (fun r46 s46 => (r46 = 0 → (Q (0 : Int32) s46)) ∧ (¬ r46 = 0 → (w_X10_expects (93 : Int32) (fun r55 s55 => (r55 = 0 → (Q (0 : Int32) s55)) ∧ (¬ r55 = 0 → (w_X4_put 29 v (fun r63 s63 => (r63 = 0 → (Q (0 : Int32) s63)) ∧ (¬ r63 = 0 → (Q (1 : Int32) s63))) s55))) s46))) s35))) s26))) s15))) s)
      (fun Q s => w_X12_sign (91 : Int32) (fun s77 => Rm (fun s81 => w_X12_sign (44 : Int32) (fun s87 => Rm (fun s91 => w_X12_sign (93 : Int32) (fun s97 => w_X12_notes x.1 x.2 (fun s103 => Q s103) s97) s91) s87) s81) s77) s) q := by
  have p5 : PF (fun Q s => w_X12_notes x.1 x.2 (fun s103 => Q s103) s) := PF_notes
  have p4 : PF (fun Q s => w_X12_sign (93 : Int32) (fun s97 => w_X12_notes x.1 x.2 (fun s103 => Q s103) s97) s) := PF_seq PF_sign p5
  have p3 : PF (fun Q s => Rm (fun s91 => w_X12_sign (93 : Int32) (fun s97 => w_X12_notes x.1 x.2 (fun s103 => Q s103) s97) s91) s) := PF_seq pf p4
  have p2 : PF (fun Q s => w_X12_sign (44 : Int32) (fun s87 => Rm (fun s91 => w_X12_sign (93 : Int32) (fun s97 => w_X12_notes x.1 x.2 (fun s103 => Q s103) s97) s91) s87) s) := PF_seq PF_sign p3
  have p1 : PF (fun Q s => Rm (fun s81 => w_X12_sign (44 : Int32) (fun s87 => Rm (fun s91 => w_X12_sign (93 : Int32) (fun s97 => w_X12_notes x.1 x.2 (fun s103 => Q s103) s97) s91) s87) s81) s) := PF_seq pf p2
  refine EX_weak (e' := 2) (by omega) ?_
  refine EX_seq (e2 := 1) (b := 0) (EX_tok (ch0 := 91) hq (by omega)) p1 (fun q1 _ l1 k1 _ => ?_)
  refine EX_seq (e2 := 1) (b := 1) (EX_lift 1 0 (IH q1 l1 k1)) p2 (fun q2 _ l2 k2 _ => ?_)
  refine EX_seq (e2 := 2) (b := 1) (EX_tok (ch0 := 44) l2 (by omega)) p3 (fun q3 _ l3 k3 _ => ?_)
  refine EX_seq (e2 := 2) (b := 2) (EX_lift 2 1 (IH q3 l3 k3)) p4 (fun q4 _ l4 k4 _ => ?_)
  refine EX_seq (e2 := 3) (b := 2) (EX_tok (ch0 := 93) l4 (by omega)) p5 (fun q5 _ l5 k5 _ => ?_)
  exact EX_seq (e2 := 2) (b := 1) (EX_put x n150 l5 k5 hv hx hr) PF_ret (fun q6 _ l6 k6 _ => EX_ret l6 k6)
/-- what stands in brackets -/
theorem EX_paren {t : Nat → Nat} {n d q : Nat} {Rs : (Int32 → ac_m → Prop) → ac_m → Prop} {Rm : (ac_m → Prop) → ac_m → Prop} (IH : ∀ q, q ≤ n → skb t n q = q → EX t n d 0 0 0 1 Rs Rm q) (hq : q ≤ n) (qq : skb t n q = q) :
    EX t n d 0 0 0 1 (fun Q s => Rs (fun r61 s61 => (r61 = 0 → (Q (0 : Int32) s61)) ∧ (¬ r61 = 0 → (w_X10_expects (41 : Int32) (fun r70 s70 => (r70 = 0 → (Q (0 : Int32) s70)) ∧ (¬ r70 = 0 → (Q (1 : Int32) s70))) s61))) s) (fun Q s => Rm (fun s149 => w_X12_sign (41 : Int32) (fun s155 => Q s155) s149) s) q := by
  have p1 : PF (fun Q s => w_X12_sign (41 : Int32) (fun s155 => Q s155) s) := PF_sign
  refine EX_weak (e' := 1) (by omega) ?_
  refine EX_seq (e2 := 0) (b := 1) (IH q hq qq) p1 (fun q1 _ l1 k1 _ => ?_)
  exact EX_seq (e2 := 1) (b := 1) (EX_tok (ch0 := 41) l1 (by omega)) PF_ret (fun q6 _ l6 k6 _ => EX_ret l6 k6)
