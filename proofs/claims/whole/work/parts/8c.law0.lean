/-! LAW: what a law's text comes to, in both readers at once -/
abbrev lPc : Type := Int32 × Int32
abbrev lOut : Type := (Nat × Nat) ⊕ (Nat × List lPc)
def lRn : Nat → List lPc → Option Nat
  | h, [] => some h
  | h, x :: l => if x.1 < 2 then lRn (h + 1) l else if 2 ≤ h then lRn (h - 1) l else none
theorem lRn_app : ∀ (a b : List lPc) (h : Nat), lRn h (a ++ b) = (lRn h a).bind (fun h' => lRn h' b)
  | [], b, h => rfl
  | x :: a, b, h => by
    rw [List.cons_append, lRn, lRn, lRn_app a b (h + 1), lRn_app a b (h - 1)]
    by_cases c : x.1 < 2
    · rw [if_pos c, if_pos c]
    · rw [if_neg c, if_neg c]
      by_cases c2 : 2 ≤ h
      · rw [if_pos c2, if_pos c2]
      · rw [if_neg c2, if_neg c2]; rfl
def cdC (r : Nat → Int32) : Nat → List lPc → Prop
  | _, [] => True
  | c, x :: l => r c = lc x.1 x.2 ∧ cdC r (c + 1) l
def cdM (s : ac_m) : Nat → List lPc → Prop
  | _, [] => True
  | c, x :: l => (s (299 + c) 0 = x.1 ∧ s (299 + c) 1 = x.2) ∧ cdM s (c + 1) l
theorem cdC_app {r : Nat → Int32} : ∀ (a b : List lPc) (c : Nat), cdC r c a → cdC r (c + a.length) b → cdC r c (a ++ b)
  | [], b, c, _, h => h
  | x :: a, b, c, h1, h2 => ⟨h1.1, cdC_app a b (c + 1) h1.2 (by rw [show c + 1 + a.length = c + (x :: a).length by rw [List.length_cons]; omega]; exact h2)⟩
theorem cdM_app {s : ac_m} : ∀ (a b : List lPc) (c : Nat), cdM s c a → cdM s (c + a.length) b → cdM s c (a ++ b)
  | [], b, c, _, h => h
  | x :: a, b, c, h1, h2 => ⟨h1.1, cdM_app a b (c + 1) h1.2 (by rw [show c + 1 + a.length = c + (x :: a).length by rw [List.length_cons]; omega]; exact h2)⟩
theorem cdC_fr {r r' : Nat → Int32} : ∀ (l : List lPc) (c : Nat), cdC r c l → (∀ j, j < c + l.length → r' j = r j) → cdC r' c l
  | [], _, _, _ => trivial
  | x :: l, c, h, f => by
    rw [List.length_cons] at f
    exact ⟨(f c (by omega)).trans h.1, cdC_fr l (c + 1) h.2 (fun j hj => f j (by omega))⟩
theorem cdM_fr {s s' : ac_m} : ∀ (l : List lPc) (c : Nat), cdM s c l → (∀ j, j < c + l.length → s' (299 + j) = s (299 + j)) → cdM s' c l
  | [], _, _, _ => trivial
  | x :: l, c, h, f => by
    rw [List.length_cons] at f
    refine ⟨?_, cdM_fr l (c + 1) h.2 (fun j hj => f j (by omega))⟩
    rw [f c (by omega)]; exact h.1
def frC (s s' : ac_m) : Prop := (∀ y, y ≠ 1 → y ≠ 29 → y ≠ 30 → s' y = s y) ∧ s' 1 1 = s 1 1 ∧ s' 1 2 = s 1 2
theorem frC.trans {s s1 s2 : ac_m} (h : frC s s1) (k : frC s1 s2) : frC s s2 := ⟨fun y y1 y2 y3 => (k.1 y y1 y2 y3).trans (h.1 y y1 y2 y3), k.2.1.trans h.2.1, k.2.2.trans h.2.2⟩
def okC (t : Nat → Nat) (n : Nat) (s s' : ac_m) (c q : Nat) (l : List lPc) : Prop := frC s s' ∧ s' 1 6 = s 1 6 ∧ (∃ p, p ≤ n ∧ skb t n p = q ∧ s' 1 3 = nI p) ∧ s' 29 3 = nI (c + l.length) ∧ (∀ j, j < c → s' 30 j = s 30 j) ∧ cdC (s' 30) c l
def badC (s s' : ac_m) (kd pl : Nat) : Prop := frC s s' ∧ s' 1 5 = nI kd ∧ s' 1 6 = nI pl
theorem okC.trans {t : Nat → Nat} {n : Nat} {s s1 s2 : ac_m} {c q1 q2 : Nat} {l1 l2 : List lPc} (h : okC t n s s1 c q1 l1) (k : okC t n s1 s2 (c + l1.length) q2 l2) : okC t n s s2 c q2 (l1 ++ l2) := by
  obtain ⟨h1, h2, h3, h4, h5, h6⟩ := h
  obtain ⟨k1, k2, k3, k4, k5, k6⟩ := k
  refine ⟨h1.trans k1, k2.trans h2, k3, ?_, fun j hj => (k5 j (by omega)).trans (h5 j hj), cdC_app _ _ _ (cdC_fr _ _ h6 (fun j hj => k5 j hj)) k6⟩
  rw [k4, List.length_append, Nat.add_assoc]
theorem okC_bad {t : Nat → Nat} {n : Nat} {s s1 s2 : ac_m} {c q1 kd pl : Nat} {l1 : List lPc} (h : okC t n s s1 c q1 l1) (k : badC s1 s2 kd pl) : badC s s2 kd pl := ⟨h.1.trans k.1, k.2⟩
theorem okC_CT {t : Nat → Nat} {n : Nat} {s s1 : ac_m} {c q1 : Nat} {l1 : List lPc} (T : CT s t n) (h : okC t n s s1 c q1 l1) : CT s1 t n := ⟨h.1.2.2.trans T.1, T.2.1, fun j hj => by rw [h.1.1 2 (by omega) (by omega) (by omega)]; exact T.2.2 j hj⟩
theorem okC_mv {t : Nat → Nat} {n : Nat} {s s1 : ac_m} {c p k : Nat} (e : s 29 3 = nI c) (hp : p ≤ n) (m : mv s s1 p k) : okC t n s s1 c (skb t n p) [] :=
  ⟨⟨fun y y1 _ _ => m.1 y y1, m.2.1 1 (by omega) (by omega), m.2.1 2 (by omega) (by omega)⟩, m.2.1 6 (by omega) (by omega), ⟨p, hp, rfl, m.2.2.1⟩, by rw [m.1 29 (by omega)]; exact e, fun j _ => by rw [m.1 30 (by omega)], trivial⟩
theorem bad_fl {s s1 : ac_m} {kd pl : Nat} (m : fl s s1 kd pl) : badC s s1 kd pl :=
  ⟨⟨fun y y1 _ _ => m.1 y y1, m.2.1 1 (by omega) (by omega) (by omega) (by omega), m.2.1 2 (by omega) (by omega) (by omega) (by omega)⟩, m.2.2⟩
theorem c_putL {t : Nat → Nat} {n c q : Nat} {v : Int32} {x : lPc} {Q : Int32 → ac_m → Prop} {s : ac_m} (e : s 29 3 = nI c) (hc : c < 150) (hv : v = lc x.1 x.2) (e3 : ∃ p, p ≤ n ∧ skb t n p = q ∧ s 1 3 = nI p) (h : ∀ s', okC t n s s' c q [x] → Q 1 s') : w_X4_put 29 v Q s := by
  unfold w_X4_put
  rw [e]
  refine ⟨fun z => absurd z (nI_pos (by omega)), fun _ => ⟨fun z => absurd z (nI_ge (a := c) (b := 150) hc (by omega)), fun _ => ⟨vp_in_nI hc (by omega), h _ ?_⟩⟩⟩
  rw [cl_nI (by omega), u_ne (by omega), e, nI_1]
  obtain ⟨p, hp, hq, e3⟩ := e3
  refine ⟨⟨fun y y1 y2 y3 => by rw [u_ne y2, u_ne y3], by rw [u_ne (by omega), u_ne (by omega)], by rw [u_ne (by omega), u_ne (by omega)]⟩, by rw [u_ne (by omega), u_ne (by omega)], ⟨p, hp, hq, by rw [u_ne (by omega), u_ne (by omega)]; exact e3⟩, u_eq, fun j hj => by rw [u_ne (by omega), u_at (by omega)], ?_, trivial⟩
  rw [u_ne (by omega), u_eq]; exact hv
def frM (s s' : ac_m) : Prop := (∀ y, y ≠ 69 → ¬ (299 ≤ y ∧ y ≤ 458) → s' y = s y) ∧ (∀ j, j ≠ 4 → j ≠ 5 → j ≠ 6 → j ≠ 8 → j ≠ 20 → s' 69 j = s 69 j)
theorem frM.trans {s s1 s2 : ac_m} (h : frM s s1) (k : frM s1 s2) : frM s s2 := ⟨fun y y1 y2 => (k.1 y y1 y2).trans (h.1 y y1 y2), fun j a b c d e => (k.2 j a b c d e).trans (h.2 j a b c d e)⟩
def okM (t : Nat → Nat) (n : Nat) (s s' : ac_m) (c q : Nat) (l : List lPc) : Prop := frM s s' ∧ (s' 69 5 = s 69 5 ∧ s' 69 6 = s 69 6 ∧ s' 69 8 = s 69 8) ∧ (∃ p, p ≤ n ∧ skb t n p = q ∧ s' 69 4 = nI p) ∧ s' 69 20 = nI (c + l.length) ∧ (∀ j, j < c → s' (299 + j) = s (299 + j)) ∧ cdM s' c l
def badM (n : Nat) (s s' : ac_m) (kd pl : Nat) : Prop := frM s s' ∧ s' 69 5 = nI kd ∧ s' 69 6 = nI pl ∧ ∃ r, r ≤ n ∧ s' 69 4 = nI r
theorem okM.trans {t : Nat → Nat} {n : Nat} {s s1 s2 : ac_m} {c q1 q2 : Nat} {l1 l2 : List lPc} (h : okM t n s s1 c q1 l1) (k : okM t n s1 s2 (c + l1.length) q2 l2) : okM t n s s2 c q2 (l1 ++ l2) := by
  obtain ⟨h1, h2, h3, h4, h5, h6⟩ := h
  obtain ⟨k1, k2, k3, k4, k5, k6⟩ := k
  refine ⟨h1.trans k1, ⟨k2.1.trans h2.1, k2.2.1.trans h2.2.1, k2.2.2.trans h2.2.2⟩, k3, ?_, fun j hj => (k5 j (by omega)).trans (h5 j hj), cdM_app _ _ _ (cdM_fr _ _ h6 (fun j hj => k5 j hj)) k6⟩
  rw [k4, List.length_append, Nat.add_assoc]
theorem okM_bad {t : Nat → Nat} {n : Nat} {s s1 s2 : ac_m} {c q1 kd pl : Nat} {l1 : List lPc} (h : okM t n s s1 c q1 l1) (k : badM n s1 s2 kd pl) : badM n s s2 kd pl := ⟨h.1.trans k.1, k.2⟩
theorem frM_MT {t : Nat → Nat} {n : Nat} {s s1 : ac_m} (T : MT s t n) (h : frM s s1) : MT s1 t n := ⟨(h.2 2 (by omega) (by omega) (by omega) (by omega) (by omega)).trans T.1, T.2.1, fun j hj => by rw [h.1 70 (by omega) (by omega)]; exact T.2.2 j hj⟩
theorem okM_mv {t : Nat → Nat} {n : Nat} {s s1 : ac_m} {c p : Nat} (e : s 69 20 = nI c) (hp : p ≤ n) (m : mvM s s1 p) : okM t n s s1 c (skb t n p) [] :=
  ⟨⟨fun y y1 _ => m.1 y y1, fun j j4 _ _ _ _ => m.2.1 j j4⟩, ⟨m.2.1 5 (by omega), m.2.1 6 (by omega), m.2.1 8 (by omega)⟩, ⟨p, hp, rfl, m.2.2⟩, by rw [m.2.1 20 (by omega)]; exact e, fun j _ => by rw [m.1 (299 + j) (by omega)], trivial⟩
theorem bad_flM {n : Nat} {s s1 : ac_m} {kd pl : Nat} (m : flM s s1 n kd pl) : badM n s s1 kd pl :=
  ⟨⟨fun y y1 _ => m.1 y y1, fun j j4 j5 j6 _ _ => m.2.1 j j4 j5 j6⟩, m.2.2.1, m.2.2.2.1, m.2.2.2.2⟩
theorem m_notesL {t : Nat → Nat} {n c q : Nat} {x : lPc} {Q : ac_m → Prop} {s : ac_m} (e5 : s 69 5 = 0) (e : s 69 20 = nI c) (hc : c < 160) (e4 : ∃ p, p ≤ n ∧ skb t n p = q ∧ s 69 4 = nI p) (h : ∀ s', okM t n s s' c q [x] → Q s') : w_X12_notes x.1 x.2 Q s := by
  unfold w_X12_notes
  have z0 : (0 : Int32).toNatClampNeg = 0 := rfl
  have z1 : (1 : Int32).toNatClampNeg = 1 := rfl
  refine ⟨fun _ => ?_, fun z => absurd e5 z⟩
  rw [e, cl_nI (by omega), z0, z1, u_ne (show 69 ≠ 299 + c by omega), e, cl_nI (by omega), u_ne (show 69 ≠ 299 + c by omega), u_ne (show 69 ≠ 299 + c by omega), e, nI_1]
  refine ⟨vp_in_nI hc (by omega), vp_in_nI hc (by omega), h _ ?_⟩
  obtain ⟨p, hp, hq, e4⟩ := e4
  have g (j : Nat) (hj : j ≠ 20) : (ac_u (ac_u (ac_u s (299 + c) 0 x.1) (299 + c) 1 x.2) 69 20 (nI (c + 1))) 69 j = s 69 j := by rw [u_at hj, u_ne (by omega), u_ne (by omega)]
  refine ⟨⟨fun y y1 y2 => by rw [u_ne y1, u_ne (by omega), u_ne (by omega)], fun j _ _ _ _ j20 => g j j20⟩, ⟨g 5 (by omega), g 6 (by omega), g 8 (by omega)⟩, ⟨p, hp, hq, by rw [g 4 (by omega)]; exact e4⟩, u_eq, fun j hj => by rw [u_ne (by omega), u_ne (by omega), u_ne (by omega)], ⟨?_, ?_⟩, trivial⟩
  · rw [u_ne (by omega), u_at (by omega), u_eq]
  · rw [u_ne (by omega), u_eq]
def CS (t : Nat → Nat) (n e : Nat) (R : (Int32 → ac_m → Prop) → ac_m → Prop) (q : Nat) (o : lOut) : Prop := ∀ (Q : Int32 → ac_m → Prop) (s : ac_m) (p c : Nat), CT s t n → p ≤ n → skb t n p = q → s 1 3 = nI p → s 29 3 = nI c → c + e ≤ q → (∀ q' l, o = .inr (q', l) → ∀ s', okC t n s s' c q' l → Q 1 s') → (∀ kd pl, o = .inl (kd, pl) → ∀ s', badC s s' kd pl → Q 0 s') → R Q s
def MS (t : Nat → Nat) (n e : Nat) (R : (ac_m → Prop) → ac_m → Prop) (q d : Nat) (o : lOut) : Prop := ∀ (Q : ac_m → Prop) (s : ac_m) (p c : Nat), MT s t n → p ≤ n → skb t n p = q → s 69 4 = nI p → s 69 5 = 0 → s 69 8 = nI d → s 69 20 = nI c → c + e ≤ q → (∀ q' l, o = .inr (q', l) → ∀ s', okM t n s s' c q' l → Q s') → (∀ kd pl, o = .inl (kd, pl) → ∀ s', badM n s s' kd pl → Q s') → R Q s
/-- e, e': how many pieces may still be laid for what was read; a, b: how high the stack stands -/
def gO (t : Nat → Nat) (n e e' a b q : Nat) (o : lOut) : Prop := (∀ q' l, o = .inr (q', l) → q + l.length + e' ≤ q' + e ∧ q ≤ q' ∧ q' ≤ n ∧ skb t n q' = q' ∧ (∀ x, x ∈ l → lOK x.1 x.2) ∧ ∀ h, lRn (h + a) l = some (h + b)) ∧ (∀ kd pl, o = .inl (kd, pl) → kd = 1 ∨ kd = 2 ∨ kd = 3)
def EX (t : Nat → Nat) (n d e e' a b : Nat) (RC : (Int32 → ac_m → Prop) → ac_m → Prop) (RM : (ac_m → Prop) → ac_m → Prop) (q : Nat) : Prop := ∃ o, CS t n e RC q o ∧ MS t n e RM q d o ∧ gO t n e e' a b q o
def PF (RM : (ac_m → Prop) → ac_m → Prop) : Prop := ∀ (Q : ac_m → Prop) (s : ac_m), ¬ s 69 5 = 0 → Q s → RM Q s
theorem EX_lift {t : Nat → Nat} {n d e e' a b q : Nat} {RC : (Int32 → ac_m → Prop) → ac_m → Prop} {RM : (ac_m → Prop) → ac_m → Prop} (k m : Nat) (h : EX t n d e e' a b RC RM q) : EX t n d (e + k) (e' + k) (a + m) (b + m) RC RM q := by
  obtain ⟨o, C, M, G⟩ := h
  refine ⟨o, fun Q s p c T hp hq e3 e29 hc => C Q s p c T hp hq e3 e29 (by omega), fun Q s p c T hp hq e4 e5 e8 e20 hc => M Q s p c T hp hq e4 e5 e8 e20 (by omega), fun q' l eo => ?_, G.2⟩
  obtain ⟨g1, g2, g3, g4, g5, g6⟩ := G.1 q' l eo
  refine ⟨by omega, g2, g3, g4, g5, fun h => ?_⟩
  rw [show h + (a + m) = h + m + a by omega, g6, show h + m + b = h + (b + m) by omega]
theorem EX_tok {t : Nat → Nat} {n d e a q ch0 : Nat} (hq : q ≤ n) (hc : ch0 < 128) : EX t n d e (e + 1) a a (w_X10_expects (nI ch0)) (w_X12_sign (nI ch0)) q := by
  by_cases y : ch t n q = ch0
  · have ql : q < n := by
      rcases Nat.lt_or_ge q n with z | z
      · exact z
      · rw [ch_end z] at y; omega
    have sk := skb_le' (t := t) (n := n) (p := q + 1) ql
    refine ⟨.inr (skb t n (q + 1), []), ?_, ?_, ?_, fun _ _ eo => by cases eo⟩
    · intro Q s p c T hp hq e3 e29 _ hS _
      subst hq
      exact c_expects T hp e3 hc (fun _ s1 m1 => hS _ _ rfl s1 (okC_mv e29 (by omega) m1)) (fun z => absurd y z)
    · intro Q s p c T hp hq e4 e5 _ e20 _ hS _
      subst hq
      exact m_sign T hp e4 e5 hc (fun _ s1 m1 => hS _ _ rfl s1 (okM_mv e20 (by omega) m1)) (fun z => absurd y z)
    · intro q' l eo
      cases eo
      exact ⟨by rw [List.length_nil]; omega, by omega, by omega, skb_0 sk.2.2, fun x hx => (by cases hx), fun h => rfl⟩
  · refine ⟨.inl (1, q), ?_, ?_, fun _ _ eo => (by cases eo), fun _ _ eo => by cases eo; omega⟩
    · intro Q s p c T hp hq e3 e29 _ _ hF
      subst hq
      exact c_expects T hp e3 hc (fun z => absurd z y) (fun _ s1 f1 => hF _ _ rfl s1 (bad_fl f1))
    · intro Q s p c T hp hq e4 e5 _ e20 _ _ hF
      subst hq
      exact m_sign T hp e4 e5 hc (fun z => absurd z y) (fun _ s1 f1 => hF _ _ rfl s1 (bad_flM f1))
theorem EX_put {t : Nat → Nat} {n d e a b q : Nat} {v : Int32} (x : lPc) (n150 : n ≤ 150) (hq : q ≤ n) (qq : skb t n q = q) (hv : v = lc x.1 x.2) (hx : lOK x.1 x.2) (hr : ∀ h, lRn (h + a) [x] = some (h + b)) : EX t n d (e + 1) e a b (w_X4_put 29 v) (w_X12_notes x.1 x.2) q := by
  refine ⟨.inr (q, [x]), ?_, ?_, ?_, fun _ _ eo => by cases eo⟩
  · intro Q s p c T hp hq e3 e29 hc hS _
    exact c_putL e29 (by omega) hv ⟨p, hp, hq, e3⟩ (fun s' ok => hS _ _ rfl s' ok)
  · intro Q s p c T hp hq e4 e5 _ e20 hc hS _
    exact m_notesL e5 e20 (by omega) ⟨p, hp, hq, e4⟩ (fun s' ok => hS _ _ rfl s' ok)
  · intro q' l eo
    cases eo
    exact ⟨by rw [List.length_singleton]; omega, by omega, hq, qq, fun y hy => by rw [List.mem_singleton] at hy; rw [hy]; exact hx, hr⟩
theorem EX_ret {t : Nat → Nat} {n d e a q : Nat} (hq : q ≤ n) (qq : skb t n q = q) : EX t n d e e a a (fun Q s => Q 1 s) (fun Q s => Q s) q := by
  refine ⟨.inr (q, []), ?_, ?_, ?_, fun _ _ eo => by cases eo⟩
  · intro Q s p c T hp hq e3 e29 hc hS _
    exact hS _ _ rfl s ⟨⟨fun _ _ _ _ => rfl, rfl, rfl⟩, rfl, ⟨p, hp, hq, e3⟩, e29, fun _ _ => rfl, trivial⟩
  · intro Q s p c T hp hq e4 e5 _ e20 hc hS _
    exact hS _ _ rfl s ⟨⟨fun _ _ _ => rfl, fun _ _ _ _ _ _ => rfl⟩, ⟨rfl, rfl, rfl⟩, ⟨p, hp, hq, e4⟩, e20, fun _ _ => rfl, trivial⟩
  · intro q' l eo
    cases eo
    exact ⟨by rw [List.length_nil]; omega, by omega, hq, qq, fun x hx => (by cases hx), fun h => rfl⟩
theorem EX_seq {t : Nat → Nat} {n d e1 e2 e3 a b c0 q : Nat} {RC1 RC2 : (Int32 → ac_m → Prop) → ac_m → Prop} {RM1 RM2 : (ac_m → Prop) → ac_m → Prop} (h1 : EX t n d e1 e2 a b RC1 RM1 q) (pf : PF RM2) (h2 : ∀ q1, q ≤ q1 → q1 ≤ n → skb t n q1 = q1 → q + e2 ≤ q1 + e1 → EX t n d e2 e3 b c0 RC2 RM2 q1) : EX t n d e1 e3 a c0 (fun Q s => RC1 (fun r s1 => (r = 0 → Q 0 s1) ∧ (¬ r = 0 → RC2 Q s1)) s) (fun Q s => RM1 (fun s1 => RM2 Q s1) s) q := by
  obtain ⟨o, C, M, G⟩ := h1
  rcases o with ⟨kd, pl⟩ | ⟨q1, l1⟩
  · refine ⟨.inl (kd, pl), ?_, ?_, fun _ _ eo => (by cases eo), G.2⟩
    · intro Q s p c T hp hq e3 e29 hc _ hF
      exact C _ s p c T hp hq e3 e29 hc (fun _ _ eo => by cases eo) (fun kd pl eo s' bd => m_if0B (hF kd pl eo s' bd))
    · intro Q s p c T hp hq e4 e5 e8 e20 hc _ hF
      refine M _ s p c T hp hq e4 e5 e8 e20 hc (fun _ _ eo => by cases eo) (fun kd pl eo s' bd => ?_)
      have k := G.2 kd pl eo
      exact pf _ _ (by rw [bd.2.1]; exact nI_k k) (hF kd pl eo s' bd)
  · obtain ⟨g1, g2, g3, g4, g5, g6⟩ := G.1 q1 l1 rfl
    obtain ⟨o2, C2, M2, G2⟩ := h2 q1 g2 g3 g4 (by omega)
    rcases o2 with ⟨kd, pl⟩ | ⟨q2, l2⟩
    · refine ⟨.inl (kd, pl), ?_, ?_, fun _ _ eo => (by cases eo), G2.2⟩
      · intro Q s p c T hp hq e3 e29 hc _ hF
        refine C _ s p c T hp hq e3 e29 hc (fun q' l eo s1 ok => ?_) (fun _ _ eo => by cases eo)
        cases eo
        obtain ⟨p1, hp1, hq1, e31⟩ := ok.2.2.1
        exact m_if1B (C2 _ s1 p1 _ (okC_CT T ok) hp1 hq1 e31 ok.2.2.2.1 (by omega) (fun _ _ eo => by cases eo) (fun kd pl eo s' bd => hF kd pl eo s' (okC_bad ok bd)))
      · intro Q s p c T hp hq e4 e5 e8 e20 hc _ hF
        refine M _ s p c T hp hq e4 e5 e8 e20 hc (fun q' l eo s1 ok => ?_) (fun _ _ eo => by cases eo)
        cases eo
        obtain ⟨p1, hp1, hq1, e41⟩ := ok.2.2.1
        exact M2 _ s1 p1 _ (frM_MT T ok.1) hp1 hq1 e41 (ok.2.1.1.trans e5) (ok.2.1.2.2.trans e8) ok.2.2.2.1 (by omega) (fun _ _ eo => by cases eo) (fun kd pl eo s' bd => hF kd pl eo s' (okM_bad ok bd))
    · obtain ⟨k1, k2, k3, k4, k5, k6⟩ := G2.1 q2 l2 rfl
      refine ⟨.inr (q2, l1 ++ l2), ?_, ?_, fun q' l eo => ?_, fun _ _ eo => by cases eo⟩
      · intro Q s p c T hp hq e3 e29 hc hS _
        refine C _ s p c T hp hq e3 e29 hc (fun q' l eo s1 ok => ?_) (fun _ _ eo => by cases eo)
        cases eo
        obtain ⟨p1, hp1, hq1, e31⟩ := ok.2.2.1
        exact m_if1B (C2 _ s1 p1 _ (okC_CT T ok) hp1 hq1 e31 ok.2.2.2.1 (by omega) (fun q' l eo s' ok2 => by cases eo; exact hS _ _ rfl s' (ok.trans ok2)) (fun _ _ eo => by cases eo))
      · intro Q s p c T hp hq e4 e5 e8 e20 hc hS _
        refine M _ s p c T hp hq e4 e5 e8 e20 hc (fun q' l eo s1 ok => ?_) (fun _ _ eo => by cases eo)
        cases eo
        obtain ⟨p1, hp1, hq1, e41⟩ := ok.2.2.1
        exact M2 _ s1 p1 _ (frM_MT T ok.1) hp1 hq1 e41 (ok.2.1.1.trans e5) (ok.2.1.2.2.trans e8) ok.2.2.2.1 (by omega) (fun q' l eo s' ok2 => by cases eo; exact hS _ _ rfl s' (ok.trans ok2)) (fun _ _ eo => by cases eo)
      · cases eo
        refine ⟨by rw [List.length_append]; omega, by omega, k3, k4, fun x hx => ?_, fun h => ?_⟩
        · rcases List.mem_append.1 hx with y | y
          · exact g5 x y
          · exact k5 x y
        · rw [lRn_app, g6, Option.bind_some, k6]
theorem EX_iff {t : Nat → Nat} {n d e e' a b q : Nat} {RC RC' : (Int32 → ac_m → Prop) → ac_m → Prop} {RM RM' : (ac_m → Prop) → ac_m → Prop} (hC : ∀ Q s, RC Q s → RC' Q s) (hM : ∀ Q s, RM Q s → RM' Q s) (h : EX t n d e e' a b RC RM q) : EX t n d e e' a b RC' RM' q := by
  obtain ⟨o, C, M, G⟩ := h
  exact ⟨o, fun Q s p c h1 h2 h3 h4 h5 h6 h7 h8 => hC _ _ (C Q s p c h1 h2 h3 h4 h5 h6 h7 h8), fun Q s p c h1 h2 h3 h4 h5 h6 h7 h8 h9 h10 => hM _ _ (M Q s p c h1 h2 h3 h4 h5 h6 h7 h8 h9 h10), G⟩
theorem PF_sign {c : Int32} : PF (w_X12_sign c) := fun Q s ne h => ⟨fun z => absurd z ne, fun _ => h⟩
theorem PF_notes {a b : Int32} : PF (w_X12_notes a b) := fun Q s ne h => ⟨fun z => absurd z ne, fun _ => h⟩
theorem PF_seq {R1 R2 : (ac_m → Prop) → ac_m → Prop} (h1 : PF R1) (h2 : PF R2) : PF (fun Q s => R1 (fun s1 => R2 Q s1) s) := fun Q s ne h => h1 _ s ne (h2 _ s ne h)
