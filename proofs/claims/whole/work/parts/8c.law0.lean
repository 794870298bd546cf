/-! LAW: what a law's text comes to, in both readers at once -/
abbrev lPc : Type := Int32 × Int32
abbrev lOut : Type := (Nat × Nat) ⊕ (Nat × List lPc)
def lRn : Nat → List lPc → Option Nat
  | h, [] => some h
  | h, x :: l => if x.1 < 2 then lRn (h + 1) l else if 2 ≤ h then lRn (h - 1) l else none
theorem lRn_app : ∀ (a b : List lPc) (h : Nat), lRn h (a ++ b) = (lRn h a).bind (fun h' => lRn h' b)
  | [], b, h => rfl
  | x :: a, b, h => by
    rw [List.cons_append, lRn, lRn, lRn_app a b (h + 1), lRn_app a b (h - 1)]
    by_cases c : x.1 < 2
    · rw [if_pos c, if_pos c]
    · rw [if_neg c, if_neg c]
      by_cases c2 : 2 ≤ h
      · rw [if_pos c2, if_pos c2]
      · rw [if_neg c2, if_neg c2]; rfl
def cdC (r : Nat → Int32) : Nat → List lPc → Prop
  | _, [] => True
  | c, x :: l => r c = lc x.1 x.2 ∧ cdC r (c + 1) l
def cdM (s : ac_m) : Nat → List lPc → Prop
  | _, [] => True
  | c, x :: l => (s (299 + c) 0 = x.1 ∧ s (299 + c) 1 = x.2) ∧ cdM s (c + 1) l
theorem cdC_app {r : Nat → Int32} : ∀ (a b : List lPc) (c : Nat), cdC r c a → cdC r (c + a.length) b → cdC r c (a ++ b)
  | [], b, c, _, h => h
  | x :: a, b, c, h1, h2 => ⟨h1.1, cdC_app a b (c + 1) h1.2 (by rw [show c + 1 + a.length = c + (x :: a).length by rw [List.length_cons]; omega]; exact h2)⟩
theorem cdM_app {s : ac_m} : ∀ (a b : List lPc) (c : Nat), cdM s c a → cdM s (c + a.length) b → cdM s c (a ++ b)
  | [], b, c, _, h => h
  | x :: a, b, c, h1, h2 => ⟨h1.1, cdM_app a b (c + 1) h1.2 (by rw [show c + 1 + a.length = c + (x :: a).length by rw [List.length_cons]; omega]; exact h2)⟩
theorem cdC_fr {r r' : Nat → Int32} : ∀ (l : List lPc) (c : Nat), cdC r c l → (∀ j, j < c + l.length → r' j = r j) → cdC r' c l
  | [], _, _, _ => trivial
  | x :: l, c, h, f => by
    rw [List.length_cons] at f
    exact ⟨(f c (by omega)).trans h.1, cdC_fr l (c + 1) h.2 (fun j hj => f j (by omega))⟩
theorem cdM_fr {s s' : ac_m} : ∀ (l : List lPc) (c : Nat), cdM s c l → (∀ j, j < c + l.length → s' (299 + j) = s (299 + j)) → cdM s' c l
  | [], _, _, _ => trivial
  | x :: l, c, h, f => by
    rw [List.length_cons] at f
    refine ⟨?_, cdM_fr l (c + 1) h.2 (fun j hj => f j (by omega))⟩
    rw [f c (by omega)]; exact h.1
def frC (s s' : ac_m) : Prop := (∀ y, y ≠ 1 → y ≠ 29 → y ≠ 30 → s' y = s y) ∧ s' 1 1 = s 1 1 ∧ s' 1 2 = s 1 2
theorem frC.trans {s s1 s2 : ac_m} (h : frC s s1) (k : frC s1 s2) : frC s s2 := ⟨fun y y1 y2 y3 => (k.1 y y1 y2 y3).trans (h.1 y y1 y2 y3), k.2.1.trans h.2.1, k.2.2.trans h.2.2⟩
def okC (t : Nat → Nat) (n : Nat) (s s' : ac_m) (c q : Nat) (l : List lPc) : Prop := frC s s' ∧ s' 1 6 = s 1 6 ∧ (∃ p, p ≤ n ∧ skb t n p = q ∧ s' 1 3 = nI p) ∧ s' 29 3 = nI (c + l.length) ∧ (∀ j, j < c → s' 30 j = s 30 j) ∧ cdC (s' 30) c l
def badC (s s' : ac_m) (kd pl : Nat) : Prop := frC s s' ∧ s' 1 5 = nI kd ∧ s' 1 6 = nI pl
theorem okC.trans {t : Nat → Nat} {n : Nat} {s s1 s2 : ac_m} {c q1 q2 : Nat} {l1 l2 : List lPc} (h : okC t n s s1 c q1 l1) (k : okC t n s1 s2 (c + l1.length) q2 l2) : okC t n s s2 c q2 (l1 ++ l2) := by
  obtain ⟨h1, h2, h3, h4, h5, h6⟩ := h
  obtain ⟨k1, k2, k3, k4, k5, k6⟩ := k
  refine ⟨h1.trans k1, k2.trans h2, k3, ?_, fun j hj => (k5 j (by omega)).trans (h5 j hj), cdC_app _ _ _ (cdC_fr _ _ h6 (fun j hj => k5 j hj)) k6⟩
  rw [k4, List.length_append, Nat.add_assoc]
theorem okC_bad {t : Nat → Nat} {n : Nat} {s s1 s2 : ac_m} {c q1 kd pl : Nat} {l1 : List lPc} (h : okC t n s s1 c q1 l1) (k : badC s1 s2 kd pl) : badC s s2 kd pl := ⟨h.1.trans k.1, k.2⟩
theorem okC_CT {t : Nat → Nat} {n : Nat} {s s1 : ac_m} {c q1 : Nat} {l1 : List lPc} (T : CT s t n) (h : okC t n s s1 c q1 l1) : CT s1 t n := ⟨h.1.2.2.trans T.1, T.2.1, fun j hj => by rw [h.1.1 2 (by omega) (by omega) (by omega)]; exact T.2.2 j hj⟩
theorem okC_mv {t : Nat → Nat} {n : Nat} {s s1 : ac_m} {c p k : Nat} (e : s 29 3 = nI c) (hp : p ≤ n) (m : mv s s1 p k) : okC t n s s1 c (skb t n p) [] :=
  ⟨⟨fun y y1 _ _ => m.1 y y1, m.2.1 1 (by omega) (by omega), m.2.1 2 (by omega) (by omega)⟩, m.2.1 6 (by omega) (by omega), ⟨p, hp, rfl, m.2.2.1⟩, by rw [m.1 29 (by omega)]; exact e, fun j _ => by rw [m.1 30 (by omega)], trivial⟩
theorem bad_fl {s s1 : ac_m} {kd pl : Nat} (m : fl s s1 kd pl) : badC s s1 kd pl :=
  ⟨⟨fun y y1 _ _ => m.1 y y1, m.2.1 1 (by omega) (by omega) (by omega) (by omega), m.2.1 2 (by omega) (by omega) (by omega) (by omega)⟩, m.2.2⟩
theorem c_putL {t : Nat → Nat} {n c q : Nat} {v : Int32} {x : lPc} {Q : Int32 → ac_m → Prop} {s : ac_m} (e : s 29 3 = nI c) (hc : c < 150) (hv : v = lc x.1 x.2) (e3 : ∃ p, p ≤ n ∧ skb t n p = q ∧ s 1 3 = nI p) (h : ∀ s', okC t n s s' c q [x] → Q 1 s') : w_X4_put 29 v Q s := by
  unfold w_X4_put
  rw [e]
  refine ⟨fun z => absurd z (nI_pos (by omega)), fun _ => ⟨fun z => absurd z (nI_ge (a := c) (b := 150) hc (by omega)), fun _ => ⟨vp_in_nI hc (by omega), h _ ?_⟩⟩⟩
  rw [cl_nI (by omega), u_ne (by omega), e, nI_1]
  obtain ⟨p, hp, hq, e3⟩ := e3
  refine ⟨⟨fun y y1 y2 y3 => by rw [u_ne y2, u_ne y3], by rw [u_ne (by omega), u_ne (by omega)], by rw [u_ne (by omega), u_ne (by omega)]⟩, by rw [u_ne (by omega), u_ne (by omega)], ⟨p, hp, hq, by rw [u_ne (by omega), u_ne (by omega)]; exact e3⟩, u_eq, fun j hj => by rw [u_ne (by omega), u_at (by omega)], ?_, trivial⟩
  rw [u_ne (by omega), u_eq]; exact hv
def frM (s s' : ac_m) : Prop := (∀ y, y ≠ 69 → ¬ (299 ≤ y ∧ y ≤ 458) → s' y = s y) ∧ (∀ j, j ≠ 4 → j ≠ 5 → j ≠ 6 → j ≠ 8 → j ≠ 20 → s' 69 j = s 69 j)
theorem frM.trans {s s1 s2 : ac_m} (h : frM s s1) (k : frM s1 s2) : frM s s2 := ⟨fun y y1 y2 => (k.1 y y1 y2).trans (h.1 y y1 y2), fun j a b c d e => (k.2 j a b c d e).trans (h.2 j a b c d e)⟩
def okM (t : Nat → Nat) (n : Nat) (s s' : ac_m) (c q : Nat) (l : List lPc) : Prop := frM s s' ∧ (s' 69 5 = s 69 5 ∧ s' 69 6 = s 69 6 ∧ s' 69 8 = s 69 8) ∧ (∃ p, p ≤ n ∧ skb t n p = q ∧ s' 69 4 = nI p) ∧ s' 69 20 = nI (c + l.length) ∧ (∀ j, j < c → s' (299 + j) = s (299 + j)) ∧ cdM s' c l
def badM (n : Nat) (s s' : ac_m) (kd pl : Nat) : Prop := frM s s' ∧ s' 69 5 = nI kd ∧ s' 69 6 = nI pl ∧ ∃ r, r ≤ n ∧ s' 69 4 = nI r
theorem okM.trans {t : Nat → Nat} {n : Nat} {s s1 s2 : ac_m} {c q1 q2 : Nat} {l1 l2 : List lPc} (h : okM t n s s1 c q1 l1) (k : okM t n s1 s2 (c + l1.length) q2 l2) : okM t n s s2 c q2 (l1 ++ l2) := by
  obtain ⟨h1, h2, h3, h4, h5, h6⟩ := h
  obtain ⟨k1, k2, k3, k4, k5, k6⟩ := k
  refine ⟨h1.trans k1, ⟨k2.1.trans h2.1, k2.2.1.trans h2.2.1, k2.2.2.trans h2.2.2⟩, k3, ?_, fun j hj => (k5 j (by omega)).trans (h5 j hj), cdM_app _ _ _ (cdM_fr _ _ h6 (fun j hj => k5 j hj)) k6⟩
  rw [k4, List.length_append, Nat.add_assoc]
theorem okM_bad {t : Nat → Nat} {n : Nat} {s s1 s2 : ac_m} {c q1 kd pl : Nat} {l1 : List lPc} (h : okM t n s s1 c q1 l1) (k : badM n s1 s2 kd pl) : badM n s s2 kd pl := ⟨h.1.trans k.1, k.2⟩
theorem frM_MT {t : Nat → Nat} {n : Nat} {s s1 : ac_m} (T : MT s t n) (h : frM s s1) : MT s1 t n := ⟨(h.2 2 (by omega) (by omega) (by omega) (by omega) (by omega)).trans T.1, T.2.1, fun j hj => by rw [h.1 70 (by omega) (by omega)]; exact T.2.2 j hj⟩
theorem okM_mv {t : Nat → Nat} {n : Nat} {s s1 : ac_m} {c p : Nat} (e : s 69 20 = nI c) (hp : p ≤ n) (m : mvM s s1 p) : okM t n s s1 c (skb t n p) [] :=
  ⟨⟨fun y y1 _ => m.1 y y1, fun j j4 _ _ _ _ => m.2.1 j j4⟩, ⟨m.2.1 5 (by omega), m.2.1 6 (by omega), m.2.1 8 (by omega)⟩, ⟨p, hp, rfl, m.2.2⟩, by rw [m.2.1 20 (by omega)]; exact e, fun j _ => by rw [m.1 (299 + j) (by omega)], trivial⟩
theorem bad_flM {n : Nat} {s s1 : ac_m} {kd pl : Nat} (m : flM s s1 n kd pl) : badM n s s1 kd pl :=
  ⟨⟨fun y y1 _ => m.1 y y1, fun j j4 j5 j6 _ _ => m.2.1 j j4 j5 j6⟩, m.2.2.1, m.2.2.2.1, m.2.2.2.2⟩
theorem m_notesL {t : Nat → Nat} {n c q : Nat} {x : lPc} {Q : ac_m → Prop} {s : ac_m} (e5 : s 69 5 = 0) (e : s 69 20 = nI c) (hc : c < 160) (e4 : ∃ p, p ≤ n ∧ skb t n p = q ∧ s 69 4 = nI p) (h : ∀ s', okM t n s s' c q [x] → Q s') : w_X12_notes x.1 x.2 Q s := by
  unfold w_X12_notes
  have z0 : (0 : Int32).toNatClampNeg = 0 := rfl
  have z1 : (1 : Int32).toNatClampNeg = 1 := rfl
  refine ⟨fun _ => ?_, fun z => absurd e5 z⟩
  rw [e, cl_nI (by omega), z0, z1, u_ne (show 69 ≠ 299 + c by omega), e, cl_nI (by omega), u_ne (show 69 ≠ 299 + c by omega), u_ne (show 69 ≠ 299 + c by omega), e, nI_1]
  refine ⟨vp_in_nI hc (by omega), vp_in_nI hc (by omega), h _ ?_⟩
  obtain ⟨p, hp, hq, e4⟩ := e4
  have g (j : Nat) (hj : j ≠ 20) : (ac_u (ac_u (ac_u s (299 + c) 0 x.1) (299 + c) 1 x.2) 69 20 (nI (c + 1))) 69 j = s 69 j := by rw [u_at hj, u_ne (by omega), u_ne (by omega)]
  refine ⟨⟨fun y y1 y2 => by rw [u_ne y1, u_ne (by omega), u_ne (by omega)], fun j _ _ _ _ j20 => g j j20⟩, ⟨g 5 (by omega), g 6 (by omega), g 8 (by omega)⟩, ⟨p, hp, hq, by rw [g 4 (by omega)]; exact e4⟩, u_eq, fun j hj => by rw [u_ne (by omega), u_ne (by omega), u_ne (by omega)], ⟨?_, ?_⟩, trivial⟩
  · rw [u_ne (by omega), u_at (by omega), u_eq]
  · rw [u_ne (by omega), u_eq]
def CS (t : Nat → Nat) (n : Nat) (R : (Int32 → ac_m → Prop) → ac_m → Prop) (q : Nat) (o : lOut) : Prop := ∀ (Q : Int32 → ac_m → Prop) (s : ac_m) (p c : Nat), CT s t n → p ≤ n → skb t n p = q → s 1 3 = nI p → s 29 3 = nI c → c ≤ q → (∀ q' l, o = .inr (q', l) → ∀ s', okC t n s s' c q' l → Q 1 s') → (∀ kd pl, o = .inl (kd, pl) → ∀ s', badC s s' kd pl → Q 0 s') → R Q s
def MS (t : Nat → Nat) (n : Nat) (R : (ac_m → Prop) → ac_m → Prop) (q d : Nat) (o : lOut) : Prop := ∀ (Q : ac_m → Prop) (s : ac_m) (p c : Nat), MT s t n → p ≤ n → skb t n p = q → s 69 4 = nI p → s 69 5 = 0 → s 69 8 = nI d → s 69 20 = nI c → c ≤ q → (∀ q' l, o = .inr (q', l) → ∀ s', okM t n s s' c q' l → Q s') → (∀ kd pl, o = .inl (kd, pl) → ∀ s', badM n s s' kd pl → Q s') → R Q s
def gO (n b q : Nat) (o : lOut) : Prop := (∀ q' l, o = .inr (q', l) → q + l.length ≤ q' ∧ q' ≤ n ∧ (∀ x, x ∈ l → lOK x.1 x.2) ∧ ∀ h, lRn (h + b) l = some (h + 1)) ∧ (∀ kd pl, o = .inl (kd, pl) → kd = 1 ∨ kd = 2 ∨ kd = 3)
