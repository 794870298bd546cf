/-! STORED MEADOWS -/
def stR (X : Nat → Int32) (p : Nat) (x : ro) : Prop :=
  (∀ b, b < 13 → X (p + (6 + b)) = x b ∧ X (p + (32 + b)) = x (13 + b) ∧ X (p + (19 + b)) = x (26 + b)) ∧ (∀ f, f < 6 → X (p + f) = x (39 + f)) ∧ (∀ k, k < 36 → X (p + (45 + k)) = x (45 + k)) ∧ X (p + 82) = x 81 ∧ X (p + 81) = x 82
theorem iS_st {X y : Nat → Int32} {p q : Nat} : iS X p y q ↔ stR X p (fun k => y (q + k)) := Iff.rfl
theorem stR_cong {X X' : Nat → Int32} {p : Nat} {x x' : ro} (h : stR X p x) (hX : ∀ j, j < 83 → X' (p + j) = X (p + j)) (hx : ∀ j, j < 83 → x' j = x j) : stR X' p x' := by
  obtain ⟨h1, h2, h3, h4, h5⟩ := h
  refine ⟨fun b hb => ?_, fun f hf => ?_, fun k hk => ?_, ?_, ?_⟩
  · rw [hX _ (by omega), hX _ (by omega), hX _ (by omega), hx _ (by omega), hx _ (by omega), hx _ (by omega)]; exact h1 b hb
  · rw [hX _ (by omega), hx _ (by omega)]; exact h2 f hf
  · rw [hX _ (by omega), hx _ (by omega)]; exact h3 k hk
  · rw [hX _ (by omega), hx _ (by omega)]; exact h4
  · rw [hX _ (by omega), hx _ (by omega)]; exact h5
theorem stR_move {X X' : Nat → Int32} {p p' : Nat} {x : ro} (h : stR X p x) (hX : ∀ j, j < 83 → X' (p' + j) = X (p + j)) : stR X' p' x := by
  obtain ⟨h1, h2, h3, h4, h5⟩ := h
  refine ⟨fun b hb => ?_, fun f hf => ?_, fun k hk => ?_, ?_, ?_⟩
  · rw [hX _ (by omega), hX _ (by omega), hX _ (by omega)]; exact h1 b hb
  · rw [hX _ (by omega)]; exact h2 f hf
  · rw [hX _ (by omega)]; exact h3 k hk
  · rw [hX _ (by omega)]; exact h4
  · rw [hX _ (by omega)]; exact h5
theorem lims {p n : Nat} (hp : p + 83 ≤ n) (hn : n < 2147483648) : nI p ≤ (Int32.ofNat n) - (83 : Int32) := by
  have e : (Int32.ofNat n) - (83 : Int32) = nI (n - 83) := by
    have := nI_add (n - 83) 83
    rw [show n - 83 + 83 = n by omega] at this
    show nI n - nI 83 = _
    rw [← this]; grind
  rw [e]
  exact nI_le (by omega) (by omega)
theorem sums83 (p : Nat) : nI p + (6 : Int32) = nI (p + 6) ∧ (nI p + (6 : Int32)) + (13 : Int32) = nI (p + 19) ∧ (nI p + (6 : Int32)) + (26 : Int32) = nI (p + 32) ∧ (nI p + (6 : Int32)) + (39 : Int32) = nI (p + 45) ∧ (nI p + (83 : Int32)) - (2 : Int32) = nI (p + 81) ∧ (nI p + (83 : Int32)) - (1 : Int32) = nI (p + 82) := by
  have a6 : nI p + (6 : Int32) = nI (p + 6) := nI_add p 6
  refine ⟨a6, ?_, ?_, ?_, ?_, ?_⟩
  · rw [a6]; exact nI_add (p + 6) 13
  · rw [a6]; exact nI_add (p + 6) 26
  · rw [a6]; exact nI_add (p + 6) 39
  · have h1 : nI p + (83 : Int32) = nI (p + 81) + (2 : Int32) := (nI_add p 83).trans (nI_add (p + 81) 2).symm
    rw [h1]; grind
  · have h1 : nI p + (83 : Int32) = nI (p + 82) + (1 : Int32) := (nI_add p 83).trans (nI_add (p + 82) 1).symm
    rw [h1]; grind
theorem c_store {a r n p : Nat} {x : ro} {Q : ac_m → Prop} {s : ac_m} (hr : r < a ∨ a + 5 < r) (hp : p + 83 ≤ n) (hn : n < 2147483648) (m : rM s a x)
    (h : ∀ s', (∀ y, y ≠ r → s' y = s y) → (∀ j, ¬ (p ≤ j ∧ j < p + 83) → s' r j = s r j) → stR (s' r) p x → Q s') : w_X5_store a r n (nI p) Q s := by
  obtain ⟨e1, e2, e3, e4, e5, e6⟩ := sums83 p
  have t0 : (0 : Int32).toNatClampNeg = 0 := rfl
  have t6 : (6 : Int32).toNatClampNeg = 6 := rfl
  have t13 : (13 : Int32).toNatClampNeg = 13 := rfl
  have t36 : (36 : Int32).toNatClampNeg = 36 := rfl
  have pz : ∀ m, m < 2147483648 → ¬ nI m < 0 := fun m hm => nI_pos hm
  unfold w_X5_store
  rw [e4, e3, e2, e1, e5, e6, t0, t6, t13, t36, cl_nI (n := p) (by omega), cl_nI (n := p + 6) (by omega), cl_nI (n := p + 19) (by omega), cl_nI (n := p + 32) (by omega), cl_nI (n := p + 45) (by omega), cl_nI (n := p + 81) (by omega), cl_nI (n := p + 82) (by omega)]
  refine ⟨fun z => absurd z (nI_pos (by omega)), fun _ => ⟨fun _ => ⟨⟨by decide, pz _ (by omega), by decide, by omega, by omega⟩, ⟨by decide, pz _ (by omega), by decide, by omega, by omega⟩, ⟨by decide, pz _ (by omega), by decide, by omega, by omega⟩, ⟨by decide, pz _ (by omega), by decide, by omega, by omega⟩, ⟨by decide, pz _ (by omega), by decide, by omega, by omega⟩, vp_in_nI (by omega) (by omega), vp_in_nI (by omega) (by omega), ?_⟩, fun z => absurd (lims hp hn) z⟩⟩
  refine h _ (fun y hy => ?_) (fun j hj => ?_) ⟨fun b hb => ⟨?_, ?_, ?_⟩, fun f hf => ?_, fun k hk => ?_, ?_, ?_⟩
  · rw [u_ne hy, u_ne hy, cp_ne hy, cp_ne hy, cp_ne hy, cp_ne hy, cp_ne hy]
  · rw [u_at (by omega), u_at (by omega), cp_out (by omega), cp_out (by omega), cp_out (by omega), cp_out (by omega), cp_out (by omega)]
  · rw [u_at (by omega), u_at (by omega), cp_out (by omega), cp_out (by omega), cp_out (by omega), cp_in (by omega) (by omega), cp_ne (by omega), show 0 + (p + (6 + b) - (p + 6)) = b by omega]; exact (m.1 b hb).1
  · rw [u_at (by omega), u_at (by omega), cp_out (by omega), cp_in (by omega) (by omega), cp_ne (by omega), cp_ne (by omega), cp_ne (by omega), show 0 + (p + (32 + b) - (p + 32)) = b by omega]; exact (m.1 b hb).2.1
  · rw [u_at (by omega), u_at (by omega), cp_out (by omega), cp_out (by omega), cp_in (by omega) (by omega), cp_ne (by omega), cp_ne (by omega), show 0 + (p + (19 + b) - (p + 19)) = b by omega]; exact (m.1 b hb).2.2
  · rw [u_at (by omega), u_at (by omega), cp_out (by omega), cp_out (by omega), cp_out (by omega), cp_out (by omega), cp_in (by omega) (by omega), show 0 + (p + f - p) = f by omega]; exact m.2.1 f hf
  · rw [u_at (by omega), u_at (by omega), cp_in (by omega) (by omega), cp_ne (by omega), cp_ne (by omega), cp_ne (by omega), cp_ne (by omega), show 0 + (p + (45 + k) - (p + 45)) = k by omega]; exact m.2.2.1 k hk
  · rw [u_eq, u_ne (by omega), cp_ne (by omega), cp_ne (by omega), cp_ne (by omega), cp_ne (by omega), cp_ne (by omega)]; exact m.2.2.2.1
  · rw [u_at (by omega), u_eq, cp_ne (by omega), cp_ne (by omega), cp_ne (by omega), cp_ne (by omega), cp_ne (by omega)]; exact m.2.2.2.2
theorem c_load {a r n p : Nat} {x : ro} {Q : ac_m → Prop} {s : ac_m} (hr : r < a ∨ a + 5 < r) (hp : p + 83 ≤ n) (hn : n < 2147483648) (m : stR (s r) p x)
    (h : ∀ s', (∀ y, (y < a ∨ a + 5 < y) → s' y = s y) → (∀ j, j ≠ 10 → j ≠ 11 → s' a j = s a j) → rM s' a x → Q s') : w_X5_load a r n (nI p) Q s := by
  obtain ⟨e1, e2, e3, e4, e5, e6⟩ := sums83 p
  have t0 : (0 : Int32).toNatClampNeg = 0 := rfl
  have t6 : (6 : Int32).toNatClampNeg = 6 := rfl
  have t13 : (13 : Int32).toNatClampNeg = 13 := rfl
  have t36 : (36 : Int32).toNatClampNeg = 36 := rfl
  have pz : ∀ m, m < 2147483648 → ¬ nI m < 0 := fun m hm => nI_pos hm
  unfold w_X5_load
  rw [e4, e3, e2, e1, e5, e6, t0, t6, t13, t36, cl_nI (n := p) (by omega), cl_nI (n := p + 6) (by omega), cl_nI (n := p + 19) (by omega), cl_nI (n := p + 32) (by omega), cl_nI (n := p + 45) (by omega), cl_nI (n := p + 81) (by omega), cl_nI (n := p + 82) (by omega)]
  refine ⟨fun z => absurd z (nI_pos (by omega)), fun _ => ⟨fun _ => ⟨⟨pz _ (by omega), by decide, by decide, by omega, by omega⟩, ⟨pz _ (by omega), by decide, by decide, by omega, by omega⟩, ⟨pz _ (by omega), by decide, by decide, by omega, by omega⟩, ⟨pz _ (by omega), by decide, by decide, by omega, by omega⟩, ⟨pz _ (by omega), by decide, by decide, by omega, by omega⟩, vp_in_nI (by omega) (by omega), vp_in_nI (by omega) (by omega), ?_⟩, fun z => absurd (lims hp hn) z⟩⟩
  refine h _ (fun y hy => ?_) (fun j j1 j2 => ?_) ⟨fun b hb => ⟨?_, ?_, ?_⟩, fun f hf => ?_, fun k hk => ?_, ?_, ?_⟩
  · rw [u_ne (by omega), u_ne (by omega), cp_ne (by omega), cp_ne (by omega), cp_ne (by omega), cp_ne (by omega), cp_ne (by omega)]
  · rw [u_at j2, u_at j1, cp_ne (by omega), cp_ne (by omega), cp_ne (by omega), cp_ne (by omega), cp_ne (by omega)]
  · rw [u_ne (by omega), u_ne (by omega), cp_ne (by omega), cp_ne (by omega), cp_ne (by omega), cp_in (by omega) (by omega), cp_ne (by omega), show p + 6 + (b - 0) = p + (6 + b) by omega]; exact (m.1 b hb).1
  · rw [u_ne (by omega), u_ne (by omega), cp_ne (by omega), cp_in (by omega) (by omega), cp_ne (by omega), cp_ne (by omega), cp_ne (by omega), show p + 32 + (b - 0) = p + (32 + b) by omega]; exact (m.1 b hb).2.1
  · rw [u_ne (by omega), u_ne (by omega), cp_ne (by omega), cp_ne (by omega), cp_in (by omega) (by omega), cp_ne (by omega), cp_ne (by omega), show p + 19 + (b - 0) = p + (19 + b) by omega]; exact (m.1 b hb).2.2
  · rw [u_ne (by omega), u_ne (by omega), cp_ne (by omega), cp_ne (by omega), cp_ne (by omega), cp_ne (by omega), cp_in (by omega) (by omega), show p + (f - 0) = p + f by omega]; exact m.2.1 f hf
  · rw [u_ne (by omega), u_ne (by omega), cp_in (by omega) (by omega), cp_ne (by omega), cp_ne (by omega), cp_ne (by omega), cp_ne (by omega), show p + 45 + (k - 0) = p + (45 + k) by omega]; exact m.2.2.1 k hk
  · rw [u_eq, u_ne (by omega), cp_ne (by omega), cp_ne (by omega), cp_ne (by omega), cp_ne (by omega), cp_ne (by omega)]; exact m.2.2.2.1
  · rw [u_at (by omega), u_eq, cp_ne (by omega), cp_ne (by omega), cp_ne (by omega), cp_ne (by omega), cp_ne (by omega)]; exact m.2.2.2.2
/-! what each part of the invariant rests on -/
theorem iH_fr {s s' : ac_m} (h : iH s) (f : ∀ a, (a = 73 ∨ (3 ≤ a ∧ a ≤ 12) ∨ (82 ≤ a ∧ a ≤ 136 ∧ a ≠ 114)) → s' a = s a) : iH s' := by
  unfold iH at h ⊢
  rw [f 73 (by omega), f 3 (by omega), f 4 (by omega), f 5 (by omega), f 6 (by omega), f 7 (by omega), f 8 (by omega), f 9 (by omega), f 10 (by omega), f 11 (by omega), f 12 (by omega)]
  refine ⟨h.1, h.2.1, fun g hg => ?_, fun b hb => ?_, fun e he => ?_⟩
  · rw [f (82 + g) (by omega)]; exact h.2.2.1 g hg
  · by_cases e : b = 12
    · refine ⟨fun hl => absurd hl ?_, (h.2.2.2.1 b hb).2⟩
      have := h.1.2.2.2.1
      subst e
      have e12 : nI 12 = (12 : Int32) := rfl
      rw [e12]
      grind
    · rw [f (102 + b) (by omega)]; exact h.2.2.2.1 b hb
  · rw [f (127 + e) (by omega)]; exact h.2.2.2.2 e he
theorem iB_fr {s s' : ac_m} (h : iB s) (f : ∀ a, (a = 33 ∨ a = 34 ∨ (460 ≤ a ∧ a ≤ 465)) → s' a = s a) (f69 : s' 69 34 = s 69 34) : iB s' := by
  unfold iB at h ⊢
  rw [f69, f 33 (by omega), f 34 (by omega)]
  refine ⟨h.1, h.2.1, h.2.2.1, fun j hj => ?_, fun e he => ?_⟩
  · rw [f (460 + j) (by omega)]; exact h.2.2.2.1 j hj
  · refine (h.2.2.2.2 e he).imp id ?_
    rintro ⟨j, hj, h1⟩
    refine ⟨j, hj, ?_⟩
    rw [f (460 + j) (by omega)]; exact h1
theorem iT_fr {s s' : ac_m} (h : iT s) (f1 : s' 1 1 = s 1 1) (f2 : s' 2 = s 2) (f70 : s' 70 = s 70) (f69 : s' 69 1 = s 69 1) : iT s' := by
  unfold iT at h ⊢
  rw [f69, f1, f2, f70]
  exact h
theorem vM_cong {F : Int32} {x y : ro} (v : vM F x) (h : ∀ j, j < 83 → y j = x j) : vM F y := by
  refine ⟨fun b hb => ?_, fun f hf => ?_, fun i j hi hj => ?_, ?_, ?_⟩
  · rw [h _ (by omega), h _ (by omega), h _ (by omega)]; exact v.1 b hb
  · rw [h _ (by omega)]; exact v.2.1 f hf
  · rw [h _ (by omega), h _ (by omega)]; exact v.2.2.1 i j hi hj
  · rw [h _ (by omega)]; exact v.2.2.2.1
  · rw [h _ (by omega)]; exact v.2.2.2.2
theorem vB_cong {B : Int32} {x y : ro} (v : vB B x) (h : ∀ j, j < 83 → y j = x j) : vB B y := fun b hb hB => by rw [h b (by omega)]; exact v b hb hB
theorem s_undo (s : ac_m) (i : Inv s) : sim0 w_X11_undo w_X12_undo s := by
  have hP := i.2.2.2.2.2.2.2.1
  obtain ⟨p1, p2, p3, p4, p5, p6, p7, p8⟩ := hP
  obtain ⟨n, hn, en⟩ := nI_of2 (M := 16) (n := 16) rfl (show ¬ s 69 35 < 0 by grind) p3
  unfold sim0 w_X11_undo w_X6_undoWork
  rw [p1, en, u_eq]
  rcases Nat.eq_zero_or_pos n with z | z
  · subst z
    refine ⟨fun h => absurd h (by decide), fun _ => m_if0A ?_⟩
    show w_X12_undo (fun b s2 => (-1 : Int32) = b ∧ s2 69 0 = 0 ∧ Inv s2) s
    unfold w_X12_undo
    rw [show (ac_u s 69 0 0) 69 35 = 0 by rw [u_at (by omega), en]; rfl]
    exact ⟨fun h => absurd rfl h, fun _ => ⟨rfl, u_eq, Inv_0 i⟩⟩
  · have em : nI n - (1 : Int32) = nI (n - 1) := by
      have := nI_pred (n - 1)
      rw [show n - 1 + 1 = n by omega] at this
      exact this
    rw [em]
    refine ⟨fun _ => ?_, fun h => absurd (nI_lt (a := 0) z (by omega)) h⟩
    rw [show nI (n - 1) * (83 : Int32) = nI (83 * (n - 1)) by rw [show (83 : Int32) = nI 83 from rfl, nI_mul, Nat.mul_comm]]
    have w := p7 (n - 1) (by omega)
    have vv := w.2 (by rw [en]; exact nI_lt (by omega) (by omega))
    have st : stR ((ac_u s 58 3 (nI (n - 1))) 59) (83 * (n - 1)) (s (560 + (n - 1))) := by
      rw [u_ne (by omega)]
      refine stR_cong (iS_st.1 w.1) (fun _ _ => rfl) (fun j _ => ?_)
      show s (560 + (n - 1)) j = s (560 + (n - 1)) (0 + j)
      rw [Nat.zero_add]
    refine c_load (by omega) (by omega) (by omega) st (fun s1 f1 g1 m1 => m_if1A ?_)
    rw [u_ne (show 58 ≠ 0 by omega), f1 58 (by omega), u_eq]
    show w_X12_undo (fun b s2 => nI (n - 1) = b ∧ s2 69 0 = 0 ∧ Inv s2) (ac_u s1 0 14 0)
    unfold w_X12_undo
    have t1 : ∀ j, (ac_u (ac_u s1 0 14 0) 69 0 0) 69 j = if j = 0 then 0 else s 69 j := by
      intro j
      by_cases c : j = 0
      · rw [if_pos c, c, u_eq]
      · rw [if_neg c, u_at c, u_ne (by omega), f1 69 (by omega), u_ne (by omega)]
    rw [t1 35, if_neg (by omega), en, em, u_eq]
    refine ⟨fun _ => ⟨vp_in_nI (by omega) (by omega), ?_⟩, fun h => absurd h (nI_ne0 z (by omega))⟩
    rw [cl_nI (by omega)]
    refine m_copies (by omega) (fun s2 f2 g2 => ?_)
    have t2 : ∀ j, s2 69 j = if j = 35 then nI (n - 1) else if j = 0 then 0 else s 69 j := by
      intro j
      rw [f2 69 (by omega)]
      by_cases c : j = 35
      · rw [if_pos c, c, u_eq]
      · rw [if_neg c, u_at c, t1]
    have rw2 : ∀ y, y ≠ 556 → y ≠ 69 → y ≠ 0 → y ≠ 58 → (y < 42 ∨ 47 < y) → s2 y = s y := by
      intro y y1 y2 y3 y4 y5
      rw [f2 y y1, u_ne y2, u_ne y2, u_ne y3, f1 y (by omega), u_ne y4]
    have r556 : ∀ j, j < 83 → s2 556 j = s (560 + (n - 1)) j := by
      intro j hj
      rw [g2]
      show (if j < 83 then _ else _) = _
      rw [if_pos hj, u_ne (by omega), u_ne (by omega), u_ne (by omega), f1 _ (by omega), u_ne (by omega)]
    have rM2 : rM s2 42 (s (560 + (n - 1))) := by
      refine rM_fr (s := s1) (fun j hj => ?_) m1
      rw [f2 _ (by omega), u_ne (by omega), u_ne (by omega), u_ne (by omega)]
    have r58 : s2 58 = upd (s 58) 3 (nI (n - 1)) := by rw [f2 58 (by omega), u_ne (by omega), u_ne (by omega), u_ne (by omega), f1 58 (by omega), u_row']
    have r0 : ∀ j, s2 0 j = if j = 14 then 0 else s 0 j := by
      intro j
      rw [f2 0 (by omega), u_ne (by omega), u_ne (by omega)]
      by_cases c : j = 14
      · rw [if_pos c, c, u_eq]
      · rw [if_neg c, u_at c, f1 0 (by omega), u_ne (by omega)]
    rw [u_at (show 35 ≠ 36 by omega), t2 35, if_pos rfl]
    refine ⟨rfl, by rw [u_at (by omega), t2, if_neg (by omega), if_pos rfl], ?_⟩
    have T : ∀ j, (ac_u s2 69 36 0) 69 j = if j = 36 then 0 else if j = 35 then nI (n - 1) else if j = 0 then 0 else s 69 j := by
      intro j
      by_cases c : j = 36
      · rw [if_pos c, c, u_eq]
      · rw [if_neg c, u_at c, t2]
    have R : ∀ y, y ≠ 69 → (ac_u s2 69 36 0) y = s2 y := fun y hy => u_ne hy
    have e73 : (ac_u s2 69 36 0) 73 = s 73 := by rw [R 73 (by omega), rw2 73 (by omega) (by omega) (by omega) (by omega) (by omega)]
    obtain ⟨iH0, iM0, vM0, vB0, iL0, iB0, iT0, iP0, iX0⟩ := i
    refine ⟨iH_fr iH0 (fun a ha => ?_), ?_, ?_, ?_, iL_of iL0 ?_ ?_ ?_ (fun j hj => ?_), iB_fr iB0 (fun a ha => ?_) ?_, iT_fr iT0 ?_ ?_ ?_ ?_, ⟨?_, ?_, ?_, ?_, ?_, ?_, fun w hw => ?_, fun j hj hl => ?_⟩, ?_⟩
    · rw [R a (by omega), rw2 a (by omega) (by omega) (by omega) (by omega) (by omega)]
    · show rM _ 42 _
      refine rM_cong (rM_fr (s := s2) (fun j hj => R _ (by omega)) rM2) (fun j hj => ?_)
      rw [R 556 (by omega), r556 j hj]
    · rw [e73, R 556 (by omega)]; exact vM_cong vv.1 r556
    · rw [e73, R 556 (by omega)]; exact vB_cong vv.2 r556
    · rw [T, if_neg (by omega), if_neg (by omega), if_neg (by omega)]
    · rw [R 25 (by omega), rw2 25 (by omega) (by omega) (by omega) (by omega) (by omega)]
    · rw [R 26 (by omega), rw2 26 (by omega) (by omega) (by omega) (by omega) (by omega)]
    · rw [R _ (by omega), rw2 _ (by omega) (by omega) (by omega) (by omega) (by omega)]
    · rw [R a (by omega), rw2 a (by omega) (by omega) (by omega) (by omega) (by omega)]
    · rw [T, if_neg (by omega), if_neg (by omega), if_neg (by omega)]
    · rw [R 1 (by omega), rw2 1 (by omega) (by omega) (by omega) (by omega) (by omega)]
    · rw [R 2 (by omega), rw2 2 (by omega) (by omega) (by omega) (by omega) (by omega)]
    · rw [R 70 (by omega), rw2 70 (by omega) (by omega) (by omega) (by omega) (by omega)]
    · rw [T, if_neg (by omega), if_neg (by omega), if_neg (by omega)]
    · rw [R 58 (by omega), r58, upd_eq, T, if_neg (by omega), if_pos rfl]
    · rw [T, if_neg (by omega), if_pos rfl]; exact nI_pos' (by omega)
    · rw [T, if_neg (by omega), if_pos rfl]; exact nI_le (b := 16) (by omega) (by omega)
    · rw [R 58 (by omega), r58, upd_ne (by omega), T, if_neg (by omega), if_neg (by omega), if_neg (by omega)]; exact p4
    · rw [T, if_neg (by omega), if_neg (by omega), if_neg (by omega)]; exact p5
    · rw [T, if_neg (by omega), if_neg (by omega), if_neg (by omega)]; exact p6
    · rw [e73, T, if_neg (by omega), if_pos rfl, R 59 (by omega), rw2 59 (by omega) (by omega) (by omega) (by omega) (by omega), R (560 + w) (by omega), rw2 (560 + w) (by omega) (by omega) (by omega) (by omega) (by omega)]
      refine ⟨(p7 w hw).1, fun hl => (p7 w hw).2 ?_⟩
      rw [en]
      exact nI_lt (by have := (nI_ltI (by omega) (by omega)).1 hl; omega) (by omega)
    · rw [T, if_neg (by omega), if_neg (by omega), if_neg (by omega)] at hl
      rw [e73, R 61 (by omega), rw2 61 (by omega) (by omega) (by omega) (by omega) (by omega), R 60 (by omega), rw2 60 (by omega) (by omega) (by omega) (by omega) (by omega), R (577 + j) (by omega), rw2 (577 + j) (by omega) (by omega) (by omega) (by omega) (by omega)]
      exact p8 j hj hl
    · unfold iX
      rw [R 1 (by omega), rw2 1 (by omega) (by omega) (by omega) (by omega) (by omega), R 0 (by omega), r0, r0, r0, if_pos rfl, if_neg (by omega), if_neg (by omega), R 71 (by omega), rw2 71 (by omega) (by omega) (by omega) (by omega) (by omega), T, T, if_neg (by omega), if_neg (by omega), if_neg (by omega), if_pos rfl]
      exact ⟨iX0.1, rfl, iX0.2.2.1, iX0.2.2.2⟩
