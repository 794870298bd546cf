/-! WHAT A TEXT MAY CHANGE BEFORE IT IS TAKEN -/
def isDr (a : Nat) : Bool := isScr a || a == 1 || (decide (14 ≤ a) && decide (a ≤ 24)) || (decide (29 ≤ a) && decide (a ≤ 32)) || (decide (35 ≤ a) && decide (a ≤ 41)) || a == 72 || (decide (75 ≤ a) && decide (a ≤ 80)) || (decide (89 ≤ a) && decide (a ≤ 100)) || (decide (116 ≤ a) && decide (a ≤ 125)) || (decide (299 ≤ a) && decide (a ≤ 458)) || (decide (467 ≤ a) && decide (a ≤ 472)) || (decide (476 ≤ a) && decide (a ≤ 555))
theorem dr_h : ∀ a, a < 137 → (a = 73 ∨ (3 ≤ a ∧ a ≤ 12) ∨ (82 ≤ a ∧ a ≤ 87) ∨ (102 ≤ a ∧ a ≤ 113) ∨ (127 ≤ a ∧ a ≤ 136)) → isDr a = false := by decide +kernel
theorem dr_m : ∀ j, j < 6 → isDr (42 + j) = false := by decide +kernel
theorem dr_l : ∀ j, j < 160 → isDr (138 + j) = false := by decide +kernel
theorem dr_b : ∀ j, j < 6 → isDr (460 + j) = false := by decide +kernel
theorem dr_w : ∀ j, j < 16 → isDr (560 + j) = false := by decide +kernel
theorem dr_i : ∀ j, j < 3 → isDr (577 + j) = false := by decide +kernel
theorem iH_f2 {s s' : ac_m} (h : iH s) (f : ∀ a, (a = 73 ∨ (3 ≤ a ∧ a ≤ 12) ∨ (82 ≤ a ∧ a ≤ 87) ∨ (102 ≤ a ∧ a ≤ 113) ∨ (127 ≤ a ∧ a ≤ 136)) → s' a = s a) : iH s' := by
  have d (a : Nat) (ha : a < 137) (hh : a = 73 ∨ (3 ≤ a ∧ a ≤ 12) ∨ (82 ≤ a ∧ a ≤ 87) ∨ (102 ≤ a ∧ a ≤ 113) ∨ (127 ≤ a ∧ a ≤ 136)) : s' a = s a := f a hh
  unfold iH at h ⊢
  rw [d 73 (by omega) (by omega), d 3 (by omega) (by omega), d 4 (by omega) (by omega), d 5 (by omega) (by omega), d 6 (by omega) (by omega), d 7 (by omega) (by omega), d 8 (by omega) (by omega), d 9 (by omega) (by omega), d 10 (by omega) (by omega), d 11 (by omega) (by omega), d 12 (by omega) (by omega)]
  refine ⟨h.1, h.2.1, fun g hg => ?_, fun b hb => ?_, fun e he => ?_⟩
  · rw [d (82 + g) (by omega) (by omega)]; exact h.2.2.1 g hg
  · by_cases e : b = 12
    · refine ⟨fun hl => absurd hl ?_, (h.2.2.2.1 b hb).2⟩
      have := h.1.2.2.2.1
      subst e
      have e12 : nI 12 = (12 : Int32) := rfl
      rw [e12]
      grind
    · rw [d (102 + b) (by omega) (by omega)]; exact h.2.2.2.1 b hb
  · rw [d (127 + e) (by omega) (by omega)]; exact h.2.2.2.2 e he
theorem iH_dr {s s' : ac_m} (h : iH s) (f : ∀ a, isDr a = false → s' a = s a) : iH s' := iH_f2 h (fun a hh => f a (dr_h a (by omega) hh))
theorem iP_f2 {s s' : ac_m} (h : iP s) (f : ∀ a, ((58 ≤ a ∧ a ≤ 61) ∨ a = 73 ∨ (560 ≤ a ∧ a ≤ 575) ∨ (577 ≤ a ∧ a ≤ 579)) → s' a = s a) (g35 : s' 69 35 = s 69 35) (g37 : s' 69 37 = s 69 37) : iP s' := by
  unfold iP at h ⊢
  rw [g35, g37, f 58 (by omega), f 59 (by omega), f 60 (by omega), f 61 (by omega), f 73 (by omega)]
  refine ⟨h.1, h.2.1, h.2.2.1, h.2.2.2.1, h.2.2.2.2.1, h.2.2.2.2.2.1, fun w hw => ?_, fun i hi => ?_⟩
  · rw [f _ (by omega)]; exact h.2.2.2.2.2.2.1 w hw
  · rw [f _ (by omega)]; exact h.2.2.2.2.2.2.2 i hi
theorem dr_p : ∀ a, a < 580 → ((58 ≤ a ∧ a ≤ 61) ∨ a = 73 ∨ (560 ≤ a ∧ a ≤ 575) ∨ (577 ≤ a ∧ a ≤ 579)) → isDr a = false := by decide +kernel
theorem iP_dr {s s' : ac_m} (h : iP s) (f : ∀ a, isDr a = false → s' a = s a) (g35 : s' 69 35 = s 69 35) (g37 : s' 69 37 = s 69 37) : iP s' := iP_f2 h (fun a ha => f a (dr_p a (by omega) ha)) g35 g37
theorem iB_f2 {s s' : ac_m} (h : iB s) (f : ∀ a, (a = 33 ∨ a = 34 ∨ (460 ≤ a ∧ a ≤ 465)) → s' a = s a) (g34 : s' 69 34 = s 69 34) : iB s' := by
  unfold iB at h ⊢
  rw [g34, f 33 (by omega), f 34 (by omega)]
  refine ⟨h.1, h.2.1, h.2.2.1, fun j hj => ?_, fun e he => ?_⟩
  · rw [f _ (by omega)]; exact h.2.2.2.1 j hj
  · refine (h.2.2.2.2 e he).imp id ?_
    rintro ⟨j, hj, h1⟩
    refine ⟨j, hj, ?_⟩
    rw [f _ (by omega)]; exact h1
theorem dr_k : ∀ a, a < 466 → (a = 33 ∨ a = 34 ∨ (460 ≤ a ∧ a ≤ 465)) → isDr a = false := by decide +kernel
theorem iB_dr {s s' : ac_m} (h : iB s) (f : ∀ a, isDr a = false → s' a = s a) (g34 : s' 69 34 = s 69 34) : iB s' := iB_f2 h (fun a ha => f a (dr_k a (by omega) ha)) g34
theorem iL_dr {s s' : ac_m} (h : iL s) (f : ∀ a, isDr a = false → s' a = s a) (g19 : s' 69 19 = s 69 19) : iL s' := iL_of h g19 (by rw [f 25 rfl]) (f 26 rfl) (fun j hj => f _ (dr_l j hj))
theorem iT_0 {s : ac_m} (z1 : s 1 1 = 0) (z2 : s 69 1 = 0) : iT s := by
  refine ⟨z1.trans z2.symm, by rw [z2]; decide, by rw [z2]; decide, fun j hj hl => ?_⟩
  rw [z2] at hl
  exact absurd hl (nI_pos (by omega))
theorem Inv_dr {s s' : ac_m} (i : Inv s) (f : ∀ a, isDr a = false → s' a = s a) (g : ∀ j, (j = 19 ∨ j = 34 ∨ j = 35 ∨ j = 36 ∨ j = 37) → s' 69 j = s 69 j) (z1 : s' 1 1 = 0) (z2 : s' 69 1 = 0) (e : s' 1 6 = s' 69 3) : Inv s' := by
  obtain ⟨iH0, iM0, vM0, vB0, iL0, iB0, iT0, iP0, iX0⟩ := i
  refine ⟨iH_dr iH0 f, ?_, ?_, ?_, iL_dr iL0 f (g 19 (by omega)), iB_dr iB0 f (g 34 (by omega)), iT_0 z1 z2, iP_dr iP0 f (g 35 (by omega)) (g 37 (by omega)), ?_⟩
  · show rM _ 42 _
    rw [f 556 rfl]
    exact rM_fr (s := s) (fun j hj => f _ (dr_m j hj)) iM0
  · rw [f 73 rfl, f 556 rfl]; exact vM0
  · rw [f 73 rfl, f 556 rfl]; exact vB0
  · unfold iX
    rw [f 0 rfl, f 71 rfl, g 36 (by omega)]
    exact ⟨e, iX0.2.1, iX0.2.2.1, iX0.2.2.2⟩
/-- the text that was fed -/
def tX (s : ac_m) (j : Nat) : Nat := (s 70 j).toNatClampNeg
theorem tX_ok {s : ac_m} (i : Inv s) {n m : Nat} (em : s 69 1 = nI m) (hm : m ≤ 600) (hn : n ≤ m) : okT (tX s) n ∧ (∀ j, j < n → s 70 j = nI (tX s j)) ∧ (∀ j, j < n → s 2 j = by8 (nI (tX s j))) := by
  have h := i.2.2.2.2.2.2.1.2.2.2
  have key : ∀ j, j < n → tX s j ≤ 255 ∧ s 70 j = nI (tX s j) := by
    intro j hj
    have q := h j (by omega) (by rw [em]; exact nI_lt (by omega) (by omega))
    obtain ⟨v, hv, ev⟩ := nI_of2 (M := 255) (n := 255) rfl (show ¬ s 70 j < 0 by grind) q.2.1
    unfold tX
    rw [ev, cl_nI (by omega)]
    exact ⟨hv, rfl⟩
  refine ⟨⟨by omega, fun j hj => (key j hj).1⟩, fun j hj => (key j hj).2, fun j hj => ?_⟩
  have q := h j (by omega) (by rw [em]; exact nI_lt (by omega) (by omega))
  rw [← (key j hj).2]
  exact q.2.2
theorem c_open {n : Nat} {Q : ac_m → Prop} {s : ac_m} (h : ∀ s', (∀ y, y ≠ 1 → s' y = s y) → s' 1 1 = 0 → s' 1 2 = nI n → s' 1 3 = nI 0 → s' 1 5 = 0 → s' 1 6 = -1 → Q s') : w_X10_open (nI n) Q s := by
  unfold w_X10_open
  refine h _ (fun y hy => by rw [u_ne hy, u_ne hy, u_ne hy, u_ne hy, u_ne hy, u_ne hy]) ?_ ?_ ?_ ?_ u_eq
  · rw [u_at (by omega), u_at (by omega), u_at (by omega), u_at (by omega), u_eq]
  · rw [u_at (by omega), u_at (by omega), u_at (by omega), u_at (by omega), u_at (by omega), u_eq]
  · rw [u_at (by omega), u_at (by omega), u_at (by omega), u_eq]; rfl
  · rw [u_at (by omega), u_eq]
theorem m_starts {t : Nat → Nat} {n : Nat} {Q : ac_m → Prop} {s : ac_m} (T : okT t n) (hb : ∀ j, j < n → s 70 j = nI (t j))
    (h : ∀ s', (∀ y, y ≠ 69 → s' y = s y) → (∀ j, j ≠ 1 → j ≠ 2 → j ≠ 4 → j ≠ 5 → j ≠ 6 → j ≠ 7 → j ≠ 8 → s' 69 j = s 69 j) → s' 69 1 = 0 → MT s' t n → s' 69 4 = nI (skb t n 0) → s' 69 5 = 0 → s' 69 6 = -1 → s' 69 7 = 0 → s' 69 8 = 0 → Q s') : w_X12_starts (nI n) Q s := by
  unfold w_X12_starts
  have T1 : MT (ac_u (ac_u (ac_u (ac_u (ac_u (ac_u (ac_u s 69 1 0) 69 2 (nI n)) 69 4 0) 69 5 0) 69 6 (-1)) 69 7 0) 69 8 0) t n := by
    refine ⟨?_, T, fun j hj => ?_⟩
    · rw [u_at (by omega), u_at (by omega), u_at (by omega), u_at (by omega), u_at (by omega), u_eq]
    · rw [u_ne (by omega), u_ne (by omega), u_ne (by omega), u_ne (by omega), u_ne (by omega), u_ne (by omega), u_ne (by omega)]; exact hb j hj
  refine m_blanks T1 (p := 0) (Nat.zero_le n) (by rw [u_at (by omega), u_at (by omega), u_at (by omega), u_at (by omega), u_eq]; rfl) (fun s' m => ?_)
  refine h s' (fun y hy => by rw [m.1 y hy, u_ne hy, u_ne hy, u_ne hy, u_ne hy, u_ne hy, u_ne hy, u_ne hy]) (fun j j1 j2 j4 j5 j6 j7 j8 => by rw [m.2.1 j j4, u_at j8, u_at j7, u_at j6, u_at j5, u_at j4, u_at j2, u_at j1]) ?_ (MT_mv T1 m) m.2.2 ?_ ?_ ?_ ?_
  · rw [m.2.1 1 (by omega), u_at (by omega), u_at (by omega), u_at (by omega), u_at (by omega), u_at (by omega), u_at (by omega), u_eq]
  · rw [m.2.1 5 (by omega), u_at (by omega), u_at (by omega), u_at (by omega), u_eq]
  · rw [m.2.1 6 (by omega), u_at (by omega), u_at (by omega), u_eq]
  · rw [m.2.1 7 (by omega), u_at (by omega), u_eq]
  · rw [m.2.1 8 (by omega), u_eq]
