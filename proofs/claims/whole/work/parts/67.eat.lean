/-! EIGHT FACTS, AND WHAT IS EATEN -/
def f8 (x0 x1 x2 x3 x4 x5 x6 x7 : Int32) (j : Nat) : Int32 := if j = 0 then x0 else if j = 1 then x1 else if j = 2 then x2 else if j = 3 then x3 else if j = 4 then x4 else if j = 5 then x5 else if j = 6 then x6 else x7
theorem c_tell8 {x0 x1 x2 x3 x4 x5 x6 x7 : Int32} {Q : Int32 → ac_m → Prop} {s : ac_m} (i : iL s) (h : ∀ s', (∀ a, a ≠ 27 → a ≠ 28 → s' a = s a) → Q (lval s (f8 x0 x1 x2 x3 x4 x5 x6 x7)) s') :
    w_X4_eaten Q (ac_u (ac_u (ac_u (ac_u (ac_u (ac_u (ac_u (ac_u s 28 0 x0) 28 1 x1) 28 2 x2) 28 7 x7) 28 3 x3) 28 4 x4) 28 5 x5) 28 6 x6) := by
  refine c_law (iL_kq (((((((((kq.refl s).u rfl (by decide)).u rfl (by decide)).u rfl (by decide)).u rfl (by decide)).u rfl (by decide)).u rfl (by decide)).u rfl (by decide)).u rfl (by decide)) i) (fun s' f => ?_)
  have e1 : lval (ac_u (ac_u (ac_u (ac_u (ac_u (ac_u (ac_u (ac_u s 28 0 x0) 28 1 x1) 28 2 x2) 28 7 x7) 28 3 x3) 28 4 x4) 28 5 x5) 28 6 x6) (f8 x0 x1 x2 x3 x4 x5 x6 x7) = lval s (f8 x0 x1 x2 x3 x4 x5 x6 x7) := lval_mem (by simp (disch := omega) only [u_ne]) (fun k hk => by simp (disch := omega) only [u_ne]) i
  rw [lval_cong (Y := f8 x0 x1 x2 x3 x4 x5 x6 x7) (iL_kq (((((((((kq.refl s).u rfl (by decide)).u rfl (by decide)).u rfl (by decide)).u rfl (by decide)).u rfl (by decide)).u rfl (by decide)).u rfl (by decide)).u rfl (by decide)) i) ?_, e1]
  · refine h s' (fun a ha hb => (f a ha).trans ?_)
    simp only [u_ne hb]
  · intro j hj
    have : j = 0 ∨ j = 1 ∨ j = 2 ∨ j = 3 ∨ j = 4 ∨ j = 5 ∨ j = 6 ∨ j = 7 := by omega
    rcases this with e | e | e | e | e | e | e | e <;> subst e <;> simp (disch := omega) only [u_at, u_eq] <;> rfl
theorem m_eatBy {x0 x1 x2 x3 x4 x5 x6 x7 : Int32} {Q : Int32 → ac_m → Prop} {s : ac_m} (i : iL s) (h : ∀ s', (∀ a, a ≠ 473 → a ≠ 474 → s' a = s a) → Q (lval s (f8 x0 x1 x2 x3 x4 x5 x6 x7)) s') :
    w_X12_eatBy x0 x1 x2 x3 x4 x5 x6 x7 Q s := by
  unfold w_X12_eatBy
  change w_X12_byLaw Q (ac_u (ac_u (ac_u (ac_u (ac_u (ac_u (ac_u (ac_u s 474 0 x0) 474 1 x1) 474 2 x2) 474 3 x3) 474 4 x4) 474 5 x5) 474 6 x6) 474 7 x7)
  refine m_law (iL_kq (((((((((kq.refl s).u rfl (by decide)).u rfl (by decide)).u rfl (by decide)).u rfl (by decide)).u rfl (by decide)).u rfl (by decide)).u rfl (by decide)).u rfl (by decide)) i) (fun s' f => ?_)
  have e1 : lval (ac_u (ac_u (ac_u (ac_u (ac_u (ac_u (ac_u (ac_u s 474 0 x0) 474 1 x1) 474 2 x2) 474 3 x3) 474 4 x4) 474 5 x5) 474 6 x6) 474 7 x7) (f8 x0 x1 x2 x3 x4 x5 x6 x7) = lval s (f8 x0 x1 x2 x3 x4 x5 x6 x7) := lval_mem (by simp (disch := omega) only [u_ne]) (fun k hk => by simp (disch := omega) only [u_ne]) i
  rw [lval_cong (Y := f8 x0 x1 x2 x3 x4 x5 x6 x7) (iL_kq (((((((((kq.refl s).u rfl (by decide)).u rfl (by decide)).u rfl (by decide)).u rfl (by decide)).u rfl (by decide)).u rfl (by decide)).u rfl (by decide)).u rfl (by decide)) i) ?_, e1]
  · refine h s' (fun a ha hb => (f a ha).trans ?_)
    simp only [u_ne hb]
  · intro j hj
    have : j = 0 ∨ j = 1 ∨ j = 2 ∨ j = 3 ∨ j = 4 ∨ j = 5 ∨ j = 6 ∨ j = 7 := by omega
    rcases this with e | e | e | e | e | e | e | e <;> subst e <;> simp (disch := omega) only [u_at, u_eq] <;> rfl
theorem kp_c {s s' : ac_m} (h : ∀ a, a ≠ 27 → a ≠ 28 → s' a = s a) : kp s s' := by
  refine ⟨fun a ha => h a ?_ ?_, fun k hk => by rw [h 69 (by decide) (by decide)]⟩
  · intro e; subst e; cases ha
  · intro e; subst e; cases ha
theorem kp_m {s s' : ac_m} (h : ∀ a, a ≠ 473 → a ≠ 474 → s' a = s a) : kp s s' := by
  refine ⟨fun a ha => h a ?_ ?_, fun k hk => by rw [h 69 (by decide) (by decide)]⟩
  · intro e; subst e; cases ha
  · intro e; subst e; cases ha
theorem kp_0 {s : ac_m} : kp s (ac_u s 69 0 0) := (kp.refl s).u rfl (fun _ => rfl)
theorem lval_kp {s s' : ac_m} {X : Nat → Int32} (k : kp s s') (i : iL s) : lval s' X = lval s X := by
  have d1 : ∀ f, f < 160 → isScr (138 + f) = false := by decide +kernel
  exact lval_mem (k.2 19 rfl) (fun j hj => k.1 _ (d1 j hj)) i
theorem s_would (p1 p2 p3 p4 p5 p6 p7 p8 : Int32) (s : ac_m) (i : Inv s) : simX thA (w_X11_would p1 p2 p3 p4 p5 p6 p7 p8) (w_X12_would p1 p2 p3 p4 p5 p6 p7 p8) s := by
  have iL0 := i.2.2.2.2.1
  unfold simX w_X11_would
  refine c_within (fun a0 b0 => ?_) (fun h => ?_)
  rotate_left
  · unfold w_X12_would
    refine m_inB (fun a b => absurd ⟨a, b⟩ h) (fun _ => ?_)
    exact m_bad1 u_eq (by decide) in2_1 (m_if1B ⟨⟨rfl, bad_69⟩, Inv_bad1 i⟩)
  refine c_within (fun a1 b1 => ?_) (fun h => ?_)
  rotate_left
  · unfold w_X12_would
    refine m_inB (fun _ _ => ?_) (fun z => absurd ⟨a0, b0⟩ z)
    refine m_inB (fun a b => absurd ⟨a, b⟩ h) (fun _ => ?_)
    exact m_bad1 u_eq (by decide) in2_1 (m_if1B ⟨⟨rfl, bad_69⟩, Inv_bad1 i⟩)
  refine c_within (fun a2 b2 => ?_) (fun h => ?_)
  rotate_left
  · unfold w_X12_would
    refine m_inB (fun _ _ => ?_) (fun z => absurd ⟨a0, b0⟩ z)
    refine m_inB (fun _ _ => ?_) (fun z => absurd ⟨a1, b1⟩ z)
    refine m_inB (fun a b => absurd ⟨a, b⟩ h) (fun _ => ?_)
    exact m_bad1 u_eq (by decide) in2_1 (m_if1B ⟨⟨rfl, bad_69⟩, Inv_bad1 i⟩)
  refine c_within (fun a3 b3 => ?_) (fun h => ?_)
  rotate_left
  · unfold w_X12_would
    refine m_inB (fun _ _ => ?_) (fun z => absurd ⟨a0, b0⟩ z)
    refine m_inB (fun _ _ => ?_) (fun z => absurd ⟨a1, b1⟩ z)
    refine m_inB (fun _ _ => ?_) (fun z => absurd ⟨a2, b2⟩ z)
    refine m_inB (fun a b => absurd ⟨a, b⟩ h) (fun _ => ?_)
    exact m_bad1 u_eq (by decide) in2_1 (m_if1B ⟨⟨rfl, bad_69⟩, Inv_bad1 i⟩)
  refine c_within (fun a4 b4 => ?_) (fun h => ?_)
  rotate_left
  · unfold w_X12_would
    refine m_inB (fun _ _ => ?_) (fun z => absurd ⟨a0, b0⟩ z)
    refine m_inB (fun _ _ => ?_) (fun z => absurd ⟨a1, b1⟩ z)
    refine m_inB (fun _ _ => ?_) (fun z => absurd ⟨a2, b2⟩ z)
    refine m_inB (fun _ _ => ?_) (fun z => absurd ⟨a3, b3⟩ z)
    refine m_inB (fun a b => absurd ⟨a, b⟩ h) (fun _ => ?_)
    exact m_bad1 u_eq (by decide) in2_1 (m_if1B ⟨⟨rfl, bad_69⟩, Inv_bad1 i⟩)
  refine c_within (fun a5 b5 => ?_) (fun h => ?_)
  rotate_left
  · unfold w_X12_would
    refine m_inB (fun _ _ => ?_) (fun z => absurd ⟨a0, b0⟩ z)
    refine m_inB (fun _ _ => ?_) (fun z => absurd ⟨a1, b1⟩ z)
    refine m_inB (fun _ _ => ?_) (fun z => absurd ⟨a2, b2⟩ z)
    refine m_inB (fun _ _ => ?_) (fun z => absurd ⟨a3, b3⟩ z)
    refine m_inB (fun _ _ => ?_) (fun z => absurd ⟨a4, b4⟩ z)
    refine m_inB (fun a b => absurd ⟨a, b⟩ h) (fun _ => ?_)
    exact m_bad1 u_eq (by decide) in2_1 (m_if1B ⟨⟨rfl, bad_69⟩, Inv_bad1 i⟩)
  refine c_within (fun a6 b6 => ?_) (fun h => ?_)
  rotate_left
  · unfold w_X12_would
    refine m_inB (fun _ _ => ?_) (fun z => absurd ⟨a0, b0⟩ z)
    refine m_inB (fun _ _ => ?_) (fun z => absurd ⟨a1, b1⟩ z)
    refine m_inB (fun _ _ => ?_) (fun z => absurd ⟨a2, b2⟩ z)
    refine m_inB (fun _ _ => ?_) (fun z => absurd ⟨a3, b3⟩ z)
    refine m_inB (fun _ _ => ?_) (fun z => absurd ⟨a4, b4⟩ z)
    refine m_inB (fun _ _ => ?_) (fun z => absurd ⟨a5, b5⟩ z)
    refine m_inB (fun a b => absurd ⟨a, b⟩ h) (fun _ => ?_)
    exact m_bad1 u_eq (by decide) in2_1 (m_if1B ⟨⟨rfl, bad_69⟩, Inv_bad1 i⟩)
  refine c_within (fun a7 b7 => ?_) (fun h => ?_)
  rotate_left
  · unfold w_X12_would
    refine m_inB (fun _ _ => ?_) (fun z => absurd ⟨a0, b0⟩ z)
    refine m_inB (fun _ _ => ?_) (fun z => absurd ⟨a1, b1⟩ z)
    refine m_inB (fun _ _ => ?_) (fun z => absurd ⟨a2, b2⟩ z)
    refine m_inB (fun _ _ => ?_) (fun z => absurd ⟨a3, b3⟩ z)
    refine m_inB (fun _ _ => ?_) (fun z => absurd ⟨a4, b4⟩ z)
    refine m_inB (fun _ _ => ?_) (fun z => absurd ⟨a5, b5⟩ z)
    refine m_inB (fun _ _ => ?_) (fun z => absurd ⟨a6, b6⟩ z)
    refine m_inA (fun a b => absurd ⟨a, b⟩ h) (fun _ => ?_)
    exact m_bad1 u_eq (by decide) in2_1 (m_if1B ⟨⟨rfl, bad_69⟩, Inv_bad1 i⟩)
  unfold w_X4_tellBeast w_X4_tellPlace
  refine c_tell8 iL0 (fun s' f => ?_)
  have k1 : kp s (ac_u s' 69 0 0) := (kp_c f).trans kp_0
  have i1 : Inv (ac_u s' 69 0 0) := Inv_kp k1 i
  unfold w_X12_would
  refine m_inB (fun _ _ => ?_) (fun z => absurd ⟨a0, b0⟩ z)
  refine m_inB (fun _ _ => ?_) (fun z => absurd ⟨a1, b1⟩ z)
  refine m_inB (fun _ _ => ?_) (fun z => absurd ⟨a2, b2⟩ z)
  refine m_inB (fun _ _ => ?_) (fun z => absurd ⟨a3, b3⟩ z)
  refine m_inB (fun _ _ => ?_) (fun z => absurd ⟨a4, b4⟩ z)
  refine m_inB (fun _ _ => ?_) (fun z => absurd ⟨a5, b5⟩ z)
  refine m_inB (fun _ _ => ?_) (fun z => absurd ⟨a6, b6⟩ z)
  refine m_inA (fun _ _ => ?_) (fun z => absurd ⟨a7, b7⟩ z)
  refine m_bad0 u_eq (m_if0B ?_)
  refine m_eatBy i1.2.2.2.2.1 (fun s2 f2 => ⟨?_, ?_, Inv_kp (kp_m f2) i1⟩)
  · rw [lval_kp k1 iL0]
  · rw [f2 69 (by decide) (by decide), u_eq]
