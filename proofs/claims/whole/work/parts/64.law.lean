/-! THE LAW'S VALUE -/
def lop (a x y : Int32) : Int32 := if a = 2 then x + y else if a = 3 then x - y else if a = 4 then x * y else if a = 5 then (if y = 0 then 0 else x / y) else if a = 6 then (if y = 0 then 0 else x - x / y * y) else if a = 7 then (if y ≤ x then y else x) else (if x ≤ y then y else x)
theorem div_m1 (x : Int32) : x / (-1) = -x := Int32.toInt_inj.1 (by rw [Int32.toInt_div, show (-1 : Int32).toInt = -1 from rfl, Int.tdiv_neg, Int.tdiv_one, Int32.toInt_neg])
theorem rem_m1 (x : Int32) : x - x / (-1) * (-1) = 0 := by rw [div_m1]; grind
theorem m_by {a x y : Int32} {Q : Int32 → ac_m → Prop} {s : ac_m} (h : Q (lop a x y) s) : w_X12_by a x y Q s := by
  unfold w_X12_by w_X12_less w_X12_more
  unfold lop at h
  have d1 := div_m1 x
  have d2 := rem_m1 x
  refine ⟨fun e => ?_, fun e => ?_, fun e => ?_, fun e => ?_, fun e => ?_, fun e => ?_, fun e => ?_⟩
  · subst e; exact h
  · subst e; exact h
  · subst e; exact h
  · subst e
    refine ⟨fun z => ⟨fun z2 => ⟨z, ?_⟩, fun z2 => ?_⟩, fun z => ?_⟩
    · rw [if_neg (by decide), if_neg (by decide), if_neg (by decide), if_pos rfl, if_neg z] at h; exact h
    · subst z2; rw [if_neg (by decide), if_neg (by decide), if_neg (by decide), if_pos rfl, if_neg z, d1] at h; exact h
    · rw [if_neg (by decide), if_neg (by decide), if_neg (by decide), if_pos rfl, if_pos z] at h; exact h
  · subst e
    refine ⟨fun z => ?_, fun z => ⟨fun z2 => ⟨z, ?_⟩, fun z2 => ?_⟩⟩
    · rw [if_neg (by decide), if_neg (by decide), if_neg (by decide), if_neg (by decide), if_pos rfl, if_pos z] at h; exact h
    · rw [if_neg (by decide), if_neg (by decide), if_neg (by decide), if_neg (by decide), if_pos rfl, if_neg z] at h; exact h
    · subst z2; rw [if_neg (by decide), if_neg (by decide), if_neg (by decide), if_neg (by decide), if_pos rfl, if_neg z, d2] at h; exact h
  · subst e
    rw [if_neg (by decide), if_neg (by decide), if_neg (by decide), if_neg (by decide), if_neg (by decide), if_pos rfl] at h
    exact ⟨fun z => by rw [if_pos z] at h; exact h, fun z => by rw [if_neg z] at h; exact h⟩
  · rw [if_neg e.1, if_neg e.2.1, if_neg e.2.2.1, if_neg e.2.2.2.1, if_neg e.2.2.2.2.1, if_neg e.2.2.2.2.2] at h
    exact ⟨fun z => by rw [if_pos z] at h; exact h, fun z => by rw [if_neg z] at h; exact h⟩
theorem c_reckon {a x y : Int32} {Q : Int32 → ac_m → Prop} {s : ac_m} (h : Q (lop a x y) s) : w_X4_reckon (-7 - a) x y Q s := by
  unfold w_X4_reckon
  unfold lop at h
  refine ⟨fun e => ?_, fun e => ?_, fun e => ?_, fun e => ?_, fun e => ?_, fun e => ?_, fun e => ?_⟩
  · have e : a = 7 := by grind
    subst e
    rw [if_neg (by decide), if_neg (by decide), if_neg (by decide), if_neg (by decide), if_neg (by decide), if_pos rfl] at h
    exact ⟨fun z => by rw [if_pos z] at h; exact h, fun z => by rw [if_neg z] at h; exact h⟩
  · have e : a = 6 := by grind
    subst e
    rw [if_neg (by decide), if_neg (by decide), if_neg (by decide), if_neg (by decide), if_pos rfl] at h
    exact ⟨fun z => ⟨z, by rw [if_neg z] at h; exact h⟩, fun z => by rw [if_pos z] at h; exact h⟩
  · have e : a = 5 := by grind
    subst e
    rw [if_neg (by decide), if_neg (by decide), if_neg (by decide), if_pos rfl] at h
    exact ⟨fun z => ⟨z, by rw [if_neg z] at h; exact h⟩, fun z => by rw [if_pos z] at h; exact h⟩
  · have e : a = 4 := by grind
    subst e; exact h
  · have e : a = 3 := by grind
    subst e; exact h
  · have e : a = 2 := by grind
    subst e; exact h
  · rw [if_neg (by grind), if_neg (by grind), if_neg (by grind), if_neg (by grind), if_neg (by grind), if_neg (by grind)] at h
    exact ⟨fun z => by rw [if_pos z] at h; exact h, fun z => by rw [if_neg z] at h; exact h⟩
/-- how high the stack stands, and what is on it, ahead of the k-th piece -/
def lsk (A V X : Nat → Int32) : Nat → Nat × (Nat → Int32)
  | 0 => (0, fun _ => 0)
  | k + 1 => if A k < 2 then ((lsk A V X k).1 + 1, fun j => if j = (lsk A V X k).1 then (if A k = 0 then V k else X (V k).toNatClampNeg) else (lsk A V X k).2 j)
      else ((lsk A V X k).1 - 1, fun j => if j = (lsk A V X k).1 - 2 then lop (A k) ((lsk A V X k).2 ((lsk A V X k).1 - 2)) ((lsk A V X k).2 ((lsk A V X k).1 - 1)) else (lsk A V X k).2 j)
theorem lsk_h (A V X : Nat → Int32) : ∀ (k : Nat), (∀ j, j < k → 2 ≤ A j → 2 ≤ lH A j) → ((lsk A V X k).1 : Int) = lH A k ∧ (lsk A V X k).1 ≤ k
  | 0, _ => ⟨rfl, Nat.le_refl 0⟩
  | k + 1, h => by
    have ih := lsk_h A V X k (fun j hj => h j (by omega))
    have h2 := h k (by omega)
    unfold lsk lH
    by_cases c : A k < 2
    · rw [if_pos c, if_pos c]
      exact ⟨by simp only; omega, by simp only; omega⟩
    · rw [if_neg c, if_neg c]
      have := h2 (by grind)
      exact ⟨by simp only; omega, by simp only; omega⟩
def lcl (v : Int32) : Int32 := if (0 : Int32) < (if v < (20 : Int32) then v else (20 : Int32)) then (if v < (20 : Int32) then v else (20 : Int32)) else (0 : Int32)
theorem lcl_le (v : Int32) : 0 ≤ lcl v ∧ lcl v ≤ 20 := by unfold lcl; grind
/-- what the told law gives at the facts X -/
def lval (s : ac_m) (X : Nat → Int32) : Int32 := if s 69 19 = 0 then lcl (1 + X 0 / 10) else lcl ((lsk (fun k => s (138 + k) 0) (fun k => s (138 + k) 1) X (s 69 19).toNatClampNeg).2 0)
theorem lsk_up {A V X : Nat → Int32} {k : Nat} (h : A k < 2) : lsk A V X (k + 1) = ((lsk A V X k).1 + 1, fun j => if j = (lsk A V X k).1 then (if A k = 0 then V k else X (V k).toNatClampNeg) else (lsk A V X k).2 j) := by
  rw [lsk, if_pos h]
theorem lsk_dn {A V X : Nat → Int32} {k : Nat} (h : ¬ A k < 2) : lsk A V X (k + 1) = ((lsk A V X k).1 - 1, fun j => if j = (lsk A V X k).1 - 2 then lop (A k) ((lsk A V X k).2 ((lsk A V X k).1 - 2)) ((lsk A V X k).2 ((lsk A V X k).1 - 1)) else (lsk A V X k).2 j) := by
  rw [lsk, if_neg h]
theorem nI_m1 {h : Nat} (hh : 1 ≤ h) : nI h + (-1 : Int32) = nI (h - 1) := by
  have := nI_pred (h - 1)
  rw [show h - 1 + 1 = h by omega] at this
  grind
theorem nI_m2 {h : Nat} (hh : 2 ≤ h) : nI h + (-1 : Int32) - 1 = nI (h - 2) := by
  rw [nI_m1 (by omega)]
  have := nI_pred (h - 2)
  rw [show h - 2 + 1 = h - 1 by omega] at this
  exact this
theorem u_row {s s' : ac_m} {r k : Nat} {x : Int32} (h : ∀ a, a ≠ r → s' a = s a) : ∀ a, a ≠ r → ac_u s' r k x a = s a := fun a ha => by rw [u_ne ha]; exact h a ha
theorem c_law1 {Q : Int32 → ac_m → Prop} {s : ac_m} (A V : Nat → Int32) {n : Nat} (hn : n ≤ 150) (hm : s 25 3 = nI n)
    (hc : ∀ k, k < n → lOK (A k) (V k) ∧ s 26 k = lc (A k) (V k) ∧ (2 ≤ A k → 2 ≤ lH A k)) (he : lH A n = 1)
    (h : ∀ s', (∀ a, a ≠ 27 → s' a = s a) → Q (lcl ((lsk A V (s 28) n).2 0)) s') : w_X4_eaten Q s := by
  have hh : ∀ k, k ≤ n → ((lsk A V (s 28) k).1 : Int) = lH A k ∧ (lsk A V (s 28) k).1 ≤ k := fun k hk => lsk_h A V (s 28) k (fun j hj => (hc j (by omega)).2.2)
  unfold w_X4_eaten l_X4_eaten_4
  intro P hP
  refine loopUp (P := fun k => ∀ s', (∀ a, a ≠ 27 → s' a = s a) → (∀ j, j < (lsk A V (s 28) k).1 → s' 27 j = (lsk A V (s 28) k).2 j) → P (nI (lsk A V (s 28) k).1) (nI k) s') n ?_ ?_ s (fun _ _ => rfl) (fun j hj => absurd hj (Nat.not_lt_zero j))
  · intro s' f g
    have z := hh n (Nat.le_refl n)
    have g0 := g 0 (by omega)
    refine hP _ _ _ ⟨fun _ => ?_, fun hc => absurd (by rw [f 25 (by decide), hm]; exact Int32.le_refl _) hc⟩
    have := h s' f
    rw [← g0] at this
    exact this
  · intro k hk ih s' f g
    have z := hh k (by omega)
    obtain ⟨o1, o2, o3⟩ := hc k hk
    have e1 := cl_nI (n := k) (by omega)
    have e2 : vp_in (nI k) 150 := vp_in_nI (by omega) (by omega)
    have e4 := nI_1 k
    refine hP _ _ _ ⟨fun hc => absurd hc (by rw [f 25 (by decide), hm]; exact nI_ge hk (by omega)), fun _ => ⟨fun hc => absurd hc (nI_ge (b := 150) (a := k) (by omega) (by omega)), fun _ => ⟨e2, ?_⟩⟩⟩
    rw [e1, f 26 (by decide), o2, f 28 (by decide)]
    by_cases c : A k < 2
    · have ih := ih
      rw [lsk_up c] at ih
      have l : ¬ lc (A k) (V k) < -8 := by unfold lc; unfold lOK at o1; grind
      refine ⟨fun z => absurd z l, fun _ => ⟨fun hc => absurd hc (nI_ge (b := 150) (by omega) (by omega)), fun _ => ⟨fun l2 => ?_, fun l2 => ?_⟩⟩⟩
      · have a1 : A k = 1 := by unfold lc at l2; unfold lOK at o1; grind
        have x1 : (-1 : Int32) - lc (A k) (V k) = V k := by unfold lc; rw [a1]; grind
        have x2 : 0 ≤ V k ∧ V k ≤ 7 := by unfold lOK at o1; grind
        rw [x1]
        refine ⟨in_lt (m := 8) x2.1 (by grind) rfl, vp_in_nI (by omega) (by omega), ?_⟩
        rw [nI_1, e4, cl_nI (by omega)]
        refine ih _ (u_row f) (fun j hj => ?_)
        by_cases ej : j = (lsk A V (s 28) k).1
        · rw [ej, u_eq]
          simp only
          rw [if_pos trivial, if_neg (by rw [a1]; decide)]
        · rw [u_at ej]
          simp only
          rw [if_neg ej]
          exact g j (by simp only at hj; omega)
      · have a1 : A k = 0 := by unfold lc at l2; unfold lOK at o1; grind
        refine ⟨vp_in_nI (by omega) (by omega), ?_⟩
        rw [nI_1, e4, cl_nI (by omega)]
        refine ih _ (u_row f) (fun j hj => ?_)
        by_cases ej : j = (lsk A V (s 28) k).1
        · rw [ej, u_eq]
          simp only
          rw [if_pos trivial, if_pos a1]
          unfold lc
          rw [if_pos a1]
        · rw [u_at ej]
          simp only
          rw [if_neg ej]
          exact g j (by simp only at hj; omega)
    · have ih := ih
      rw [lsk_dn c] at ih
      have c2 : 2 ≤ A k := by grind
      have h2 := o3 c2
      have l : lc (A k) (V k) = -7 - A k := by unfold lc; rw [if_neg (by grind), if_neg (by grind)]
      have l3 : A k ≤ 8 := by unfold lOK at o1; grind
      rw [l]
      refine ⟨fun _ => ⟨fun z => absurd z (nI_nlt (b := 2) (by omega) (by omega)), fun _ => ?_⟩, fun z => absurd (by grind) z⟩
      rw [nI_m2 (by omega), nI_m1 (by omega)]
      refine ⟨vp_in_nI (by omega) (by omega), vp_in_nI (by omega) (by omega), ?_⟩
      rw [cl_nI (by omega), cl_nI (by omega)]
      refine c_reckon ⟨vp_in_nI (by omega) (by omega), ?_⟩
      rw [e4]
      refine ih _ (u_row f) (fun j hj => ?_)
      by_cases ej : j = (lsk A V (s 28) k).1 - 2
      · rw [ej, u_eq]
        simp only
        rw [if_pos trivial, g _ (by omega), g _ (by omega)]
      · rw [u_at ej]
        simp only
        rw [if_neg ej]
        exact g j (by simp only at hj; omega)
theorem m_law1 {Q : Int32 → ac_m → Prop} {s : ac_m} (A V : Nat → Int32) {n : Nat} (hn : n ≤ 150) (hm : s 69 19 = nI n)
    (hc : ∀ k, k < n → lOK (A k) (V k) ∧ (s (138 + k) 0 = A k ∧ s (138 + k) 1 = V k) ∧ (2 ≤ A k → 2 ≤ lH A k)) (he : lH A n = 1)
    (h : ∀ s', (∀ a, a ≠ 473 → s' a = s a) → Q (lcl ((lsk A V (s 474) n).2 0)) s') : l_X12_byLaw_21 Q 0 0 s := by
  have hh : ∀ k, k ≤ n → ((lsk A V (s 474) k).1 : Int) = lH A k ∧ (lsk A V (s 474) k).1 ≤ k := fun k hk => lsk_h A V (s 474) k (fun j hj => (hc j (by omega)).2.2)
  unfold l_X12_byLaw_21
  intro P hP
  refine loopUp (P := fun k => ∀ s', (∀ a, a ≠ 473 → s' a = s a) → (∀ j, j < (lsk A V (s 474) k).1 → s' 473 j = (lsk A V (s 474) k).2 j) → P (nI (lsk A V (s 474) k).1) (nI k) s') n ?_ ?_ s (fun _ _ => rfl) (fun j hj => absurd hj (Nat.not_lt_zero j))
  · intro s' f g
    have z := hh n (Nat.le_refl n)
    have g0 := g 0 (by omega)
    refine hP _ _ _ ⟨fun _ => ?_, fun hc => absurd (by rw [f 69 (by decide), hm]; exact Int32.le_refl _) hc⟩
    have := h s' f
    rw [← g0] at this
    unfold lcl at this
    unfold w_X12_more w_X12_less
    change (0 ≤ s' 473 0 → (s' 473 0 ≤ 20 → Q (s' 473 0) s') ∧ (¬ s' 473 0 ≤ 20 → Q 20 s')) ∧ (¬ 0 ≤ s' 473 0 → (0 ≤ (20 : Int32) → Q 0 s') ∧ (¬ 0 ≤ (20 : Int32) → Q 20 s'))
    generalize s' 473 0 = v at *
    refine ⟨fun z1 => ⟨fun z2 => ?_, fun z2 => ?_⟩, fun z1 => ⟨fun _ => ?_, fun z2 => absurd (by decide) z2⟩⟩
    · have e : (if (0 : Int32) < (if v < (20 : Int32) then v else (20 : Int32)) then (if v < (20 : Int32) then v else (20 : Int32)) else (0 : Int32)) = v := by grind
      rw [e] at this; exact this
    · have e : (if (0 : Int32) < (if v < (20 : Int32) then v else (20 : Int32)) then (if v < (20 : Int32) then v else (20 : Int32)) else (0 : Int32)) = 20 := by grind
      rw [e] at this; exact this
    · have e : (if (0 : Int32) < (if v < (20 : Int32) then v else (20 : Int32)) then (if v < (20 : Int32) then v else (20 : Int32)) else (0 : Int32)) = 0 := by grind
      rw [e] at this; exact this
  · intro k hk ih s' f g
    have z := hh k (by omega)
    obtain ⟨o1, ⟨o2, o4⟩, o3⟩ := hc k hk
    have e1 := cl_nI (n := k) (by omega)
    have e2 : vp_in (nI k) 160 := vp_in_nI (by omega) (by omega)
    have e4 := nI_1 k
    refine hP _ _ _ ⟨fun hc => absurd hc (by rw [f 69 (by decide), hm]; exact nI_ge hk (by omega)), fun _ => ⟨e2, ?_⟩⟩
    rw [e1, f (138 + k) (by omega), f 474 (by decide)]
    change (2 ≤ s (138 + k) 0 → _) ∧ (¬ 2 ≤ s (138 + k) 0 → _ ∧ (¬ s (138 + k) 0 = 0 → _ ∧ vp_in (s (138 + k) 1) 8 ∧ _ ∧ P _ _ (ac_u s' 473 _ (s 474 (s (138 + k) 1).toNatClampNeg))) ∧ (s (138 + k) 0 = 0 → _ ∧ _ ∧ P _ _ (ac_u s' 473 _ (s (138 + k) 1))))
    rw [show s (138 + k) (0 : Int32).toNatClampNeg = A k from o2, o2, o4]
    by_cases c : A k < 2
    · have ih := ih
      rw [lsk_up c] at ih
      refine ⟨fun z => absurd z (by grind), fun _ => ⟨e2, fun l2 => ?_, fun l2 => ?_⟩⟩
      · have x2 : 0 ≤ V k ∧ V k ≤ 7 := by unfold lOK at o1; grind
        refine ⟨e2, in_lt (m := 8) x2.1 (by grind) rfl, vp_in_nI (by omega) (by omega), ?_⟩
        rw [nI_1, e4, cl_nI (by omega)]
        refine ih _ (u_row f) (fun j hj => ?_)
        by_cases ej : j = (lsk A V (s 474) k).1
        · rw [ej, u_eq]
          simp only
          rw [if_pos trivial, if_neg l2]
        · rw [u_at ej]
          simp only
          rw [if_neg ej]
          exact g j (by simp only at hj; omega)
      · refine ⟨e2, vp_in_nI (by omega) (by omega), ?_⟩
        rw [nI_1, e4, cl_nI (by omega)]
        refine ih _ (u_row f) (fun j hj => ?_)
        by_cases ej : j = (lsk A V (s 474) k).1
        · rw [ej, u_eq]
          simp only
          rw [if_pos trivial, if_pos l2]
        · rw [u_at ej]
          simp only
          rw [if_neg ej]
          exact g j (by simp only at hj; omega)
    · have ih := ih
      rw [lsk_dn c] at ih
      have c2 : 2 ≤ A k := by grind
      have h2 := o3 c2
      refine ⟨fun _ => ⟨e2, ?_⟩, fun z => absurd c2 z⟩
      rw [nI_m2 (by omega), nI_m1 (by omega)]
      refine ⟨vp_in_nI (by omega) (by omega), vp_in_nI (by omega) (by omega), ?_⟩
      rw [cl_nI (by omega), cl_nI (by omega)]
      refine m_by ⟨vp_in_nI (by omega) (by omega), ?_⟩
      rw [e4]
      refine ih _ (u_row f) (fun j hj => ?_)
      by_cases ej : j = (lsk A V (s 474) k).1 - 2
      · rw [ej, u_eq]
        simp only
        rw [if_pos trivial, g _ (by omega), g _ (by omega)]
      · rw [u_at ej]
        simp only
        rw [if_neg ej]
        exact g j (by simp only at hj; omega)
