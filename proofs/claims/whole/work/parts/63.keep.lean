/-! WHAT THE INVARIANT RESTS ON -/
def kq (s s' : ac_m) : Prop := (∀ a, (isScr a || a == 0 || a == 71) = false → s' a = s a) ∧ ∀ k, isS69 k = false → s' 69 k = s 69 k
theorem kq.of {s s' : ac_m} (h : kp s s') : kq s s' := ⟨fun a ha => h.1 a (by revert ha; cases isScr a <;> simp), h.2⟩
theorem kq.refl (s : ac_m) : kq s s := ⟨fun _ _ => rfl, fun _ _ => rfl⟩
theorem kq.trans {s t u : ac_m} (h : kq s t) (h2 : kq t u) : kq s u := ⟨fun a ha => (h2.1 a ha).trans (h.1 a ha), fun k hk => (h2.2 k hk).trans (h.2 k hk)⟩
theorem kq.u {s t : ac_m} {a k : Nat} {x : Int32} (h : kq s t) (ha : (isScr a || a == 0 || a == 71) = true) (hk : a = 69 → isS69 k = true) : kq s (ac_u t a k x) := by
  refine ⟨fun b hb => ?_, fun j hj => ?_⟩
  · rw [u_ne (fun e => by rw [e, ha] at hb; cases hb)]
    exact h.1 b hb
  · by_cases e : a = 69
    · subst e
      rw [u_at (fun e => by rw [e, hk rfl] at hj; cases hj)]
      exact h.2 j hj
    · rw [u_ne (fun z => e z.symm)]
      exact h.2 j hj
theorem lH_cong {w w' : Nat → Int32} : ∀ {n : Nat}, (∀ j, j < n → w' j = w j) → lH w' n = lH w n
  | 0, _ => rfl
  | n + 1, h => by unfold lH; rw [h n (by omega), lH_cong (fun j hj => h j (by omega))]
theorem iH_kq {s s' : ac_m} (k : kq s s') (h : iH s) : iH s' := by
  have d1 : ∀ f, f < 6 → (isScr (82 + f) || (82 + f) == 0 || (82 + f) == 71) = false := by decide +kernel
  have d2 : ∀ f, f < 12 → (isScr (102 + f) || (102 + f) == 0 || (102 + f) == 71) = false := by decide +kernel
  have d3 : ∀ f, f < 10 → (isScr (127 + f) || (127 + f) == 0 || (127 + f) == 71) = false := by decide +kernel
  unfold iH at h ⊢
  rw [k.1 73 rfl, k.1 3 rfl, k.1 4 rfl, k.1 5 rfl, k.1 6 rfl, k.1 7 rfl, k.1 8 rfl, k.1 9 rfl, k.1 10 rfl, k.1 11 rfl, k.1 12 rfl]
  refine ⟨h.1, h.2.1, fun f hf => ?_, fun b hb => ?_, fun e he => ?_⟩
  · rw [k.1 _ (d1 f hf)]; exact h.2.2.1 f hf
  · by_cases e : b = 12
    · refine ⟨fun hl => absurd hl ?_, (h.2.2.2.1 b hb).2⟩
      have := h.1.2.2.2.1
      subst e
      intro hl
      exact absurd this (by revert hl; generalize s 73 1 = z; intro hl; rw [na_le]; rw [na_lt] at hl; have : (nI 12).toInt = 12 := rfl; have : (12 : Int32).toInt = 12 := rfl; omega)
    · rw [k.1 _ (d2 b (by omega))]; exact h.2.2.2.1 b hb
  · rw [k.1 _ (d3 e he)]; exact h.2.2.2.2 e he
theorem iM_kq {s s' : ac_m} (k : kq s s') (h : iM s 42 556) : iM s' 42 556 := by
  unfold iM at h ⊢
  rw [k.1 (42 + 2) rfl, k.1 (42 + 4) rfl, k.1 (42 + 3) rfl, k.1 556 rfl, k.1 (42 + 1) rfl, k.1 (42 + 5) rfl, k.1 42 rfl]
  exact h
theorem iL_kq {s s' : ac_m} (k : kq s s') (h : iL s) : iL s' := by
  have d1 : ∀ f, f < 150 → (isScr (138 + f) || (138 + f) == 0 || (138 + f) == 71) = false := by decide +kernel
  unfold iL at h ⊢
  rw [k.2 19 rfl, k.1 25 rfl, k.1 26 rfl]
  refine h.imp id ?_
  rintro ⟨n, h0, h1, h2, h3, h4, h5⟩
  refine ⟨n, h0, h1, h2, h3, fun j hj => ?_, ?_⟩
  · rw [k.1 _ (d1 j (by omega)), lH_cong (w := fun j => s (138 + j) 0) (fun i hi => by rw [k.1 _ (d1 i (by omega))])]
    exact h4 j hj
  · rw [lH_cong (w := fun j => s (138 + j) 0) (fun i hi => by rw [k.1 _ (d1 i (by omega))])]
    exact h5
theorem iB_kq {s s' : ac_m} (k : kq s s') (h : iB s) : iB s' := by
  have d1 : ∀ f, f < 6 → (isScr (460 + f) || (460 + f) == 0 || (460 + f) == 71) = false := by decide +kernel
  unfold iB at h ⊢
  rw [k.2 34 rfl, k.1 33 rfl, k.1 34 rfl]
  refine ⟨h.1, h.2.1, h.2.2.1, fun j hj => ?_, fun e he => ?_⟩
  · rw [k.1 _ (d1 j hj)]; exact h.2.2.2.1 j hj
  · refine (h.2.2.2.2 e he).imp id ?_
    rintro ⟨j, hj, h1⟩
    refine ⟨j, hj, ?_⟩
    rw [k.1 _ (d1 j hj)]; exact h1
theorem iT_kq {s s' : ac_m} (k : kq s s') (h : iT s) : iT s' := by
  unfold iT at h ⊢
  rw [k.2 1 rfl, k.1 1 rfl, k.1 70 rfl, k.1 2 rfl]
  exact h
theorem iP_kq {s s' : ac_m} (k : kq s s') (h : iP s) : iP s' := by
  have d1 : ∀ f, f < 16 → (isScr (560 + f) || (560 + f) == 0 || (560 + f) == 71) = false := by decide +kernel
  have d2 : ∀ f, f < 3 → (isScr (577 + f) || (577 + f) == 0 || (577 + f) == 71) = false := by decide +kernel
  unfold iP at h ⊢
  rw [k.2 35 rfl, k.2 37 rfl, k.1 58 rfl, k.1 59 rfl, k.1 60 rfl, k.1 61 rfl, k.1 73 rfl]
  refine ⟨h.1, h.2.1, h.2.2.1, h.2.2.2.1, h.2.2.2.2.1, h.2.2.2.2.2.1, fun w hw => ?_, fun i hi => ?_⟩
  · rw [k.1 _ (d1 w hw)]; exact h.2.2.2.2.2.2.1 w hw
  · rw [k.1 _ (d2 i hi)]; exact h.2.2.2.2.2.2.2 i hi
theorem Inv_kq {s s' : ac_m} (k : kq s s') (x : iX s') (h : Inv s) : Inv s' := by
  refine ⟨iH_kq k h.1, iM_kq k h.2.1, ?_, ?_, iL_kq k h.2.2.2.2.1, iB_kq k h.2.2.2.2.2.1, iT_kq k h.2.2.2.2.2.2.1, iP_kq k h.2.2.2.2.2.2.2.1, x⟩
  · rw [k.1 73 rfl, k.1 556 rfl]; exact h.2.2.1
  · rw [k.1 73 rfl, k.1 556 rfl]; exact h.2.2.2.1
theorem Inv_kp {s s' : ac_m} (k : kp s s') (h : Inv s) : Inv s' := by
  refine Inv_kq (.of k) ?_ h
  have x := h.2.2.2.2.2.2.2.2
  unfold iX at x ⊢
  rw [k.1 1 rfl, k.1 0 rfl, k.1 71 rfl, k.2 3 rfl, k.2 36 rfl]
  exact x
/-! THE FORM OF A STEP: the class runs first, then the reference -/
def thA (E : String) (c : Int32) : Prop := E = "java/lang/IllegalArgumentException" ∧ c = 1
def thN (E : String) (c : Int32) : Prop := E = "java/util/NoSuchElementException" ∧ c = 1
def thB (E : String) (c : Int32) : Prop := (E = "java/util/NoSuchElementException" ∧ c = 1) ∨ (E = "java/lang/IllegalArgumentException" ∧ c = 2)
def simX (T : String → Int32 → Prop) (wc : (Int32 → ac_m → Prop) → (String → ac_m → Prop) → ac_m → Prop) (wm : (Int32 → ac_m → Prop) → ac_m → Prop) (s : ac_m) : Prop :=
  wc (fun r s1 => wm (fun b s2 => r = b ∧ s2 69 0 = 0 ∧ Inv s2) s1) (fun E s1 => wm (fun _ s2 => T E (s2 69 0) ∧ Inv s2) s1) s
def sim0 (wc : (Int32 → ac_m → Prop) → ac_m → Prop) (wm : (Int32 → ac_m → Prop) → ac_m → Prop) (s : ac_m) : Prop :=
  wc (fun r s1 => wm (fun b s2 => r = b ∧ s2 69 0 = 0 ∧ Inv s2) s1) s
/-- the end of a question: nothing but scratch was changed -/
theorem kp_end {s s' : ac_m} (i : Inv s) (k : kp s s') : Inv (ac_u s' 69 0 0) := Inv_kp (k.u rfl (fun _ => rfl)) i
theorem Inv_0 {s : ac_m} (i : Inv s) : Inv (ac_u s 69 0 0) := kp_end i (.refl s)
theorem s_fault (s : ac_m) (i : Inv s) : sim0 (w_X11_fault) (w_X12_fault) s := by
  unfold sim0 w_X11_fault w_X12_fault
  refine ⟨?_, u_eq, Inv_0 i⟩
  rw [u_at (by decide)]
  exact i.2.2.2.2.2.2.2.2.1
theorem s_count (p : Int32) (s : ac_m) (i : Inv s) : sim0 (w_X11_count p) (w_X12_count p) s := by
  have i0 := Inv_0 i
  have hP := i.2.2.2.2.2.2.2.1
  have h1 := hP.1
  have h2 := hP.2.2.2.1
  have h3 := i.2.2.2.2.2.2.1.1
  have e0 : (ac_u s 69 0 0) 69 0 = 0 := u_eq
  have e1 : (ac_u s 69 0 0) 69 35 = s 69 35 := u_at (by decide)
  have e2 : (ac_u s 69 0 0) 69 37 = s 69 37 := u_at (by decide)
  have e3 : (ac_u s 69 0 0) 69 1 = s 69 1 := u_at (by decide)
  unfold sim0 w_X11_count w_X12_count
  simp only [e1, e2, e3]
  repeat' (first | assumption | with_reducible apply And.intro | with_reducible intro _)
  all_goals grind
theorem s_status (p : Int32) (s : ac_m) (i : Inv s) : sim0 (w_X11_status p) (w_X12_status p) s := by
  have i0 := Inv_0 i
  have h1 := i.2.2.2.2.2.2.2.2.2.2.1
  have h2 := i.2.2.2.2.2.2.2.2.2.2.2
  have e0 : (ac_u s 69 0 0) 69 0 = 0 := u_eq
  have e1 : (ac_u s 69 0 0) 71 = s 71 := u_ne (by decide)
  have v0 : vp_in 0 2 := vp_in_nI (n := 0) (by omega) (by omega)
  have v1 : vp_in 1 2 := vp_in_nI (n := 1) (by omega) (by omega)
  have c0 : p = 0 → p.toNatClampNeg = 0 := fun h => by rw [h]; rfl
  have c1 : p = 1 → p.toNatClampNeg = 1 := fun h => by rw [h]; rfl
  unfold sim0 w_X11_status w_X12_status w_X12_in
  simp only [e1]
  repeat' (first | assumption | with_reducible apply And.intro | with_reducible intro _)
  all_goals grind
