/-! BOTH LAWS GIVE ONE VALUE -/
def plA (k : Nat) : Int32 := if k = 0 then 0 else if k = 1 then 1 else if k = 2 then 0 else if k = 3 then 5 else 2
def plV (k : Nat) : Int32 := if k = 0 then 1 else if k = 1 then 0 else if k = 2 then 10 else 0
theorem pl_v (X : Nat → Int32) : (lsk plA plV X 5).2 0 = 1 + X 0 / 10 := by
  simp [lsk, plA, plV, lop]
theorem pl_ok : ∀ k, k < 5 → (plA k = 0 ∧ 0 ≤ plV k ∧ plV k ≤ 999) ∨ (plA k = 1 ∧ 0 ≤ plV k ∧ plV k ≤ 7) ∨ (2 ≤ plA k ∧ plA k ≤ 8) := by decide +kernel
theorem pl_h : ∀ k, k < 5 → 2 ≤ plA k → 2 ≤ lH plA k := by decide +kernel
theorem pl_e : lH plA 5 = 1 := by decide +kernel
theorem c_law {Q : Int32 → ac_m → Prop} {s : ac_m} (i : iL s) (h : ∀ s', (∀ a, a ≠ 27 → s' a = s a) → Q (lval s (s 28)) s') : w_X4_eaten Q s := by
  unfold lval at h
  rcases i with ⟨h0, h1, d0, d1, d2, d3, d4⟩ | ⟨n, h1, h2, h3, h4, h5, h6⟩
  · rw [if_pos h0] at h
    refine c_law1 plA plV (n := 5) (by omega) h1 (fun k hk => ⟨pl_ok k hk, ?_, pl_h k hk⟩) pl_e ?_
    · have : k = 0 ∨ k = 1 ∨ k = 2 ∨ k = 3 ∨ k = 4 := by omega
      rcases this with e | e | e | e | e <;> subst e
      · rw [d0]; decide +kernel
      · rw [d1]; decide +kernel
      · rw [d2]; decide +kernel
      · rw [d3]; decide +kernel
      · rw [d4]; decide +kernel
    · rw [pl_v]; exact h
  · rw [if_neg (by rw [h3]; exact nI_ne0 (by omega) (by omega)), h3, cl_nI (by omega)] at h
    exact c_law1 (fun k => s (138 + k) 0) (fun k => s (138 + k) 1) h2 h4 h5 h6 h
theorem m_law {Q : Int32 → ac_m → Prop} {s : ac_m} (i : iL s) (h : ∀ s', (∀ a, a ≠ 473 → s' a = s a) → Q (lval s (s 474)) s') : w_X12_byLaw Q s := by
  unfold lval at h
  unfold w_X12_byLaw
  rcases i with ⟨h0, h1, d0, d1, d2, d3, d4⟩ | ⟨n, h1, h2, h3, h4, h5, h6⟩
  · rw [if_pos h0] at h
    unfold l_X12_byLaw_21
    intro P hP
    refine hP _ _ _ ⟨fun _ => ?_, fun z => absurd (by rw [u_ne (by decide), h0]; decide) z⟩
    have := h (ac_u s 473 0 (1 + s 474 0 / 10)) (fun a ha => u_ne ha)
    unfold lcl at this
    unfold w_X12_more w_X12_less
    have eq : (ac_u s 473 0 (1 + s 474 0 / 10)) 473 0 = 1 + s 474 0 / 10 := u_eq
    change (0 ≤ (ac_u s 473 0 (1 + s 474 0 / 10)) 473 0 → ((ac_u s 473 0 (1 + s 474 0 / 10)) 473 0 ≤ 20 → Q ((ac_u s 473 0 (1 + s 474 0 / 10)) 473 0) (ac_u s 473 0 (1 + s 474 0 / 10))) ∧ (¬ (ac_u s 473 0 (1 + s 474 0 / 10)) 473 0 ≤ 20 → Q 20 (ac_u s 473 0 (1 + s 474 0 / 10)))) ∧ (¬ 0 ≤ (ac_u s 473 0 (1 + s 474 0 / 10)) 473 0 → (0 ≤ (20 : Int32) → Q 0 (ac_u s 473 0 (1 + s 474 0 / 10))) ∧ (¬ 0 ≤ (20 : Int32) → Q 20 (ac_u s 473 0 (1 + s 474 0 / 10))))
    rw [eq]
    revert this
    generalize ac_u s 473 0 (1 + s 474 0 / 10) = s'
    generalize 1 + s 474 0 / 10 = v
    intro this
    refine ⟨fun z1 => ⟨fun z2 => ?_, fun z2 => ?_⟩, fun z1 => ⟨fun _ => ?_, fun z2 => absurd (by decide) z2⟩⟩
    · have e : (if (0 : Int32) < (if v < (20 : Int32) then v else (20 : Int32)) then (if v < (20 : Int32) then v else (20 : Int32)) else (0 : Int32)) = v := by grind
      rw [e] at this; exact this
    · have e : (if (0 : Int32) < (if v < (20 : Int32) then v else (20 : Int32)) then (if v < (20 : Int32) then v else (20 : Int32)) else (0 : Int32)) = 20 := by grind
      rw [e] at this; exact this
    · have e : (if (0 : Int32) < (if v < (20 : Int32) then v else (20 : Int32)) then (if v < (20 : Int32) then v else (20 : Int32)) else (0 : Int32)) = 0 := by grind
      rw [e] at this; exact this
  · rw [if_neg (by rw [h3]; exact nI_ne0 (by omega) (by omega)), h3, cl_nI (by omega)] at h
    refine m_law1 (fun k => s (138 + k) 0) (fun k => s (138 + k) 1) h2 (by rw [u_ne (by decide)]; exact h3) (fun k hk => ⟨(h5 k hk).1, ?_, (h5 k hk).2.2⟩) h6 ?_
    · rw [u_ne (by omega)]; exact ⟨rfl, rfl⟩
    · rw [u_ne (by decide)]
      intro s' f
      exact h s' (fun a ha => (f a ha).trans (u_ne ha))
theorem lsk_cong {A V X Y : Nat → Int32} : ∀ {n : Nat}, (∀ k, k < n → A k < 2 → ¬ A k = 0 → X (V k).toNatClampNeg = Y (V k).toNatClampNeg) → lsk A V X n = lsk A V Y n
  | 0, _ => rfl
  | n + 1, h => by
    have ih := lsk_cong (n := n) (fun k hk => h k (by omega))
    have hn := h n (by omega)
    unfold lsk
    rw [ih]
    by_cases c : A n < 2
    · rw [if_pos c, if_pos c]
      by_cases c2 : A n = 0
      · rw [if_pos c2, if_pos c2]
      · rw [if_neg c2, if_neg c2, hn c c2]
    · rw [if_neg c, if_neg c]
theorem of_in7 {p : Int32} (h1 : 0 ≤ p) (h2 : p ≤ 7) : ∃ j, j < 8 ∧ p = nI j := by
  obtain ⟨j, hj, e⟩ := nI_of2 (x := p) (M := 7) (n := 7) rfl (by grind) h2
  exact ⟨j, by omega, e⟩
/-- the value rests on the eight facts alone -/
theorem lval_cong {s : ac_m} {X Y : Nat → Int32} (i : iL s) (h : ∀ j, j < 8 → X j = Y j) : lval s X = lval s Y := by
  unfold lval
  rcases i with ⟨h0, h1, d0, d1, d2, d3, d4⟩ | ⟨n, h1, h2, h3, h4, h5, h6⟩
  · rw [if_pos h0, if_pos h0, h 0 (by omega)]
  · rw [if_neg (by rw [h3]; exact nI_ne0 (by omega) (by omega)), if_neg (by rw [h3]; exact nI_ne0 (by omega) (by omega)), h3, cl_nI (by omega)]
    rw [lsk_cong (X := X) (Y := Y) (fun k hk a b => ?_)]
    have o := (h5 k hk).1
    have : 0 ≤ s (138 + k) 1 ∧ s (138 + k) 1 ≤ 7 := by unfold lOK at o; grind
    obtain ⟨j, hj, e⟩ := of_in7 this.1 this.2
    rw [e, cl_nI (by omega)]
    exact h j hj
theorem lval_le (s : ac_m) (X : Nat → Int32) : 0 ≤ lval s X ∧ lval s X ≤ 20 := by
  unfold lval
  by_cases h : s 69 19 = 0
  · rw [if_pos h]; exact lcl_le _
  · rw [if_neg h]; exact lcl_le _
/-- the value rests on the law told, not on the rest of the memory -/
theorem lval_mem {s s' : ac_m} {X : Nat → Int32} (h1 : s' 69 19 = s 69 19) (h2 : ∀ k, k < 160 → s' (138 + k) = s (138 + k)) (i : iL s) : lval s' X = lval s X := by
  unfold lval
  rw [h1]
  rcases i with ⟨h0, _⟩ | ⟨n, g1, g2, g3, _⟩
  · rw [if_pos h0, if_pos h0]
  · rw [if_neg (by rw [g3]; exact nI_ne0 (by omega) (by omega)), if_neg (by rw [g3]; exact nI_ne0 (by omega) (by omega)), g3, cl_nI (by omega)]
    have key : ∀ m, m ≤ n → lsk (fun k => s' (138 + k) 0) (fun k => s' (138 + k) 1) X m = lsk (fun k => s (138 + k) 0) (fun k => s (138 + k) 1) X m := by
      intro m
      induction m with
      | zero => intro _; rfl
      | succ m ih =>
        intro hm
        have ih := ih (by omega)
        have e := h2 m (by omega)
        unfold lsk
        rw [ih, e]
    rw [key n (Nat.le_refl n)]
