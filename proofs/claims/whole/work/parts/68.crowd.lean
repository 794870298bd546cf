/-! APPETITES, THE CLASS'S SIDE -/
theorem c_fill {r n : Nat} {v : Int32} {Q : ac_m → Prop} {s : ac_m} (hn : n < 2147483648) (h : ∀ s', (∀ x, x ≠ r → s' x = s x) → (∀ j, j < n → s' r j = v) → Q s') : w_J7_fill_53178 r n v Q s := by
  unfold w_J7_fill_53178 l_J7_fill_53178_5
  intro P hP
  refine loopUp (P := fun k => ∀ s', (∀ x, x ≠ r → s' x = s x) → (∀ j, j < k → s' r j = v) → P (nI k) s') n ?_ ?_ s (fun _ _ => rfl) (fun j hj => absurd hj (Nat.not_lt_zero j))
  · intro s' f g
    exact hP _ _ ⟨fun _ => h s' f g, fun z => absurd (Int32.le_refl _) z⟩
  · intro k hk ih s' f g
    refine hP _ _ ⟨fun z => absurd z (nI_ge hk (by omega)), fun _ => ⟨vp_in_nI hk (by omega), ?_⟩⟩
    rw [cl_nI (by omega), nI_1]
    refine ih _ (u_row f) (fun j hj => ?_)
    by_cases e : j = k
    · rw [e, u_eq]
    · rw [u_at e]; exact g j (by omega)
/-- how many graze at f, by the pastures alone -/
def cnC (s : ac_m) (a : Nat) (f : Int32) : Nat → Int32 := sm (fun k => if s (a + 3) k = f then 1 else 0)
def apC (s : ac_m) (a k : Nat) : Int32 := if s (a + 2) k ≤ 0 then 0 else lval s (f8 (s (a + 2) k) (if k = 12 then s a 9 else s 8 k) (s (a + 4) k) (s (a + 1) (s (a + 3) k).toNatClampNeg) (cnC s a (s (a + 3) k) 13 - 1) (if k = 12 then 0 else s (a + 5) (6 * (s 6 k).toNatClampNeg + (s 7 k).toNatClampNeg)) (s a 10) (nI k))
/-- a meadow of the class that can be -/
def vC (s : ac_m) (a : Nat) : Prop := ∀ k, k < 13 → ¬ s (a + 2) k ≤ 0 → (∃ f, f < 6 ∧ s (a + 3) k = nI f) ∧ (k < 12 → ∃ d e, d < 6 ∧ e < 6 ∧ s 6 k = nI d ∧ s 7 k = nI e)
theorem c_appetiteOf {a k : Nat} {Q : Int32 → ac_m → Prop} {s : ac_m} (i : iL s) (ha : 30 ≤ a) (hk : k < 13) (hs : ¬ s (a + 2) k ≤ 0) (v : vC s a) (hc : ∀ f, f < 6 → s (a + 6) f = cnC s a (nI f) 13)
    (h : ∀ s', (∀ x, x ≠ 27 → x ≠ 28 → s' x = s x) → Q (apC s a k) s') : w_X5_appetiteOf a (nI k) Q s := by
  obtain ⟨⟨f, hf, ef⟩, hde⟩ := v k hk hs
  have e1 := cl_nI (n := k) (by omega)
  have e2 := cl_nI (n := f) (by omega)
  have v13 : vp_in (nI k) 13 := vp_in_nI (by omega) (by omega)
  have v6 : vp_in (nI f) 6 := vp_in_nI (by omega) (by omega)
  have n0 : ¬ nI k < 0 := nI_pos (by omega)
  have n1 : nI k < 13 := nI_lt (b := 13) (by omega) (by omega)
  have n2 : ¬ nI f < 0 := nI_pos (by omega)
  have n3 : nI f < 6 := nI_lt (b := 6) (by omega) (by omega)
  unfold apC at h
  rw [if_neg hs, ef, e2, ← hc f hf] at h
  unfold w_X5_appetiteOf
  rw [e1, ef, e2]
  refine ⟨fun z => absurd z n0, fun _ => ⟨fun _ => ⟨v13, fun z => absurd z n2, fun _ => ⟨fun _ => ⟨fun k12 => ⟨fun _ => ?_, fun z => absurd rfl z⟩, fun k12 => ⟨fun z => absurd z (by decide), fun _ => ?_⟩⟩, fun z => absurd n3 z⟩⟩, fun z => absurd n1 z⟩⟩
  · have k12' : ¬ k = 12 := fun e => k12 (by rw [e]; rfl)
    obtain ⟨d, e, hd, he, ed, ee⟩ := hde (by omega)
    rw [if_neg k12', if_neg k12', ed, ee, cl_nI (by omega), cl_nI (by omega)] at h
    rw [ed, ee]
    have x2 := (sx_66 d hd e he).2
    refine ⟨v13, v13, ?_⟩
    unfold w_X5_coolness
    refine ⟨fun z => absurd z (nI_pos (by omega)), fun _ => ⟨fun z => absurd z (nI_ge (b := 6) hd (by omega)), fun _ => ⟨fun z => absurd z (nI_pos (by omega)), fun _ => ⟨fun _ => ?_, fun z => absurd (nI_lt (b := 6) he (by omega)) z⟩⟩⟩⟩
    rw [x2, cl_nI (by omega)]
    refine ⟨vp_in_nI (by omega) (by omega), v13, fun _ => ⟨v13, v13, ?_⟩, fun z => absurd rfl z⟩
    unfold w_X4_tellBeast w_X4_tellPlace
    refine ⟨v6, v6, ?_⟩
    simp (disch := omega) only [u_ne]
    exact c_tell8 i h
  · have k12' : k = 12 := (nI_eq (by omega) (by omega)).1 (show nI k = nI 12 from k12)
    rw [if_pos k12', if_pos k12'] at h
    refine ⟨v13, fun z => absurd z (by decide), fun _ => ⟨v13, ?_⟩⟩
    unfold w_X4_tellBeast w_X4_tellPlace
    refine ⟨v6, v6, ?_⟩
    simp (disch := omega) only [u_ne]
    exact c_tell8 i h
theorem iL_of {s s' : ac_m} (i : iL s) (h1 : s' 69 19 = s 69 19) (h2 : s' 25 3 = s 25 3) (h3 : s' 26 = s 26) (h4 : ∀ j, j < 160 → s' (138 + j) = s (138 + j)) : iL s' := by
  unfold iL at i ⊢
  rw [h1, h2, h3]
  refine i.imp id ?_
  rintro ⟨n, g0, g1, g2, g3, g4, g5⟩
  refine ⟨n, g0, g1, g2, g3, fun j hj => ?_, ?_⟩
  · rw [h4 j (by omega), lH_cong (w := fun j => s (138 + j) 0) (fun i hi => by rw [h4 i (by omega)])]
    exact g4 j hj
  · rw [lH_cong (w := fun j => s (138 + j) 0) (fun i hi => by rw [h4 i (by omega)])]
    exact g5
theorem cnC_no {s : ac_m} {a k : Nat} {f : Int32} (h : ¬ s (a + 3) k = f) : cnC s a f (k + 1) = cnC s a f k := by
  unfold cnC
  rw [sm]
  rw [if_neg h, Int32.add_zero]
theorem cnC_yes {s : ac_m} {a k : Nat} {f : Int32} (h : s (a + 3) k = f) : cnC s a f (k + 1) = cnC s a f k + 1 := by
  unfold cnC
  rw [sm]
  rw [if_pos h]
theorem apC_fr {s s' : ac_m} {a k : Nat} (i : iL s) (ha : 30 ≤ a) (ha2 : a ≤ 50) (h : ∀ x, x ≠ 27 → x ≠ 28 → x ≠ a + 6 → x ≠ a + 7 → s' x = s x) : apC s' a k = apC s a k := by
  have r (x : Nat) (h1 : x ≠ 27) (h2 : x ≠ 28) (h3 : x ≠ a + 6) (h4 : x ≠ a + 7) : s' x = s x := h x h1 h2 h3 h4
  unfold apC cnC
  rw [r (a + 2) (by omega) (by omega) (by omega) (by omega), r (a + 3) (by omega) (by omega) (by omega) (by omega), r (a + 4) (by omega) (by omega) (by omega) (by omega), r (a + 1) (by omega) (by omega) (by omega) (by omega), r (a + 5) (by omega) (by omega) (by omega) (by omega), r a (by omega) (by omega) (by omega) (by omega), r 6 (by omega) (by omega) (by omega) (by omega), r 7 (by omega) (by omega) (by omega) (by omega), r 8 (by omega) (by omega) (by omega) (by omega)]
  rw [lval_mem (s := s) (by rw [r 69 (by omega) (by omega) (by omega) (by omega)]) (fun j hj => r _ (by omega) (by omega) (by omega) (by omega)) i]
theorem c_reckonAll {a : Nat} {Q : ac_m → Prop} {s : ac_m} (i : iL s) (ha : 30 ≤ a) (ha2 : a ≤ 50) (v : vC s a)
    (h : ∀ s', (∀ x, x ≠ 27 → x ≠ 28 → x ≠ a + 6 → x ≠ a + 7 → s' x = s x) → (∀ k, k < 13 → s' (a + 7) k = apC s a k) → Q s') : w_X5_reckonAppetites a Q s := by
  unfold w_X5_reckonAppetites
  refine c_fill (by omega) (fun s1 f1 g1 => ?_)
  unfold l_X5_reckonAppetites_10
  intro P hP
  refine loopUp (P := fun k => ∀ s', (∀ x, x ≠ a + 6 → s' x = s x) → (∀ f, f < 6 → s' (a + 6) f = cnC s a (nI f) k) → P (nI k) s') 13 ?_ ?_ s1 f1 (fun f hf => g1 f hf)
  · intro s2 f2 g2
    refine hP _ _ ⟨fun _ => ?_, fun z => absurd (by decide) z⟩
    unfold l_X5_reckonAppetites_51
    intro P2 hP2
    refine loopUp (P := fun k => ∀ s', (∀ x, x ≠ 27 → x ≠ 28 → x ≠ a + 7 → s' x = s2 x) → (∀ j, j < k → s' (a + 7) j = apC s a j) → P2 (nI k) s') 13 ?_ ?_ s2 (fun _ _ _ _ => rfl) (fun j hj => absurd hj (Nat.not_lt_zero j))
    · intro s3 f3 g3
      exact hP2 _ _ ⟨fun _ => h s3 (fun x x1 x2 x3 x4 => (f3 x x1 x2 x4).trans (f2 x x3)) g3, fun z => absurd (by decide) z⟩
    · intro k hk ih s3 f3 g3
      have e1 := cl_nI (n := k) (by omega)
      have v13 : vp_in (nI k) 13 := vp_in_nI (by omega) (by omega)
      have fr : ∀ x, x ≠ 27 → x ≠ 28 → x ≠ a + 6 → x ≠ a + 7 → s3 x = s x := fun x x1 x2 x3 x4 => (f3 x x1 x2 x4).trans (f2 x x3)
      have r2 : s3 (a + 2) = s (a + 2) := fr _ (by omega) (by omega) (by omega) (by omega)
      have r3 : s3 (a + 3) = s (a + 3) := fr _ (by omega) (by omega) (by omega) (by omega)
      refine hP2 _ _ ⟨fun z => absurd z (nI_ge (b := 13) hk (by omega)), fun _ => ⟨v13, ?_⟩⟩
      rw [e1, nI_1, r2]
      refine ⟨fun z => ⟨v13, ?_⟩, fun z => ?_⟩
      · refine ih _ (fun x x1 x2 x3 => by rw [u_ne x3]; exact f3 x x1 x2 x3) (fun j hj => ?_)
        by_cases e : j = k
        · rw [e, u_eq]; unfold apC; rw [if_pos z]
        · rw [u_at e]; exact g3 j (by omega)
      · have i3 : iL s3 := by
          refine iL_of i (by rw [fr 69 (by omega) (by omega) (by omega) (by omega)]) (by rw [fr 25 (by omega) (by omega) (by omega) (by omega)]) (by rw [fr 26 (by omega) (by omega) (by omega) (by omega)]) (fun j hj => fr _ (by omega) (by omega) (by omega) (by omega))
        have w3 : vC s3 a := by
          intro j hj hz
          rw [r2] at hz
          rw [r3, fr 6 (by omega) (by omega) (by omega) (by omega), fr 7 (by omega) (by omega) (by omega) (by omega)]
          exact v j hj hz
        refine c_appetiteOf i3 ha hk (by rw [r2]; exact z) w3 (fun f hf => ?_) (fun s4 f4 => ⟨v13, ?_⟩)
        · rw [f3 (a + 6) (by omega) (by omega) (by omega), g2 f hf]
          unfold cnC
          rw [r3]
        · rw [apC_fr i ha ha2 fr]
          refine ih _ (fun x x1 x2 x3 => by rw [u_ne x3, f4 x x1 x2]; exact f3 x x1 x2 x3) (fun j hj => ?_)
          by_cases e : j = k
          · rw [e, u_eq]
          · rw [u_at e, f4 (a + 7) (by omega) (by omega)]; exact g3 j (by omega)
  · intro k hk ih s2 f2 g2
    have e1 := cl_nI (n := k) (by omega)
    have v13 : vp_in (nI k) 13 := vp_in_nI (by omega) (by omega)
    refine hP _ _ ⟨fun z => absurd z (nI_ge (b := 13) hk (by omega)), fun _ => ⟨v13, ?_⟩⟩
    rw [e1, nI_1, f2 (a + 3) (by omega)]
    refine ⟨fun z => ih s2 f2 (fun f hf => ?_), fun z => ⟨fun z2 => ih s2 f2 (fun f hf => ?_), fun z2 => ?_⟩⟩
    · rw [g2 f hf, cnC_no (fun e => by rw [e] at z; exact nI_pos (by omega) z)]
    · rw [g2 f hf, cnC_no (fun e => by rw [e] at z2; exact nI_ge (b := 6) (by omega) (by omega) z2)]
    · obtain ⟨f0, hf0, e0⟩ := of_in (n := 6) (by omega) (show 0 ≤ s (a + 3) k by grind) (show s (a + 3) k < 6 by grind)
      have v6 : vp_in (nI f0) 6 := vp_in_nI (by omega) (by omega)
      rw [e0, cl_nI (by omega)]
      refine ⟨v6, v6, ih _ (u_row f2) (fun f hf => ?_)⟩
      by_cases e : f = f0
      · subst e
        rw [u_eq, g2 f hf, cnC_yes e0]
      · rw [u_at e, g2 f hf, cnC_no (fun e2 => e ((nI_eq (by omega) (by omega)).1 (e2.symm.trans e0)))]
