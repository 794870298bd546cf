/-! PRICE -/
def eO : Option Nat → Int32
  | none => -1
  | some n => nI n
def rlx (y : Nat → Option Nat) (a b r : Nat) (v : Nat) : Option Nat :=
  match y a with
  | none => y v
  | some n => match y b with
    | none => if v = b then some (n * r) else y v
    | some m => if m ≤ n * r then y v else if v = b then some (n * r) else y v
def nS (y : Nat → Option Nat) : Nat := ns (fun v => if (y v).isSome = true then 1 else 0) 6
/-- the class's costs: t rounds are done, and j fairs of the next -/
def IC (a b r : Nat → Nat) (E k t j : Nat) (y : Nat → Option Nat) : Prop :=
  (∀ v n, v < 6 → y v = some n → ∃ T, rch a b r E k T v n) ∧ (∀ v c, rch a b r E k t v c → ∃ n, n ≤ c ∧ y v = some n) ∧ (∀ e, e < j → ∀ c', rch a b r E k t (a e) c' → ∃ n, n ≤ c' * r e ∧ y (b e) = some n) ∧ (∀ v n, v < 6 → y v = some n → n ≤ 9 ^ (nS y - 1)) ∧ 1 ≤ nS y
theorem nS_le (y : Nat → Option Nat) : nS y ≤ 6 := by
  have := ns_bd (m := fun v => if (y v).isSome = true then 1 else 0) (c := 1) (n := 6) (fun k _ => by show (if _ then 1 else 0) ≤ 1; split <;> omega)
  unfold nS
  omega
theorem pow9 : ∀ n, n < 7 → 9 ^ (n - 1) ≤ 59049 := by decide +kernel
theorem IC_bd {a b r : Nat → Nat} {E k t j : Nat} {y : Nat → Option Nat} (h : IC a b r E k t j y) {v n : Nat} (hv : v < 6) (e : y v = some n) : n ≤ 59049 := Nat.le_trans (h.2.2.2.1 v n hv e) (pow9 _ (by have := nS_le y; omega))
/-- one fair more -/
theorem IC_step {a b r : Nat → Nat} {E k t j : Nat} {y : Nat → Option Nat} (h : IC a b r E k t j y) (hj : j < E) (ha : a j < 6) (hb : b j < 6) (r1 : 1 ≤ r j) (r9 : r j ≤ 9) : IC a b r E k t (j + 1) (rlx y (a j) (b j) (r j)) := by
  obtain ⟨h1, h2, h3, h4, h5⟩ := h
  -- the new value at b j, if there is one; nothing else changes, and nothing grows
  have dec : ∀ v n, y v = some n → ∃ n', n' ≤ n ∧ rlx y (a j) (b j) (r j) v = some n' := by
    intro v n e
    unfold rlx
    cases ea : y (a j) with
    | none => exact ⟨n, Nat.le_refl n, e⟩
    | some na =>
      cases eb : y (b j) with
      | none =>
        show ∃ n', n' ≤ n ∧ (if v = b j then some (na * r j) else y v) = some n'
        by_cases c : v = b j
        · rw [c, eb] at e; cases e
        · rw [if_neg c]; exact ⟨n, Nat.le_refl n, e⟩
      | some nb =>
        show ∃ n', n' ≤ n ∧ (if nb ≤ na * r j then y v else if v = b j then some (na * r j) else y v) = some n'
        by_cases q : nb ≤ na * r j
        · rw [if_pos q]; exact ⟨n, Nat.le_refl n, e⟩
        · rw [if_neg q]
          by_cases c : v = b j
          · rw [if_pos c]
            rw [c, eb] at e
            exact ⟨na * r j, by have := Option.some.inj e; omega, rfl⟩
          · rw [if_neg c]; exact ⟨n, Nat.le_refl n, e⟩
  have nw : ∀ na, y (a j) = some na → ∃ n', n' ≤ na * r j ∧ rlx y (a j) (b j) (r j) (b j) = some n' := by
    intro na ea
    unfold rlx
    rw [ea]
    cases eb : y (b j) with
    | none =>
      exact ⟨na * r j, Nat.le_refl _, if_pos rfl⟩
    | some nb =>
      show ∃ n', n' ≤ na * r j ∧ (if nb ≤ na * r j then some nb else if b j = b j then some (na * r j) else some nb) = some n'
      by_cases q : nb ≤ na * r j
      · rw [if_pos q]; exact ⟨nb, q, rfl⟩
      · rw [if_neg q, if_pos rfl]; exact ⟨_, Nat.le_refl _, rfl⟩
  have old : ∀ v n, rlx y (a j) (b j) (r j) v = some n → y v = some n ∨ (v = b j ∧ ∃ na, y (a j) = some na ∧ n = na * r j ∧ (∀ m, y (b j) = some m → n < m)) := by
    intro v n
    unfold rlx
    cases ea : y (a j) with
    | none => exact fun e => .inl e
    | some na =>
      cases eb : y (b j) with
      | none =>
        show (if v = b j then some (na * r j) else y v) = some n → _
        intro e
        by_cases c : v = b j
        · rw [if_pos c] at e
          exact .inr ⟨c, na, rfl, (Option.some.inj e).symm, fun m hm => by cases hm⟩
        · rw [if_neg c] at e; exact .inl e
      | some nb =>
        show (if nb ≤ na * r j then y v else if v = b j then some (na * r j) else y v) = some n → _
        intro e
        by_cases q : nb ≤ na * r j
        · rw [if_pos q] at e; exact .inl e
        · rw [if_neg q] at e
          by_cases c : v = b j
          · rw [if_pos c] at e
            exact .inr ⟨c, na, rfl, (Option.some.inj e).symm, fun m hm => by have := Option.some.inj e; have := Option.some.inj hm; omega⟩
          · rw [if_neg c] at e; exact .inl e
  have cn : nS y ≤ nS (rlx y (a j) (b j) (r j)) := by
    unfold nS
    refine ns_le (fun v _ => ?_)
    cases e : y v with
    | none => exact Nat.zero_le _
    | some n =>
      obtain ⟨n', _, e'⟩ := dec v n e
      rw [e']; exact Nat.le_refl _
  refine ⟨fun v n hv e => ?_, fun v c hc => ?_, fun e he c' hc => ?_, fun v n hv e => ?_, by omega⟩
  · rcases old v n e with q | ⟨q1, na, q2, q3, -⟩
    · exact h1 v n hv q
    · obtain ⟨T, hT⟩ := h1 (a j) na ha q2
      exact ⟨T + 1, .inr ⟨j, hj, na, hT, q1, q3⟩⟩
  · obtain ⟨n, hn, e⟩ := h2 v c hc
    obtain ⟨n', hn', e'⟩ := dec v n e
    exact ⟨n', by omega, e'⟩
  · by_cases ej : e = j
    · subst ej
      obtain ⟨n, hn, en⟩ := h2 (a e) c' hc
      obtain ⟨n', hn', e'⟩ := nw n en
      exact ⟨n', Nat.le_trans hn' (Nat.mul_le_mul_right _ hn), e'⟩
    · obtain ⟨n, hn, en⟩ := h3 e (by omega) c' hc
      obtain ⟨n', hn', e'⟩ := dec _ n en
      exact ⟨n', by omega, e'⟩
  · rcases old v n e with q | ⟨q1, na, q2, q3, q4⟩
    · exact Nat.le_trans (h4 v n hv q) (Nat.pow_le_pow_right (n := 9) (by decide) (by omega))
    · cases eb : y (b j) with
      | some m =>
        have := q4 m eb
        have := h4 (b j) m hb eb
        exact Nat.le_trans (by omega) (Nat.pow_le_pow_right (n := 9) (by decide) (show nS y - 1 ≤ _ by omega))
      | none =>
        have st : nS y < nS (rlx y (a j) (b j) (r j)) := by
          unfold nS
          refine ns_strict (fun v _ => ?_) (b j) hb ?_
          · cases e : y v with
            | none => exact Nat.zero_le _
            | some n =>
              obtain ⟨n', _, e'⟩ := dec v n e
              rw [e']; exact Nat.le_refl _
          · show (if (y (b j)).isSome = true then 1 else 0) < if (rlx y (a j) (b j) (r j) (b j)).isSome = true then 1 else 0
            obtain ⟨n', _, e'⟩ := nw na q2
            rw [eb, e']; exact Nat.zero_lt_one
        have ba := h4 (a j) na ha q2
        rw [q3]
        have p1 : na * r j ≤ 9 ^ (nS y - 1) * 9 := Nat.mul_le_mul ba r9
        rw [← Nat.pow_succ, show (nS y - 1).succ = nS y by omega] at p1
        exact Nat.le_trans p1 (Nat.pow_le_pow_right (n := 9) (by decide) (by omega))
theorem IC_round {a b r : Nat → Nat} {E k t : Nat} {y : Nat → Option Nat} (h : IC a b r E k t E y) : IC a b r E k (t + 1) 0 y := by
  obtain ⟨h1, h2, h3, h4, h5⟩ := h
  refine ⟨h1, fun v c hc => ?_, fun e he => absurd he (Nat.not_lt_zero e), h4, h5⟩
  rcases hc with hc | ⟨e, he, c', q1, q2, q3⟩
  · exact h2 v c hc
  · rw [q2, q3]; exact h3 e he c' q1
theorem c_useF {e a b r : Nat} {y : Nat → Option Nat} {Q : ac_m → Prop} {s : ac_m} (he : e < 10) (ha : a < 6) (hb : b < 6) (hr : r ≤ 9) (e1 : s 10 e = nI a) (e2 : s 11 e = nI b) (e3 : s 12 e = nI r) (m : ∀ v, v < 6 → s 13 v = eO (y v)) (bd : ∀ v n, v < 6 → y v = some n → n ≤ 59049)
    (h : ∀ s', (∀ x, x ≠ 13 → s' x = s x) → (∀ v, v < 6 → s' 13 v = eO (rlx y a b r v)) → Q s') : w_X3_useFair (nI e) Q s := by
  have v10 : vp_in (nI e) 10 := vp_in_nI he (by omega)
  have va : vp_in (nI a) 6 := vp_in_nI ha (by omega)
  have vb : vp_in (nI b) 6 := vp_in_nI hb (by omega)
  have ne1 : ∀ n, n < 2147483648 → nI n ≠ -1 := fun n hn q => by have := nI_pos' (n := n) hn; rw [q] at this; exact absurd this (by decide)
  unfold w_X3_useFair
  rw [cl_nI (by omega), e1, e2, e3, cl_nI (n := a) (by omega), cl_nI (n := b) (by omega), m a ha, m b hb]
  refine ⟨fun z => absurd z (nI_pos (by omega)), fun _ => ⟨fun _ => ⟨v10, v10, fun z => absurd z (nI_pos (by omega)), fun _ => ⟨fun z => absurd z (nI_ge (b := 6) ha (by omega)), fun _ => ⟨fun z => absurd z (nI_pos (by omega)), fun _ => ⟨fun z => absurd z (nI_ge (b := 6) hb (by omega)), fun _ => ⟨va, ?_⟩⟩⟩⟩⟩, fun z => absurd (nI_lt (b := 10) he (by omega)) z⟩⟩
  have upd13 : ∀ w, (∀ v, v < 6 → (ac_u s 13 b (nI w)) 13 v = if v = b then nI w else eO (y v)) := by
    intro w v hv
    by_cases c : v = b
    · rw [if_pos c, c, u_eq]
    · rw [if_neg c, u_at c]; exact m v hv
  cases ea : y a with
  | none =>
    refine ⟨fun z => absurd rfl z, fun _ => h s (fun _ _ => rfl) (fun v hv => ?_)⟩
    rw [m v hv]; unfold rlx; rw [ea]
  | some na =>
    have ba := bd a na ha ea
    have nm : na * r ≤ 59049 * 9 := Nat.mul_le_mul ba hr
    refine ⟨fun _ => ⟨va, v10, fun w hw => ?_⟩, fun z => absurd z (ne1 na (by omega))⟩
    have hw' : w = nI (na * r) := hw.trans (nI_mul na r)
    subst hw'
    cases eb : y b with
    | none =>
      refine ⟨vb, fun _ => ⟨vb, h _ (fun x hx => u_ne hx) (fun v hv => ?_)⟩, fun z => absurd rfl z⟩
      rw [upd13 _ v hv]; unfold rlx; rw [ea, eb]
      show _ = eO (if v = b then some (na * r) else y v)
      split <;> rfl
    | some nb =>
      have bb := bd b nb hb eb
      refine ⟨vb, fun z => absurd z (ne1 nb (by omega)), fun _ => ⟨vb, ?_⟩⟩
      show (nI nb ≤ nI (na * r) → _) ∧ (¬ nI nb ≤ nI (na * r) → _)
      rw [nI_leI (by omega) (by omega)]
      refine ⟨fun q => h s (fun _ _ => rfl) (fun v hv => ?_), fun q => ⟨vb, h _ (fun x hx => u_ne hx) (fun v hv => ?_)⟩⟩
      · rw [m v hv]; unfold rlx; rw [ea, eb]
        show _ = eO (if nb ≤ na * r then y v else if v = b then some (na * r) else y v)
        rw [if_pos q]
      · rw [upd13 _ v hv]; unfold rlx; rw [ea, eb]
        show _ = eO (if nb ≤ na * r then y v else if v = b then some (na * r) else y v)
        rw [if_neg q]
        split <;> rfl
/-- the reference's costs -/
def IM (a b r : Nat → Nat) (E k t j : Nat) (z : Nat → Nat) : Prop :=
  (∀ v, v < 6 → z v ≤ 1000 ∧ (z v = 1000 ∨ ∃ T, rch a b r E k T v (z v))) ∧ (∀ v c, v < 6 → rch a b r E k t v c → z v ≤ c) ∧ (∀ e, e < j → ∀ c', rch a b r E k t (a e) c' → z (b e) ≤ c' * r e)
theorem IM_step {a b r : Nat → Nat} {E k t j : Nat} {z : Nat → Nat} (h : IM a b r E k t j z) (hj : j < E) (ha : a j < 6) (hb : b j < 6) (r1 : 1 ≤ r j) : IM a b r E k t (j + 1) (fun v => if v = b j then min (z (b j)) (z (a j) * r j) else z v) := by
  obtain ⟨h1, h2, h3⟩ := h
  have dec : ∀ v, (if v = b j then min (z (b j)) (z (a j) * r j) else z v) ≤ z v := by
    intro v
    by_cases c : v = b j
    · rw [if_pos c, c]; exact Nat.min_le_left _ _
    · rw [if_neg c]; exact Nat.le_refl _
  refine ⟨fun v hv => ⟨Nat.le_trans (dec v) (h1 v hv).1, ?_⟩, fun v c hv hc => Nat.le_trans (dec v) (h2 v c hv hc), fun e he c' hc => ?_⟩
  · show (if v = b j then min (z (b j)) (z (a j) * r j) else z v) = 1000 ∨ _
    by_cases c : v = b j
    · simp only [if_pos c]
      rcases Nat.le_total (z (b j)) (z (a j) * r j) with q | q
      · rw [Nat.min_eq_left q]; rw [← c]; exact (h1 v hv).2
      · rw [Nat.min_eq_right q]
        rcases (h1 (a j) ha).2 with w | ⟨T, hT⟩
        · left
          have := (h1 (b j) hb).1
          have : z (a j) * 1 ≤ z (a j) * r j := Nat.mul_le_mul_left _ r1
          omega
        · exact .inr ⟨T + 1, .inr ⟨j, hj, z (a j), hT, c, rfl⟩⟩
    · simp only [if_neg c]; exact (h1 v hv).2
  · show (if b e = b j then min (z (b j)) (z (a j) * r j) else z (b e)) ≤ c' * r e
    by_cases ej : e = j
    · subst ej
      rw [if_pos rfl]
      exact Nat.le_trans (Nat.min_le_right _ _) (Nat.mul_le_mul_right _ (h2 (a e) c' ha hc))
    · exact Nat.le_trans (dec (b e)) (h3 e (by omega) c' hc)
theorem IM_round {a b r : Nat → Nat} {E k t : Nat} {z : Nat → Nat} (h : IM a b r E k t E z) (hb : ∀ e, e < E → b e < 6) : IM a b r E k (t + 1) 0 z := by
  obtain ⟨h1, h2, h3⟩ := h
  refine ⟨h1, fun v c hv hc => ?_, fun e he => absurd he (Nat.not_lt_zero e)⟩
  rcases hc with hc | ⟨e, he, c', q1, q2, q3⟩
  · exact h2 v c hv hc
  · rw [q2, q3]; exact h3 e he c' q1
/-- both say the same of every kind -/
theorem price_eq {a b r : Nat → Nat} {E k v : Nat} {y : Nat → Option Nat} {z : Nat → Nat} (hr : ∀ e, e < E → 1 ≤ r e) (hk : k < 6) (hb : ∀ e, e < E → b e < 6) (hv : v < 6) (hc : IC a b r E k 5 0 y) (hm : IM a b r E k 6 0 z) :
    (if eO (y v) ≤ 999 then eO (y v) else -1) = (if nI (z v) ≤ 999 then nI (z v) else -1) := by
  obtain ⟨z1, z2⟩ := hm.1 v hv
  cases e : y v with
  | none =>
    have no : ∀ T c, ¬ rch a b r E k T v c := fun T c h => by
      obtain ⟨m, -, q, -⟩ := rch_5 hr hk hb h
      obtain ⟨n, -, en⟩ := hc.2.1 v m q
      rw [e] at en; cases en
    have zz : z v = 1000 := z2.resolve_right (fun ⟨T, hT⟩ => no T _ hT)
    rw [zz]
    decide
  | some n =>
    obtain ⟨T, hT⟩ := hc.1 v n hv e
    have bn := IC_bd hc hv e
    obtain ⟨m, m1, m2, m3⟩ := rch_5 hr hk hb hT
    obtain ⟨n', n1, en⟩ := hc.2.1 v m m2
    rw [e] at en
    have en' := Option.some.inj en
    have nm : n = m := by omega
    subst nm
    have zl := hm.2.1 v n hv (.inl m2)
    show (if nI n ≤ 999 then nI n else -1) = _
    have k1 : (nI n ≤ 999) ↔ n ≤ 999 := nI_leI (b := 999) (by omega) (by omega)
    have k2 : (nI (z v) ≤ 999) ↔ z v ≤ 999 := nI_leI (b := 999) (by omega) (by omega)
    rcases z2 with w | ⟨T2, hT2⟩
    · rw [if_neg (fun q => by have := k1.1 q; omega), if_neg (fun q => by have := k2.1 q; omega)]
    · have := m3.2 _ _ hT2
      have : z v = n := by omega
      rw [this]
theorem s_price (p q : Int32) (s : ac_m) (i : Inv s) : simX thA (w_X11_price p q) (w_X12_price p q) s := by
  obtain ⟨E, hE, e1, e2⟩ := Inv_E i
  unfold simX w_X11_price
  refine c_within (fun a0 b0 => ?_) (fun h => ?_)
  rotate_left
  · unfold w_X12_price
    refine m_inB (fun a b => absurd ⟨a, b⟩ h) (fun _ => ?_)
    exact m_bad1 u_eq (by decide) in2_1 (m_if1B ⟨⟨rfl, bad_69⟩, Inv_bad1 i⟩)
  refine c_within (fun a1 b1 => ?_) (fun h => ?_)
  rotate_left
  · unfold w_X12_price
    refine m_inB (fun _ _ => ?_) (fun z => absurd ⟨a0, b0⟩ z)
    refine m_inA (fun a b => absurd ⟨a, b⟩ h) (fun _ => ?_)
    exact m_bad1 u_eq (by decide) in2_1 (m_if1B ⟨⟨rfl, bad_69⟩, Inv_bad1 i⟩)
  obtain ⟨k, hk, ek⟩ := nI_of2 (M := 5) (n := 5) rfl (show ¬ p < 0 by grind) b0
  subst ek
  obtain ⟨l, hl, el⟩ := nI_of2 (M := 5) (n := 5) rfl (show ¬ q < 0 by grind) b1
  subst el
  have fr : ∀ e, e < E → ∃ a b r, a < 6 ∧ b < 6 ∧ 1 ≤ r ∧ r ≤ 9 ∧ (s 10 e = nI a ∧ s 11 e = nI b ∧ s 12 e = nI r) ∧ (s (127 + e) 0 = nI a ∧ s (127 + e) 1 = nI b ∧ s (127 + e) 2 = nI r) := by
    intro e he
    have g := i.1.2.2.2.2 e (by omega) (by rw [e1]; exact nI_lt he (by omega))
    obtain ⟨a, ha, ea⟩ := nI_of2 (M := 5) (n := 5) rfl (show ¬ s 10 e < 0 by grind) g.2.2.2.2.1
    obtain ⟨b, hb, eb⟩ := nI_of2 (M := 5) (n := 5) rfl (show ¬ s 11 e < 0 by grind) g.2.2.2.2.2.2.1
    obtain ⟨r, hr, er⟩ := nI_of2 (M := 9) (n := 9) rfl (show ¬ s 12 e < 0 by grind) g.2.2.2.2.2.2.2.2.2
    refine ⟨a, b, r, by omega, by omega, ?_, hr, ⟨ea, eb, er⟩, ⟨g.1.symm.trans ea, g.2.1.symm.trans eb, g.2.2.1.symm.trans er⟩⟩
    have := g.2.2.2.2.2.2.2.2.1
    rw [er] at this
    rcases Nat.eq_zero_or_pos r with z | z
    · subst z; exact absurd this (by decide)
    · exact z
  have fa : ∀ e, e < E → (s 10 e).toNatClampNeg < 6 ∧ (s 11 e).toNatClampNeg < 6 ∧ 1 ≤ (s 12 e).toNatClampNeg ∧ (s 12 e).toNatClampNeg ≤ 9 ∧ (s 10 e = nI (s 10 e).toNatClampNeg ∧ s 11 e = nI (s 11 e).toNatClampNeg ∧ s 12 e = nI (s 12 e).toNatClampNeg) ∧ (s (127 + e) 0 = nI (s 10 e).toNatClampNeg ∧ s (127 + e) 1 = nI (s 11 e).toNatClampNeg ∧ s (127 + e) 2 = nI (s 12 e).toNatClampNeg) := by
    intro e he
    obtain ⟨a, b, r, h1, h2, h3, h4, h5, h6⟩ := fr e he
    rw [h5.1, h5.2.1, h5.2.2, cl_nI (by omega), cl_nI (by omega), cl_nI (by omega)]
    exact ⟨h1, h2, h3, h4, ⟨rfl, rfl, rfl⟩, h6⟩
  generalize hA : (fun e => (s 10 e).toNatClampNeg) = A at *
  generalize hBB : (fun e => (s 11 e).toNatClampNeg) = Bf at *
  generalize hR : (fun e => (s 12 e).toNatClampNeg) = R at *
  have fa' : ∀ e, e < E → A e < 6 ∧ Bf e < 6 ∧ 1 ≤ R e ∧ R e ≤ 9 ∧ (s 10 e = nI (A e) ∧ s 11 e = nI (Bf e) ∧ s 12 e = nI (R e)) ∧ (s (127 + e) 0 = nI (A e) ∧ s (127 + e) 1 = nI (Bf e) ∧ s (127 + e) 2 = nI (R e)) := by
    intro e he
    rw [← hA, ← hBB, ← hR]
    exact fa e he
  have d1 : ∀ e, e < 10 → isScr (127 + e) = false := by decide +kernel
  have fin : ∀ s2 v, kp s s2 → (∃ y, IC A Bf R E k 5 0 y ∧ v = if eO (y l) ≤ 999 then eO (y l) else -1) → w_X12_price (nI k) (nI l) (fun b s3 => v = b ∧ s3 69 0 = 0 ∧ Inv s3) s2 := by
    rintro s2 v k2 ⟨y, hy, ev⟩
    unfold w_X12_price
    refine m_inB (fun _ _ => ?_) (fun z => absurd ⟨a0, b0⟩ z)
    refine m_inA (fun _ _ => ?_) (fun z => absurd ⟨a1, b1⟩ z)
    refine m_bad0 u_eq (m_if0B ?_)
    unfold l_X12_price_41
    intro P hP
    refine loopUp (P := fun j => ∀ s', kp s s' → s' 69 0 = 0 → (∀ v, v < j → s' 583 v = nI (if v = k then 1 else 1000)) → P (nI j) s') 6 ?_ ?_ _ (k2.trans kp_0) u_eq (fun v hv => absurd hv (Nat.not_lt_zero v))
    rotate_left
    · intro j hj ih s3 k3 t3 g3
      have v6 : vp_in (nI j) 6 := vp_in_nI hj (by omega)
      refine hP _ _ ⟨fun z => absurd z (nI_ge (b := 6) hj (by omega)), fun _ => ?_⟩
      rw [nI_1, nI_eq (by omega) (by omega), cl_nI (by omega)]
      refine ⟨fun c => ⟨v6, ih _ (k3.trans ((kp.refl s3).u rfl (fun e => absurd e (by decide)))) (by rw [u_ne (by omega)]; exact t3) (fun v hv => ?_)⟩, fun c => ⟨v6, ih _ (k3.trans ((kp.refl s3).u rfl (fun e => absurd e (by decide)))) (by rw [u_ne (by omega)]; exact t3) (fun v hv => ?_)⟩⟩
      · by_cases e : v = j
        · rw [e, u_eq, if_neg c]; rfl
        · rw [u_at e]; exact g3 v (by omega)
      · by_cases e : v = j
        · rw [e, u_eq, if_pos c]; rfl
        · rw [u_at e]; exact g3 v (by omega)
    intro s3 k3 t3 g3
    refine hP _ _ ⟨fun _ => ?_, fun z => absurd (by decide) z⟩
    unfold l_X12_price_73
    intro P2 hP2
    have st0 : IM A Bf R E k 0 0 (fun v => if v = k then 1 else 1000) := by
      refine ⟨fun v hv => ?_, fun v c hv hc => ?_, fun e he => absurd he (Nat.not_lt_zero e)⟩
      · show (if v = k then 1 else 1000) ≤ 1000 ∧ ((if v = k then 1 else 1000) = 1000 ∨ _)
        by_cases c : v = k
        · simp only [if_pos c]; exact ⟨by omega, .inr ⟨0, c, rfl⟩⟩
        · simp only [if_neg c]; exact ⟨Nat.le_refl _, .inl trivial⟩
      · show (if v = k then 1 else 1000) ≤ c
        rw [if_pos hc.1, hc.2]; exact Nat.le_refl _
    refine loopUp (P := fun t => ∀ s' z, kp s s' → s' 69 0 = 0 → (∀ v, v < 6 → s' 583 v = nI (z v)) → IM A Bf R E k t 0 z → P2 (nI t) s') 6 ?_ ?_ s3 _ k3 t3 g3 st0
    · intro s4 z k4 t4 g4 i4
      have pe := price_eq (v := l) (fun e he => (fa' e he).2.2.1) (by omega) (fun e he => (fa' e he).2.1) (by omega) hy i4
      refine hP2 _ _ ⟨fun _ => ⟨vp_in_nI (by omega) (by omega), ?_⟩, fun z => absurd (by decide) z⟩
      rw [cl_nI (by omega), g4 l (by omega)]
      refine ⟨fun c => ⟨vp_in_nI (by omega) (by omega), ?_, t4, Inv_kp k4 i⟩, fun c => ⟨?_, t4, Inv_kp k4 i⟩⟩
      · rw [ev, pe, if_pos c]
      · rw [ev, pe, if_neg c]
    · intro t ht ih s4 z k4 t4 g4 i4
      refine hP2 _ _ ⟨fun z => absurd z (nI_ge (b := 6) ht (by omega)), fun _ => ?_⟩
      unfold l_X12_price_82
      intro P3 hP3
      refine loopUp (P := fun j => ∀ s' z, kp s s' → s' 69 0 = 0 → (∀ v, v < 6 → s' 583 v = nI (z v)) → IM A Bf R E k t j z → P3 (nI j) s') E ?_ ?_ s4 z k4 t4 g4 i4
      · intro s5 z5 k5 t5 g5 i5
        refine hP3 _ _ ⟨fun _ => ?_, fun z => absurd (by rw [k5.1 73 rfl, show s 73 (2 : Int32).toNatClampNeg = nI E from e1]; exact Int32.le_refl _) z⟩
        rw [nI_1]
        exact ih s5 z5 k5 t5 g5 (IM_round i5 (fun e he => (fa' e he).2.1))
      · intro j hj ih2 s5 z5 k5 t5 g5 i5
        obtain ⟨q1, q2, q3, q4, -, q5, q6, q7⟩ := fa' j hj
        have v10 : vp_in (nI j) 10 := vp_in_nI (by omega) (by omega)
        have va : vp_in (nI (A j)) 6 := vp_in_nI q1 (by omega)
        have vb : vp_in (nI (Bf j)) 6 := vp_in_nI q2 (by omega)
        refine hP3 _ _ ⟨fun z => absurd z (by rw [k5.1 73 rfl, show s 73 (2 : Int32).toNatClampNeg = nI E from e1]; exact nI_ge hj (by omega)), fun _ => ?_⟩
        rw [cl_nI (n := j) (by omega), k5.1 _ (d1 j (by omega)), show s (127 + j) (0 : Int32).toNatClampNeg = nI (A j) from q5, show s (127 + j) (1 : Int32).toNatClampNeg = nI (Bf j) from q6, show s (127 + j) (2 : Int32).toNatClampNeg = nI (R j) from q7, cl_nI (n := A j) (by omega), cl_nI (n := Bf j) (by omega), g5 (Bf j) q2, g5 (A j) q1, nI_mul, nI_1]
        have zb := (i5.1 (Bf j) q2).1
        have za := (i5.1 (A j) q1).1
        have zr : z5 (A j) * R j ≤ 1000 * 9 := Nat.mul_le_mul za q4
        refine ⟨v10, v10, vb, v10, va, v10, m_less ⟨vb, ih2 _ _ (k5.trans ((kp.refl s5).u rfl (fun e => absurd e (by decide)))) (by rw [u_ne (by omega)]; exact t5) (fun v hv => ?_) (IM_step i5 hj q1 q2 q3)⟩⟩
        by_cases c : v = Bf j
        · simp only [if_pos c]
          rw [c, u_eq]
          unfold lss
          rcases Nat.le_total (z5 (Bf j)) (z5 (A j) * R j) with w | w
          · rw [Nat.min_eq_left w]
            by_cases w2 : nI (z5 (A j) * R j) ≤ nI (z5 (Bf j))
            · rw [if_pos w2]
              have := (nI_leI (by omega) (by omega)).1 w2
              congr 1
              omega
            · rw [if_neg w2]
          · rw [Nat.min_eq_right w, if_pos (nI_le w (by omega))]
        · simp only [if_neg c]
          rw [u_at c]; exact g5 v hv
  unfold w_X3_cheapest
  refine ⟨fun z => absurd z (nI_pos (by omega)), fun _ => ⟨fun z => absurd z (nI_ge (b := 6) (by omega) (by omega)), fun _ => ⟨fun z => absurd z (nI_pos (by omega)), fun _ => ⟨fun _ => c_fill (by omega) (fun s1 f1 g1 => ⟨vp_in_nI (by omega) (by omega), ?_⟩), fun z => absurd (nI_lt (b := 6) (by omega) (by omega)) z⟩⟩⟩⟩
  rw [cl_nI (by omega)]
  have kk : ∀ s', (∀ x, x ≠ 13 → s' x = s x) → kp s s' := fun s' f => ⟨fun a ha => f a (fun e => by subst e; cases ha), fun j _ => by rw [f 69 (by omega)]⟩
  have st0 : IC A Bf R E k 0 0 (fun v => if v = k then some 1 else none) := by
    have c1 : nS (fun v => if v = k then some 1 else none) = 1 := by
      have : ∀ k, k < 6 → nS (fun v => if v = k then some 1 else none) = 1 := by decide
      exact this k (by omega)
    refine ⟨fun v n hv e => ?_, fun v c hc => ⟨1, by rw [hc.2]; exact Nat.le_refl _, by show (if v = k then some 1 else none) = _; rw [if_pos hc.1]⟩, fun e he => absurd he (Nat.not_lt_zero e), fun v n hv e => ?_, by rw [c1]; exact Nat.le_refl 1⟩
    · change (if v = k then some 1 else none) = some n at e
      by_cases c : v = k
      · rw [if_pos c] at e
        exact ⟨0, c, (Option.some.inj e).symm⟩
      · rw [if_neg c] at e; cases e
    · change (if v = k then some 1 else none) = some n at e
      by_cases c : v = k
      · rw [if_pos c] at e
        rw [← Option.some.inj e, c1]; decide
      · rw [if_neg c] at e; cases e
  unfold l_X3_cheapest_39
  intro P hP
  refine loopUp (P := fun t => ∀ s' y, (∀ x, x ≠ 13 → s' x = s x) → (∀ v, v < 6 → s' 13 v = eO (y v)) → IC A Bf R E k t 0 y → P (nI (t + 1)) s') 5 ?_ ?_ _ _ (fun x hx => by rw [u_ne hx]; exact f1 x hx) (fun v hv => ?_) st0
  · intro s4 y f4 g4 i4
    refine hP _ _ ⟨fun _ => ⟨vp_in_nI (by omega) (by omega), ?_⟩, fun z => absurd (by decide) z⟩
    rw [cl_nI (by omega), g4 l (by omega)]
    exact ⟨fun c => ⟨vp_in_nI (by omega) (by omega), fin s4 _ (kk s4 f4) ⟨y, i4, by rw [if_pos c]⟩⟩, fun c => fin s4 _ (kk s4 f4) ⟨y, i4, by rw [if_neg c]⟩⟩
  · intro t ht ih s4 y f4 g4 i4
    refine hP _ _ ⟨fun z => absurd z (nI_ge (b := 6) (by omega) (by omega)), fun _ => ?_⟩
    unfold l_X3_cheapest_48
    intro P2 hP2
    refine loopUp (P := fun j => ∀ s' y, (∀ x, x ≠ 13 → s' x = s x) → (∀ v, v < 6 → s' 13 v = eO (y v)) → IC A Bf R E k t j y → P2 (nI j) s') E ?_ ?_ s4 y f4 g4 i4
    · intro s5 y5 f5 g5 i5
      refine hP2 _ _ ⟨fun _ => ?_, fun z => absurd (by rw [f5 3 (by omega), e2]; exact Int32.le_refl _) z⟩
      rw [nI_1]
      exact ih s5 y5 f5 g5 (IC_round i5)
    · intro j hj ih2 s5 y5 f5 g5 i5
      obtain ⟨q1, q2, q3, q4, ⟨q5, q6, q7⟩, -⟩ := fa' j hj
      refine hP2 _ _ ⟨fun z => absurd z (by rw [f5 3 (by omega), e2]; exact nI_ge hj (by omega)), fun _ => ⟨fun z => absurd z (nI_ge (b := 10) (by omega) (by omega)), fun _ => ?_⟩⟩
      rw [nI_1]
      exact c_useF (by omega) q1 q2 q4 (by rw [f5 10 (by omega)]; exact q5) (by rw [f5 11 (by omega)]; exact q6) (by rw [f5 12 (by omega)]; exact q7) g5 (fun v n hv e => IC_bd i5 hv e) (fun s6 f6 g6 => ih2 s6 _ (fun x hx => (f6 x hx).trans (f5 x hx)) g6 (IC_step i5 hj q1 q2 q3 q4))
  · show (ac_u s1 13 k 1) 13 v = eO (if v = k then some 1 else none)
    by_cases c : v = k
    · rw [c, u_eq, if_pos rfl]; rfl
    · rw [u_at c, if_neg c]; exact g1 v hv
