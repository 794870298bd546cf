/-! FAIRS: the cheapest way -/
/-- v is reached at this cost by t fairs at most -/
def rch (a b r : Nat → Nat) (E k : Nat) : Nat → Nat → Nat → Prop
  | 0, v, c => v = k ∧ c = 1
  | t + 1, v, c => rch a b r E k t v c ∨ ∃ e, e < E ∧ ∃ c', rch a b r E k t (a e) c' ∧ v = b e ∧ c = c' * r e
theorem rch_le {a b r : Nat → Nat} {E k v c t : Nat} (h : rch a b r E k t v c) : ∀ n, rch a b r E k (t + n) v c
  | 0 => h
  | n + 1 => .inl (rch_le h n)
theorem rch_le' {a b r : Nat → Nat} {E k v c t t' : Nat} (h : rch a b r E k t v c) (ht : t ≤ t') : rch a b r E k t' v c := by
  have := rch_le h (t' - t)
  rw [show t + (t' - t) = t' by omega] at this
  exact this
theorem least {p : Nat → Prop} : ∀ (n : Nat), (∃ m, m ≤ n ∧ p m) → ∃ m, p m ∧ ∀ k, p k → m ≤ k
  | 0, ⟨m, h1, h2⟩ => ⟨m, h2, fun k _ => by omega⟩
  | n + 1, ⟨m, h1, h2⟩ => by
    by_cases c : ∃ m, m ≤ n ∧ p m
    · exact least n c
    · refine ⟨m, h2, fun k hk => ?_⟩
      rcases Nat.lt_or_ge k m with q | q
      · exact absurd ⟨k, by omega, hk⟩ c
      · exact q
def opt (a b r : Nat → Nat) (E k v m : Nat) : Prop := (∃ T, rch a b r E k T v m) ∧ ∀ c T, rch a b r E k T v c → m ≤ c
def inS (a b r : Nat → Nat) (E k t v : Nat) : Prop := ∃ m, rch a b r E k t v m ∧ opt a b r E k v m
theorem opt_ex {a b r : Nat → Nat} {E k v c T : Nat} (h : rch a b r E k T v c) : ∃ m, opt a b r E k v m := by
  obtain ⟨m, h1, h2⟩ := least (p := fun c => ∃ T, rch a b r E k T v c) c ⟨c, Nat.le_refl c, T, h⟩
  exact ⟨m, h1, fun c T h => h2 c ⟨T, h⟩⟩
theorem opt_front {a b r : Nat → Nat} {E k t : Nat} (hr : ∀ e, e < E → 1 ≤ r e) : ∀ (T v m : Nat), rch a b r E k T v m → opt a b r E k v m → ¬ inS a b r E k t v → ∃ e m', e < E ∧ rch a b r E k t (a e) m' ∧ opt a b r E k (a e) m' ∧ ¬ inS a b r E k t (b e) ∧ opt a b r E k (b e) (m' * r e)
  | 0, v, m, h, ho, hn => absurd ⟨m, rch_le' h (Nat.zero_le t), ho⟩ hn
  | T + 1, v, m, h, ho, hn => by
    rcases h with h | ⟨e, he, c', h1, h2, h3⟩
    · exact opt_front hr T v m h ho hn
    · obtain ⟨m', hm'⟩ := opt_ex h1
      have l1 := hm'.2 c' T h1
      have re := hr e he
      obtain ⟨T', hT'⟩ := hm'.1
      have l2 := ho.2 (m' * r e) (T' + 1) (.inr ⟨e, he, m', hT', h2, rfl⟩)
      have e1 : c' = m' := by
        rw [h3] at l2
        have := Nat.le_of_mul_le_mul_right l2 (show 0 < r e by omega)
        omega
      subst e1
      by_cases c : inS a b r E k t (a e)
      · obtain ⟨m2, q1, q2⟩ := c
        have e2 : m2 = c' := Nat.le_antisymm (q2.2 c' T h1) (hm'.2 m2 t q1)
        subst e2
        subst h2
        rw [h3] at ho
        exact ⟨e, m2, he, q1, hm', hn, ho⟩
      · exact opt_front hr T (a e) c' h1 hm' c
theorem cnt_S {a b r : Nat → Nat} {E k : Nat} (hr : ∀ e, e < E → 1 ≤ r e) (hk : k < 6) (hb : ∀ e, e < E → b e < 6) : ∀ t, (∀ v c T, rch a b r E k T v c → inS a b r E k t v) ∨ (∃ f : Nat → Nat, (∀ j, j < t + 1 → f j < 6 ∧ inS a b r E k t (f j)) ∧ ∀ i j, i < t + 1 → j < t + 1 → f i = f j → i = j)
  | 0 => by
    right
    refine ⟨fun _ => k, fun j _ => ⟨hk, 1, ⟨rfl, rfl⟩, ⟨0, rfl, rfl⟩, fun c T h => ?_⟩, fun i j hi hj _ => by omega⟩
    have pos : ∀ T v c, rch a b r E k T v c → 1 ≤ c := by
      intro T
      induction T with
      | zero => intro v c h; rw [h.2]; exact Nat.le_refl 1
      | succ T ih =>
        intro v c h
        rcases h with h | ⟨e, he, c', h1, h2, h3⟩
        · exact ih v c h
        · rw [h3]; exact Nat.le_trans (by decide) (Nat.mul_le_mul (ih _ _ h1) (hr e he))
    exact pos T k c h
  | t + 1 => by
    have mono : ∀ v, inS a b r E k t v → inS a b r E k (t + 1) v := fun v ⟨m, h1, h2⟩ => ⟨m, .inl h1, h2⟩
    rcases cnt_S hr hk hb t with h | ⟨f, h1, h2⟩
    · exact .inl (fun v c T hh => mono v (h v c T hh))
    · by_cases c : ∀ v c T, rch a b r E k T v c → inS a b r E k t v
      · exact .inl (fun v c' T hh => mono v (c v c' T hh))
      · right
        have ex : ∃ v c T, rch a b r E k T v c ∧ ¬ inS a b r E k t v := by
          refine Classical.byContradiction (fun no => c (fun v c' T hh => Classical.byContradiction (fun ns => no ⟨v, c', T, hh, ns⟩)))
        obtain ⟨v, c', T, hh, hn⟩ := ex
        obtain ⟨m, hm⟩ := opt_ex hh
        obtain ⟨T2, hT2⟩ := hm.1
        obtain ⟨e, m', he, q1, q2, q3, q4⟩ := opt_front (t := t) hr T2 v m hT2 hm hn
        refine ⟨fun j => if j = t + 1 then b e else f j, fun j hj => ?_, fun i j hi hj hij => ?_⟩
        · by_cases ej : j = t + 1
          · simp only [if_pos ej]
            exact ⟨hb e he, m' * r e, .inr ⟨e, he, m', q1, rfl, rfl⟩, q4⟩
          · simp only [if_neg ej]
            have := h1 j (by omega)
            exact ⟨this.1, mono _ this.2⟩
        · by_cases ei : i = t + 1
          · by_cases ej : j = t + 1
            · omega
            · simp only [if_pos ei, if_neg ej] at hij
              exact absurd (hij ▸ (h1 j (by omega)).2) q3
          · by_cases ej : j = t + 1
            · simp only [if_neg ei, if_pos ej] at hij
              exact absurd (hij ▸ (h1 i (by omega)).2) q3
            · simp only [if_neg ei, if_neg ej] at hij
              exact h2 i j (by omega) (by omega) hij
/-- six numbers below six, all different, are all of them -/
theorem onto6 {f : Nat → Nat} (h1 : ∀ j, j < 6 → f j < 6) (h2 : ∀ i j, i < 6 → j < 6 → f i = f j → i = j) : ∀ v, v < 6 → ∃ j, j < 6 ∧ f j = v := by
  have a0 := h1 0 (by omega)
  have a1 := h1 1 (by omega)
  have a2 := h1 2 (by omega)
  have a3 := h1 3 (by omega)
  have a4 := h1 4 (by omega)
  have a5 := h1 5 (by omega)
  intro v hv
  refine Classical.byContradiction (fun no => ?_)
  have n : ∀ j, j < 6 → f j ≠ v := fun j hj e => no ⟨j, hj, e⟩
  have d : ∀ i j, i < 6 → j < 6 → i ≠ j → f i ≠ f j := fun i j hi hj hne e => hne (h2 i j hi hj e)
  -- each f j counts once among the numbers below six
  have cnt : ∀ w, w < 6 → (if f 0 = w then 1 else 0) + (if f 1 = w then 1 else 0) + (if f 2 = w then 1 else 0) + (if f 3 = w then 1 else 0) + (if f 4 = w then 1 else 0) + (if f 5 = w then 1 else 0) ≤ 1 := by
    intro w _
    have q01 := d 0 1 (by omega) (by omega) (by omega)
    have q02 := d 0 2 (by omega) (by omega) (by omega)
    have q03 := d 0 3 (by omega) (by omega) (by omega)
    have q04 := d 0 4 (by omega) (by omega) (by omega)
    have q05 := d 0 5 (by omega) (by omega) (by omega)
    have q12 := d 1 2 (by omega) (by omega) (by omega)
    have q13 := d 1 3 (by omega) (by omega) (by omega)
    have q14 := d 1 4 (by omega) (by omega) (by omega)
    have q15 := d 1 5 (by omega) (by omega) (by omega)
    have q23 := d 2 3 (by omega) (by omega) (by omega)
    have q24 := d 2 4 (by omega) (by omega) (by omega)
    have q25 := d 2 5 (by omega) (by omega) (by omega)
    have q34 := d 3 4 (by omega) (by omega) (by omega)
    have q35 := d 3 5 (by omega) (by omega) (by omega)
    have q45 := d 4 5 (by omega) (by omega) (by omega)
    generalize f 0 = x0 at *
    generalize f 1 = x1 at *
    generalize f 2 = x2 at *
    generalize f 3 = x3 at *
    generalize f 4 = x4 at *
    generalize f 5 = x5 at *
    split <;> split <;> split <;> split <;> split <;> split <;> omega
  have one : ∀ x, x < 6 → (if x = 0 then 1 else 0) + (if x = 1 then 1 else 0) + (if x = 2 then 1 else 0) + (if x = 3 then 1 else 0) + (if x = 4 then 1 else 0) + (if x = 5 then 1 else 0) = 1 := by decide
  have z : (if f 0 = v then 1 else 0) + (if f 1 = v then 1 else 0) + (if f 2 = v then 1 else 0) + (if f 3 = v then 1 else 0) + (if f 4 = v then 1 else 0) + (if f 5 = v then 1 else 0) = 0 := by
    rw [if_neg (n 0 (by omega)), if_neg (n 1 (by omega)), if_neg (n 2 (by omega)), if_neg (n 3 (by omega)), if_neg (n 4 (by omega)), if_neg (n 5 (by omega))]
  have c0 := cnt 0 (by omega)
  have c1 := cnt 1 (by omega)
  have c2 := cnt 2 (by omega)
  have c3 := cnt 3 (by omega)
  have c4 := cnt 4 (by omega)
  have c5 := cnt 5 (by omega)
  have o0 := one _ a0
  have o1 := one _ a1
  have o2 := one _ a2
  have o3 := one _ a3
  have o4 := one _ a4
  have o5 := one _ a5
  have vv : v = 0 ∨ v = 1 ∨ v = 2 ∨ v = 3 ∨ v = 4 ∨ v = 5 := by omega
  rcases vv with e | e | e | e | e | e <;> subst e <;> omega
/-- no way of more than five fairs is needed -/
theorem rch_5 {a b r : Nat → Nat} {E k : Nat} (hr : ∀ e, e < E → 1 ≤ r e) (hk : k < 6) (hb : ∀ e, e < E → b e < 6) {T v c : Nat} (h : rch a b r E k T v c) : ∃ m, m ≤ c ∧ rch a b r E k 5 v m ∧ opt a b r E k v m := by
  have lt : ∀ T v c, rch a b r E k T v c → v < 6 := by
    intro T
    induction T with
    | zero => intro v c h; rw [h.1]; exact hk
    | succ T ih =>
      intro v c h
      rcases h with h | ⟨e, he, c', h1, h2, h3⟩
      · exact ih v c h
      · rw [h2]; exact hb e he
  have S : inS a b r E k 5 v := by
    rcases cnt_S hr hk hb 5 with q | ⟨f, h1, h2⟩
    · exact q v c T h
    · obtain ⟨j, hj, ej⟩ := onto6 (f := f) (fun j hj => (h1 j hj).1) h2 v (lt T v c h)
      rw [← ej]; exact (h1 j hj).2
  obtain ⟨m, q1, q2⟩ := S
  exact ⟨m, q2.2 c T h, q1, q2⟩
