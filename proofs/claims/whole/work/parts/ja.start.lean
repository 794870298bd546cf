/-! THE START: both are made, nothing is told -/
theorem st_inv {s : ac_m} (z : ZF s) {Q : ac_m → Prop} (h : ∀ s', Inv s' → Q s') : w_X12_tellsNothing (fun s1 => w_X12_beginsAnew Q s1) (ac_u s 69 3 (-1)) := by
  obtain ⟨z0, z25, ⟨p0, p1, p2, p3, p4⟩, z34, z45, z11, z16⟩ := z
  refine m_tells (fun s1 f1 g1 => ?_)
  refine m_begins (F := 0) (B := 0) (A := 0) (by omega) (by omega) (by omega) (g1 0 (by omega)) (g1 1 (by omega)) (g1 2 (by omega)) (fun s2 f2 g69 a b _ _ _ n0 n39 n45 => h s2 ?_)
  obtain ⟨a1, a2, a3, a4, a5⟩ := a
  obtain ⟨b0, b1, b2⟩ := b
  have c0 : s2 73 0 = 0 := b0
  have c1 : s2 73 1 = 0 := b1
  have c2 : s2 73 2 = 0 := b2
  have fr : ∀ y, (y ≠ 69 ∧ y ≠ 72 ∧ y ≠ 73 ∧ y ≠ 556 ∧ ¬ (82 ≤ y ∧ y ≤ 87) ∧ ¬ (102 ≤ y ∧ y ≤ 113) ∧ ¬ (127 ≤ y ∧ y ≤ 136)) → s2 y = s y := fun y hy => by
    rw [f2 y (by omega) (by omega) (by omega) (by omega) (by omega) (by omega), f1 y (by omega), u_ne (by omega)]
  have fz : ∀ y, (y ≠ 69 ∧ y ≠ 72 ∧ y ≠ 73 ∧ y ≠ 556 ∧ ¬ (82 ≤ y ∧ y ≤ 87) ∧ ¬ (102 ≤ y ∧ y ≤ 113) ∧ ¬ (127 ≤ y ∧ y ≤ 136)) → (y ≠ 1 ∧ y ≠ 62 ∧ y ≠ 65 ∧ y ≠ 25 ∧ y ≠ 26 ∧ y ≠ 29 ∧ y ≠ 30 ∧ y ≠ 34 ∧ y ≠ 36 ∧ y ≠ 45 ∧ y ≠ 53) → ∀ j, s2 y j = 0 := fun y hy hs j => by
    rw [fr y hy, z0 y hs]
  have m69 : ∀ j, j ≠ 19 → ¬ (34 ≤ j ∧ j ≤ 37) → j ≠ 3 → s2 69 j = 0 := fun j j1 j2 j3 => by
    rw [g69 j j1 j2, f1 69 (by omega), u_at j3, z0 69 (by omega)]
  have m693 : s2 69 3 = -1 := by rw [g69 3 (by omega) (by omega), f1 69 (by omega), u_eq]
  have nn : ∀ k : Nat, k < 1000 → ¬ (nI k < 0) := fun k hk q => by
    have := (nI_ltI (a := k) (b := 0) (by omega) (by omega)).mp q
    omega
  have N0 : ∀ b, b < 13 → s2 556 b = 0 := fun b hb => ((n0 b hb).2 (Nat.zero_le _)).1
  have N13 : ∀ b, b < 13 → s2 556 (13 + b) = 0 := fun b hb => ((n0 b hb).2 (Nat.zero_le _)).2.1
  have N26 : ∀ b, b < 13 → s2 556 (26 + b) = -1 := fun b hb => ((n0 b hb).2 (Nat.zero_le _)).2.2
  have N39 : ∀ f, f < 6 → s2 556 (39 + f) = 0 := fun f hf => (n39 f hf).2 (Nat.zero_le _)
  have e59 : ∀ j, s2 59 j = 0 := fz 59 (by omega) (by omega)
  have e560 : ∀ w, w < 16 → ∀ j, s2 (560 + w) j = 0 := fun w hw => fz (560 + w) (by omega) (by omega)
  refine ⟨?_, ?_, ?_, ?_, ?_, ?_, ?_, ?_, ?_⟩
  · unfold iH
    rw [c0, c1, c2]
    refine ⟨by decide, ⟨fz 3 (by omega) (by omega) _, fz 3 (by omega) (by omega) _, fz 3 (by omega) (by omega) _⟩, fun f hf => ⟨fun q => absurd q (nn f (by omega)), fun _ => ⟨fz 4 (by omega) (by omega) _, fz 5 (by omega) (by omega) _⟩⟩, fun b hb => ⟨fun q => absurd q (nn b (by omega)), fun _ => ⟨fz 6 (by omega) (by omega) _, fz 7 (by omega) (by omega) _, fz 8 (by omega) (by omega) _, fz 9 (by omega) (by omega) _⟩⟩, fun e he q => absurd q (nn e (by omega))⟩
  · unfold iM
    refine ⟨fun b hb => ⟨?_, ?_, ?_⟩, fun f hf => ?_, fun k hk => ?_, ?_, ?_⟩
    · rw [fz (42 + 2) (by omega) (by omega), N0 b hb]
    · rw [fz (42 + 4) (by omega) (by omega), N13 b hb]
    · rw [fr (42 + 3) (by omega), N26 b hb]
      exact z45 b hb
    · rw [fz (42 + 1) (by omega) (by omega), N39 f hf]
    · rw [fz (42 + 5) (by omega) (by omega), n45 k (by omega)]
    · rw [fz 42 (by omega) (by omega)]
      exact (n45 36 (by omega)).symm
    · rw [fz 42 (by omega) (by omega)]
      exact (n45 37 (by omega)).symm
  · unfold vM
    refine ⟨fun b hb => Or.inl ⟨N0 b hb, N13 b hb, N26 b hb⟩, fun f hf => ?_, fun i j hi hj => ?_, ?_, ?_⟩
    · rw [N39 f hf]
      exact ⟨by decide, by decide, fun _ => rfl⟩
    · rw [n45 (6 * i + j) (by omega), n45 (6 * j + i) (by omega)]
      exact ⟨rfl, by decide, by decide, fun _ => rfl, fun _ => rfl⟩
    · rw [show s2 556 82 = 0 from n45 37 (by omega)]
      decide
    · rw [show s2 556 82 = 0 from n45 37 (by omega)]
      decide
  · exact fun b hb _ => N0 b hb
  · exact Or.inl ⟨a1, by rw [fr 25 (by omega)]; exact z25, by rw [fr 26 (by omega)]; exact p0, by rw [fr 26 (by omega)]; exact p1, by rw [fr 26 (by omega)]; exact p2, by rw [fr 26 (by omega)]; exact p3, by rw [fr 26 (by omega)]; exact p4⟩
  · unfold iB
    rw [a2]
    exact ⟨fz 33 (by omega) (by omega) _, by decide, by decide, fun k hk q => absurd q (nn k (by omega)), fun e he => Or.inl (by rw [fr 34 (by omega)]; exact z34 e he)⟩
  · unfold iT
    rw [m69 1 (by omega) (by omega) (by omega)]
    exact ⟨by rw [fr 1 (by omega)]; exact z11, by decide, by decide, fun j hj q => absurd q (nn j (by omega))⟩
  · unfold iP
    rw [a3, a5]
    refine ⟨fz 58 (by omega) (by omega) _, by decide, by decide, fz 58 (by omega) (by omega) _, by decide, by decide, fun w hw => ⟨?_, fun q => absurd q (nn w (by omega))⟩, fun i hi q => absurd q (nn i (by omega))⟩
    unfold iS
    refine ⟨fun b _ => ⟨?_, ?_, ?_⟩, fun f _ => ?_, fun k _ => ?_, ?_, ?_⟩ <;> rw [e59, e560 w hw]
  · unfold iX
    refine ⟨?_, ?_, ?_, ?_⟩
    · rw [m693, fr 1 (by omega)]
      exact z16
    · rw [a4, fz 0 (by omega) (by omega)]
    · rw [fz 0 (by omega) (by omega), fz 71 (by omega) (by omega)]
    · rw [fz 0 (by omega) (by omega), fz 71 (by omega) (by omega)]
