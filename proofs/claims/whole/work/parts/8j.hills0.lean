/-! HILLS: the small pieces -/
theorem c_put1 {a c : Nat} {v : Int32} {Q : Int32 → ac_m → Prop} {s : ac_m} (e : s a 3 = nI c) (hc : c < 150) (h : ∀ s', (∀ y, y ≠ a → y ≠ a + 1 → s' y = s y) → s' a 3 = nI (c + 1) → (∀ j, j ≠ c → s' (a + 1) j = s (a + 1) j) → s' (a + 1) c = v → Q 1 s') : w_X4_put a v Q s := by
  unfold w_X4_put
  rw [e]
  refine ⟨fun z => absurd z (nI_pos (by omega)), fun _ => ⟨fun z => absurd z (nI_ge (a := c) (b := 150) hc (by omega)), fun _ => ⟨vp_in_nI hc (by omega), ?_⟩⟩⟩
  rw [cl_nI (by omega), u_ne (show a ≠ a + 1 by omega), e, nI_1]
  exact h _ (fun y y1 y2 => by rw [u_ne y1, u_ne y2]) u_eq (fun j hj => by rw [u_ne (by omega), u_at hj]) (by rw [u_ne (by omega), u_eq])
theorem c_plain {Q : ac_m → Prop} {s : ac_m} (h : ∀ s', (∀ y, y ≠ 25 → y ≠ 26 → s' y = s y) → s' 25 3 = 5 → s' 26 0 = 1 → s' 26 1 = -1 → s' 26 2 = 10 → s' 26 3 = -12 → s' 26 4 = -9 → Q s') : w_X4_setPlain 25 Q s := by
  unfold w_X4_setPlain
  refine c_put1 (c := 0) u_eq (by omega) (fun s1 f1 e1 g1 v1 => ?_)
  refine c_put1 (c := 1) e1 (by omega) (fun s2 f2 e2 g2 v2 => ?_)
  refine c_put1 (c := 2) e2 (by omega) (fun s3 f3 e3 g3 v3 => ?_)
  refine c_put1 (c := 3) e3 (by omega) (fun s4 f4 e4 g4 v4 => ?_)
  refine c_put1 (c := 4) e4 (by omega) (fun s5 f5 e5 g5 v5 => ?_)
  refine h s5 (fun y y1 y2 => by rw [f5 y y1 y2, f4 y y1 y2, f3 y y1 y2, f2 y y1 y2, f1 y y1 y2, u_ne y1]) e5 ?_ ?_ ?_ ?_ v5
  · rw [g5 0 (by omega), g4 0 (by omega), g3 0 (by omega), g2 0 (by omega)]; exact v1
  · rw [g5 1 (by omega), g4 1 (by omega), g3 1 (by omega)]; exact v2
  · rw [g5 2 (by omega), g4 2 (by omega)]; exact v3
  · rw [g5 3 (by omega)]; exact v4
theorem m_tells {Q : ac_m → Prop} {s : ac_m} (h : ∀ s', (∀ y, y ≠ 72 → s' y = s y) → (∀ j, j < 3 → s' 72 j = 0) → Q s') : w_X12_tellsNothing Q s := by
  unfold w_X12_tellsNothing l_X12_tellsNothing_2
  intro P hP
  suffices H : ∀ (f k : Nat) (s1 : ac_m), f + k = 3 → (∀ y, y ≠ 72 → s1 y = s y) → (∀ j, j < k → s1 72 j = 0) → P (nI k) s1 from H 3 0 s rfl (fun _ _ => rfl) (fun j hj => absurd hj (Nat.not_lt_zero j))
  intro f
  induction f with
  | zero =>
    intro k s1 hk g1 g2
    have e : k = 3 := by omega
    subst e
    exact hP _ _ ⟨fun _ => h s1 g1 g2, fun z => absurd (Int32.le_refl _) z⟩
  | succ f ih =>
    intro k s1 hk g1 g2
    refine hP _ _ ⟨fun z => absurd z (nI_ge (a := k) (b := 3) (by omega) (by omega)), fun _ => ⟨vp_in_nI (by omega) (by omega), ?_⟩⟩
    rw [cl_nI (by omega), nI_1]
    refine ih (k + 1) _ (by omega) (fun y hy => by rw [u_ne hy]; exact g1 y hy) (fun j hj => ?_)
    by_cases c : j = k
    · rw [c, u_eq]
    · rw [u_at c]; exact g2 j (by omega)
theorem c_into {t : Nat → Nat} {n p q r2 n2 k : Nat} {lo hi : Int32} {Q : Int32 → ac_m → Prop} {s : ac_m} (T : CT s t n) (hp : p ≤ n) (hq : skb t n p = q) (e3 : s 1 3 = nI p) (hk : k < n2) (hn : n2 < 2147483647)
    (h1 : dg (ch t n q) → ¬ nI (nmV t n q) < lo → nI (nmV t n q) ≤ hi → ∀ s', mv s s' (nmE t n q) q → Q 1 (ac_u s' r2 k (nI (nmV t n q))))
    (h0 : ¬ dg (ch t n q) → ∀ s', fl s s' 1 q → Q 0 s')
    (h2 : dg (ch t n q) → ¬ (¬ nI (nmV t n q) < lo ∧ nI (nmV t n q) ≤ hi) → ∀ s', fl s s' 2 q → Q 0 s') : w_X3_readInto r2 n2 (nI k) lo hi Q s := by
  subst hq
  unfold w_X3_readInto
  refine c_num T hp e3 (fun a b c s1 m1 => ⟨fun z => ?_, fun _ => ⟨fun z => absurd z (nI_pos (by omega)), fun _ => ⟨fun _ => ⟨vp_in_nI hk (by omega), ?_⟩, fun z => absurd (show nI k < nI n2 from nI_lt hk (by omega)) z⟩⟩⟩) (fun a s1 f1 => ⟨fun _ => h0 a s1 f1, fun z => absurd rfl z⟩) (fun a b s1 f1 => ⟨fun _ => h2 a b s1 f1, fun z => absurd rfl z⟩)
  · have bd := nmV_bd (t := t) (n := n) (p := skb t n p)
    have p0 := nI_pos' (n := nmV t n (skb t n p)) (by omega)
    rw [z] at p0
    exact absurd p0 (by decide)
  · rw [cl_nI (by omega)]
    exact h1 a b c s1 m1
theorem m_bg78 {Q : ac_m → Prop} {s : ac_m} (h : ∀ s', (∀ y, y ≠ 556 → s' y = s y) → (∀ j, j < 83 → s' 556 j = 0) → l_X12_beginsAnew_99 Q 0 s') : l_X12_beginsAnew_78 Q 0 s := by
  unfold l_X12_beginsAnew_78
  intro P hP
  suffices H : ∀ (f k : Nat) (s1 : ac_m), f + k = 83 → (∀ y, y ≠ 556 → s1 y = s y) → (∀ j, j < k → s1 556 j = 0) → P (nI k) s1 from H 83 0 s rfl (fun _ _ => rfl) (fun j hj => absurd hj (Nat.not_lt_zero j))
  intro f
  induction f with
  | zero =>
    intro k s1 hk g1 g2
    have e : k = 83 := by omega
    subst e
    exact hP _ _ ⟨fun _ => h s1 g1 g2, fun z => absurd (Int32.le_refl _) z⟩
  | succ f ih =>
    intro k s1 hk g1 g2
    refine hP _ _ ⟨fun z => absurd z (nI_ge (a := k) (b := 83) (by omega) (by omega)), fun _ => ⟨vp_in_nI (by omega) (by omega), ?_⟩⟩
    rw [cl_nI (by omega), nI_1]
    refine ih (k + 1) _ (by omega) (fun y hy => by rw [u_ne hy]; exact g1 y hy) (fun j hj => ?_)
    by_cases c : j = k
    · rw [c, u_eq]
    · rw [u_at c]; exact g2 j (by omega)
theorem m_bg99 {Q : ac_m → Prop} {s : ac_m} (h : ∀ s', (∀ y, y ≠ 556 → s' y = s y) → (∀ j, j < 13 → s' 556 (26 + j) = -1) → (∀ j, ¬ (26 ≤ j ∧ j < 39) → s' 556 j = s 556 j) → l_X12_beginsAnew_123 Q 0 s') : l_X12_beginsAnew_99 Q 0 s := by
  unfold l_X12_beginsAnew_99
  intro P hP
  suffices H : ∀ (f k : Nat) (s1 : ac_m), f + k = 13 → (∀ y, y ≠ 556 → s1 y = s y) → (∀ j, j < k → s1 556 (26 + j) = -1) → (∀ j, ¬ (26 ≤ j ∧ j < 39) → s1 556 j = s 556 j) → P (nI k) s1 from H 13 0 s rfl (fun _ _ => rfl) (fun j hj => absurd hj (Nat.not_lt_zero j)) (fun _ _ => rfl)
  intro f
  induction f with
  | zero =>
    intro k s1 hk g1 g2 g3
    have e : k = 13 := by omega
    subst e
    exact hP _ _ ⟨fun _ => h s1 g1 g2 g3, fun z => absurd (nI_lt (a := 12) (b := 13) (by omega) (by omega)) z⟩
  | succ f ih =>
    intro k s1 hk g1 g2 g3
    have e26 : (26 : Int32) + nI k = nI (26 + k) := nI_add 26 k
    refine hP _ _ ⟨fun z => absurd z (nI_nlt (a := 12) (b := k) (by omega) (by omega)), fun _ => ?_⟩
    rw [e26]
    refine ⟨vp_in_nI (by omega) (by omega), ?_⟩
    rw [cl_nI (by omega), nI_1]
    refine ih (k + 1) _ (by omega) (fun y hy => by rw [u_ne hy]; exact g1 y hy) (fun j hj => ?_) (fun j hj => by rw [u_at (by omega)]; exact g3 j hj)
    by_cases c : j = k
    · rw [c, u_eq]
    · rw [u_at (by omega)]; exact g2 j (by omega)
theorem m_bg150 {F : Nat} {Q : ac_m → Prop} {s : ac_m} (hF : F ≤ 6) (e : s 73 0 = nI F) (h : ∀ s', (∀ y, y ≠ 556 → s' y = s y) → (∀ j, j < F → s' 556 (39 + j) = s (82 + j) 0) → (∀ j, ¬ (39 ≤ j ∧ j < 39 + F) → s' 556 j = s 556 j) → Q (ac_u (ac_u (ac_u (ac_u (ac_u s' 69 19 0) 69 34 0) 69 35 0) 69 36 0) 69 37 0)) : l_X12_beginsAnew_150 Q 0 s := by
  unfold l_X12_beginsAnew_150
  intro P hP
  have z0 : (0 : Int32).toNatClampNeg = 0 := rfl
  suffices H : ∀ (f k : Nat) (s1 : ac_m), f + k = F → (∀ y, y ≠ 556 → s1 y = s y) → (∀ j, j < k → s1 556 (39 + j) = s (82 + j) 0) → (∀ j, ¬ (39 ≤ j ∧ j < 39 + F) → s1 556 j = s 556 j) → P (nI k) s1 from H F 0 s rfl (fun _ _ => rfl) (fun j hj => absurd hj (Nat.not_lt_zero j)) (fun _ _ => rfl)
  intro f
  induction f with
  | zero =>
    intro k s1 hk g1 g2 g3
    have ek : k = F := by omega
    subst ek
    refine hP _ _ ⟨fun _ => h s1 g1 g2 g3, fun z => absurd ?_ z⟩
    rw [z0, g1 73 (by omega), e]; exact Int32.le_refl _
  | succ f ih =>
    intro k s1 hk g1 g2 g3
    have e39 : (39 : Int32) + nI k = nI (39 + k) := nI_add 39 k
    refine hP _ _ ⟨fun z => absurd z ?_, fun _ => ?_⟩
    · rw [z0, g1 73 (by omega), e]; exact nI_ge (by omega) (by omega)
    · rw [e39]
      refine ⟨vp_in_nI (by omega) (by omega), vp_in_nI (by omega) (by omega), ?_⟩
      rw [cl_nI (by omega), cl_nI (by omega), nI_1, z0]
      refine ih (k + 1) _ (by omega) (fun y hy => by rw [u_ne hy]; exact g1 y hy) (fun j hj => ?_) (fun j hj => by rw [u_at (by omega)]; exact g3 j hj)
      by_cases c : j = k
      · rw [c, u_eq, g1 _ (by omega)]
      · rw [u_at (by omega)]; exact g2 j (by omega)
theorem m_bg2 {Q : ac_m → Prop} {s : ac_m} (h : ∀ s', (∀ y, y ≠ 73 → s' y = s y) → (∀ j, j < 3 → s' 73 j = s 72 j) → w_X12_lays 74 6 75 2 81 6 82 (s' 73 (0 : Int32).toNatClampNeg) (fun s39 => w_X12_lays 88 12 89 4 101 13 102 (s39 73 (1 : Int32).toNatClampNeg) (fun s56 => w_X12_lays 115 10 116 3 126 10 127 (s56 73 (2 : Int32).toNatClampNeg) (fun s73 => l_X12_beginsAnew_78 Q (0 : Int32) s73) s56) s39) s') : w_X12_beginsAnew Q s := by
  unfold w_X12_beginsAnew l_X12_beginsAnew_2
  intro P hP
  suffices H : ∀ (f k : Nat) (s1 : ac_m), f + k = 3 → (∀ y, y ≠ 73 → s1 y = s y) → (∀ j, j < k → s1 73 j = s 72 j) → P (nI k) s1 from H 3 0 s rfl (fun _ _ => rfl) (fun j hj => absurd hj (Nat.not_lt_zero j))
  intro f
  induction f with
  | zero =>
    intro k s1 hk g1 g2
    have e : k = 3 := by omega
    subst e
    exact hP _ _ ⟨fun _ => h s1 g1 g2, fun z => absurd (Int32.le_refl _) z⟩
  | succ f ih =>
    intro k s1 hk g1 g2
    refine hP _ _ ⟨fun z => absurd z (nI_ge (a := k) (b := 3) (by omega) (by omega)), fun _ => ⟨vp_in_nI (by omega) (by omega), vp_in_nI (by omega) (by omega), ?_⟩⟩
    rw [cl_nI (by omega), nI_1]
    refine ih (k + 1) _ (by omega) (fun y hy => by rw [u_ne hy]; exact g1 y hy) (fun j hj => ?_)
    by_cases c : j = k
    · rw [c, u_eq, g1 72 (by omega)]
    · rw [u_at c]; exact g2 j (by omega)
theorem m_comes1 {b : Nat} {Q : ac_m → Prop} {s : ac_m} (hb : b < 13) (h : Q (ac_u (ac_u (ac_u s 556 b (s (102 + b) 3)) 556 (13 + b) 0) 556 (26 + b) (s (102 + b) 0))) : w_X12_comes 556 (nI b) Q s := by
  unfold w_X12_comes
  have e0 : (0 : Int32) + nI b = nI b := by rw [show (0 : Int32) = nI 0 from rfl, nI_add, Nat.zero_add]
  have e13 : (13 : Int32) + nI b = nI (13 + b) := nI_add 13 b
  have e26 : (26 : Int32) + nI b = nI (26 + b) := nI_add 26 b
  have z0 : (0 : Int32).toNatClampNeg = 0 := rfl
  have z3 : (3 : Int32).toNatClampNeg = 3 := rfl
  rw [e0, e13, e26, cl_nI (n := b) (by omega), cl_nI (n := 13 + b) (by omega), cl_nI (n := 26 + b) (by omega), z0, z3, u_ne (show 102 + b ≠ 556 by omega), u_ne (show 102 + b ≠ 556 by omega)]
  exact ⟨vp_in_nI hb (by omega), vp_in_nI (by omega) (by omega), vp_in_nI (by omega) (by omega), vp_in_nI hb (by omega), vp_in_nI (by omega) (by omega), h⟩
theorem m_bg123 {B : Nat} {Q : ac_m → Prop} {s : ac_m} (hB : B ≤ 12) (e : s 73 1 = nI B) (h : ∀ s', (∀ y, y ≠ 556 → s' y = s y) → (∀ j, j < B → s' 556 j = s (102 + j) 3 ∧ s' 556 (13 + j) = 0 ∧ s' 556 (26 + j) = s (102 + j) 0) → (∀ j, ¬ (j < B ∨ (13 ≤ j ∧ j < 13 + B) ∨ (26 ≤ j ∧ j < 26 + B)) → s' 556 j = s 556 j) → l_X12_beginsAnew_150 Q 0 s') : l_X12_beginsAnew_123 Q 0 s := by
  unfold l_X12_beginsAnew_123
  intro P hP
  have z1 : (1 : Int32).toNatClampNeg = 1 := rfl
  suffices H : ∀ (f k : Nat) (s1 : ac_m), f + k = B → (∀ y, y ≠ 556 → s1 y = s y) → (∀ j, j < k → s1 556 j = s (102 + j) 3 ∧ s1 556 (13 + j) = 0 ∧ s1 556 (26 + j) = s (102 + j) 0) → (∀ j, ¬ (j < B ∨ (13 ≤ j ∧ j < 13 + B) ∨ (26 ≤ j ∧ j < 26 + B)) → s1 556 j = s 556 j) → P (nI k) s1 from H B 0 s rfl (fun _ _ => rfl) (fun j hj => absurd hj (Nat.not_lt_zero j)) (fun _ _ => rfl)
  intro f
  induction f with
  | zero =>
    intro k s1 hk g1 g2 g3
    have ek : k = B := by omega
    subst ek
    refine hP _ _ ⟨fun _ => h s1 g1 g2 g3, fun z => absurd ?_ z⟩
    rw [z1, g1 73 (by omega), e]; exact Int32.le_refl _
  | succ f ih =>
    intro k s1 hk g1 g2 g3
    refine hP _ _ ⟨fun z => absurd z ?_, fun _ => ?_⟩
    · rw [z1, g1 73 (by omega), e]; exact nI_ge (by omega) (by omega)
    · refine m_comes1 (by omega) ?_
      rw [nI_1]
      refine ih (k + 1) _ (by omega) (fun y hy => by rw [u_ne hy, u_ne hy, u_ne hy]; exact g1 y hy) (fun j hj => ?_) (fun j hj => by rw [u_at (by omega), u_at (by omega), u_at (by omega)]; exact g3 j hj)
      by_cases c : j = k
      · rw [c]
        refine ⟨?_, ?_, ?_⟩
        · rw [u_at (by omega), u_at (by omega), u_eq, g1 _ (by omega)]
        · rw [u_at (by omega), u_eq]
        · rw [u_eq, g1 _ (by omega)]
      · rw [u_at (by omega), u_at (by omega), u_at (by omega), u_at (show 13 + j ≠ 26 + k by omega), u_at (show 13 + j ≠ 13 + k by omega), u_at (show 13 + j ≠ k by omega), u_at (show 26 + j ≠ 26 + k by omega), u_at (show 26 + j ≠ 13 + k by omega), u_at (show 26 + j ≠ k by omega)]
        exact g2 j (by omega)
