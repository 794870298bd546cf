theorem m_begins {F B A : Nat} {Q : ac_m → Prop} {s : ac_m} (hF : F ≤ 6) (hB : B ≤ 12) (hA : A ≤ 10) (e0 : s 72 0 = nI F) (e1 : s 72 1 = nI B) (e2 : s 72 2 = nI A)
    (h : ∀ s', (∀ y, y ≠ 69 → y ≠ 73 → y ≠ 556 → ¬ (82 ≤ y ∧ y ≤ 87) → ¬ (102 ≤ y ∧ y ≤ 113) → ¬ (127 ≤ y ∧ y ≤ 136) → s' y = s y) → (∀ j, j ≠ 19 → ¬ (34 ≤ j ∧ j ≤ 37) → s' 69 j = s 69 j) → (s' 69 19 = 0 ∧ s' 69 34 = 0 ∧ s' 69 35 = 0 ∧ s' 69 36 = 0 ∧ s' 69 37 = 0) → (s' 73 0 = nI F ∧ s' 73 1 = nI B ∧ s' 73 2 = nI A) →
      (∀ i, i < F → ∀ j, j < 2 → s' (82 + i) j = s (75 + i) j) → (∀ i, i < B → ∀ j, j < 4 → s' (102 + i) j = s (89 + i) j) → (∀ i, i < A → ∀ j, j < 3 → s' (127 + i) j = s (116 + i) j) →
      (∀ b, b < 13 → (b < B → s' 556 b = s (89 + b) 3 ∧ s' 556 (13 + b) = 0 ∧ s' 556 (26 + b) = s (89 + b) 0) ∧ (B ≤ b → s' 556 b = 0 ∧ s' 556 (13 + b) = 0 ∧ s' 556 (26 + b) = -1)) →
      (∀ f, f < 6 → (f < F → s' 556 (39 + f) = s (75 + f) 0) ∧ (F ≤ f → s' 556 (39 + f) = 0)) → (∀ k, k < 38 → s' 556 (45 + k) = 0) → Q s') : w_X12_beginsAnew Q s := by
  have z0 : (0 : Int32).toNatClampNeg = 0 := rfl
  have z1 : (1 : Int32).toNatClampNeg = 1 := rfl
  have z2 : (2 : Int32).toNatClampNeg = 2 := rfl
  refine m_bg2 (fun s1 f1 g1 => ?_)
  rw [z0, g1 0 (by omega), e0]
  refine m_lays (m := F) hF hF (by omega) (by omega) (by omega) (by omega) (by omega) (fun s2 f2 g2 => ?_)
  rw [z1, f2 73 (by omega), g1 1 (by omega), e1]
  refine m_lays (m := B) hB (by omega) (by omega) (by omega) (by omega) (by omega) (by omega) (fun s3 f3 g3 => ?_)
  rw [z2, f3 73 (by omega), f2 73 (by omega), g1 2 (by omega), e2]
  refine m_lays (m := A) hA hA (by omega) (by omega) (by omega) (by omega) (by omega) (fun s4 f4 g4 => ?_)
  refine m_bg78 (fun s5 f5 g5 => ?_)
  refine m_bg99 (fun s6 f6 g6 k6 => ?_)
  have d73 : ∀ j, j < 3 → s6 73 j = s 72 j := fun j hj => by rw [f6 73 (by omega), f5 73 (by omega), f4 73 (by omega), f3 73 (by omega), f2 73 (by omega)]; exact g1 j hj
  refine m_bg123 hB (by rw [d73 1 (by omega)]; exact e1) (fun s7 f7 g7 k7 => ?_)
  refine m_bg150 hF (by rw [f7 73 (by omega), d73 0 (by omega)]; exact e0) (fun s8 f8 g8 k8 => ?_)
  have p1 : ∀ y, y ≠ 73 → y ≠ 556 → ¬ (82 ≤ y ∧ y ≤ 87) → ¬ (102 ≤ y ∧ y ≤ 113) → ¬ (127 ≤ y ∧ y ≤ 136) → s8 y = s y := fun y y1 y2 y3 y4 y5 => by
    rw [f8 y y2, f7 y y2, f6 y y2, f5 y y2, f4 y (by omega), f3 y (by omega), f2 y (by omega), f1 y y1]
  have q1 : ∀ i, i < F → ∀ j, j < 2 → s8 (82 + i) j = s (75 + i) j := fun i hi j hj => by
    rw [f8 _ (by omega), f7 _ (by omega), f6 _ (by omega), f5 _ (by omega), f4 _ (by omega), f3 _ (by omega), g2 i hi j hj, f1 _ (by omega)]
  have q2 : ∀ i, i < B → ∀ j, j < 4 → s6 (102 + i) j = s (89 + i) j := fun i hi j hj => by
    rw [f6 _ (by omega), f5 _ (by omega), f4 _ (by omega), g3 i hi j hj, f2 _ (by omega), f1 _ (by omega)]
  have q3 : ∀ i, i < A → ∀ j, j < 3 → s8 (127 + i) j = s (116 + i) j := fun i hi j hj => by
    rw [f8 _ (by omega), f7 _ (by omega), f6 _ (by omega), f5 _ (by omega), g4 i hi j hj, f3 _ (by omega), f2 _ (by omega), f1 _ (by omega)]
  refine h _ (fun y y1 y2 y3 y4 y5 y6 => by rw [u_ne y1, u_ne y1, u_ne y1, u_ne y1, u_ne y1]; exact p1 y y2 y3 y4 y5 y6) (fun j j1 j2 => ?_) ⟨?_, ?_, ?_, ?_, ?_⟩ ⟨?_, ?_, ?_⟩ (fun i hi j hj => ?_) (fun i hi j hj => ?_) (fun i hi j hj => ?_) (fun b hb => ?_) (fun f hf => ?_) (fun k hk => ?_)
  · rw [u_at (by omega), u_at (by omega), u_at (by omega), u_at (by omega), u_at (by omega), p1 69 (by omega) (by omega) (by omega) (by omega) (by omega)]
  · rw [u_at (by omega), u_at (by omega), u_at (by omega), u_at (by omega), u_eq]
  · rw [u_at (by omega), u_at (by omega), u_at (by omega), u_eq]
  · rw [u_at (by omega), u_at (by omega), u_eq]
  · rw [u_at (by omega), u_eq]
  · rw [u_eq]
  · rw [u_ne (by omega), u_ne (by omega), u_ne (by omega), u_ne (by omega), u_ne (by omega), f8 73 (by omega), f7 73 (by omega), d73 0 (by omega)]; exact e0
  · rw [u_ne (by omega), u_ne (by omega), u_ne (by omega), u_ne (by omega), u_ne (by omega), f8 73 (by omega), f7 73 (by omega), d73 1 (by omega)]; exact e1
  · rw [u_ne (by omega), u_ne (by omega), u_ne (by omega), u_ne (by omega), u_ne (by omega), f8 73 (by omega), f7 73 (by omega), d73 2 (by omega)]; exact e2
  · rw [u_ne (by omega), u_ne (by omega), u_ne (by omega), u_ne (by omega), u_ne (by omega)]; exact q1 i hi j hj
  · rw [u_ne (by omega), u_ne (by omega), u_ne (by omega), u_ne (by omega), u_ne (by omega), f8 _ (by omega), f7 _ (by omega)]; exact q2 i hi j hj
  · rw [u_ne (by omega), u_ne (by omega), u_ne (by omega), u_ne (by omega), u_ne (by omega)]; exact q3 i hi j hj
  · rw [u_ne (by omega), u_ne (by omega), u_ne (by omega), u_ne (by omega), u_ne (by omega), k8 b (by omega), k8 (13 + b) (by omega), k8 (26 + b) (by omega)]
    refine ⟨fun c => ?_, fun c => ?_⟩
    · rw [(g7 b c).1, (g7 b c).2.1, (g7 b c).2.2, q2 b c 3 (by omega), q2 b c 0 (by omega)]
      exact ⟨rfl, rfl, rfl⟩
    · rw [k7 b (by omega), k7 (13 + b) (by omega), k7 (26 + b) (by omega), g6 b hb, k6 b (by omega), k6 (13 + b) (by omega), g5 b (by omega), g5 (13 + b) (by omega)]
      exact ⟨rfl, rfl, rfl⟩
  · rw [u_ne (by omega), u_ne (by omega), u_ne (by omega), u_ne (by omega), u_ne (by omega)]
    refine ⟨fun c => ?_, fun c => ?_⟩
    · rw [g8 f c, f7 _ (by omega), f6 _ (by omega), f5 _ (by omega), f4 _ (by omega), f3 _ (by omega), g2 f c 0 (by omega), f1 _ (by omega)]
    · rw [k8 _ (by omega), k7 _ (by omega), k6 _ (by omega), g5 _ (by omega)]
  · rw [u_ne (by omega), u_ne (by omega), u_ne (by omega), u_ne (by omega), u_ne (by omega), k8 _ (by omega), k7 _ (by omega), k6 _ (by omega), g5 _ (by omega)]
theorem c_take {Q : ac_m → Prop} {s : ac_m} (h : ∀ s', (∀ y, ¬ (3 ≤ y ∧ y ≤ 12) → s' y = s y) → (∀ k, k < 2 → ∀ i, i < 6 → s' (4 + k) i = s (15 + k) i) → (∀ k, k < 4 → ∀ i, i < 13 → s' (6 + k) i = s (17 + k) i) → (∀ k, k < 3 → ∀ i, i < 10 → s' (10 + k) i = s (21 + k) i) → s' 3 10 = s 14 10 → s' 3 11 = s 14 11 → s' 3 12 = s 14 12 → Q s') : w_X3_take Q s := by
  unfold w_X3_take
  have z0 : (0 : Int32).toNatClampNeg = 0 := rfl
  have z6 : (6 : Int32).toNatClampNeg = 6 := rfl
  have z13 : (13 : Int32).toNatClampNeg = 13 := rfl
  have z10 : (10 : Int32).toNatClampNeg = 10 := rfl
  rw [z0, z6, z13, z10]
  refine h _ (fun y hy => ?_) (fun k hk i hi => ?_) (fun k hk i hi => ?_) (fun k hk i hi => ?_) ?_ ?_ ?_
  · repeat (first | rw [u_ne (by omega)] | rw [cp_ne (by omega)])
  · have e : 0 + (i - 0) = i := by omega
    rcases k with _ | _ | k
    · repeat (first | rw [u_ne (by omega)] | rw [cp_ne (by omega)])
      rw [cp_in (by omega) (by omega), e]
    · repeat (first | rw [u_ne (by omega)] | rw [cp_ne (by omega)])
      rw [cp_in (by omega) (by omega), cp_ne (by omega), e]
    · omega
  · have e : 0 + (i - 0) = i := by omega
    rcases k with _ | _ | _ | _ | k
    · repeat (first | rw [u_ne (by omega)] | rw [cp_ne (by omega)])
      rw [cp_in (by omega) (by omega), e]
      repeat (rw [cp_ne (by omega)])
    · repeat (first | rw [u_ne (by omega)] | rw [cp_ne (by omega)])
      rw [cp_in (by omega) (by omega), e]
      repeat (rw [cp_ne (by omega)])
    · repeat (first | rw [u_ne (by omega)] | rw [cp_ne (by omega)])
      rw [cp_in (by omega) (by omega), e]
      repeat (rw [cp_ne (by omega)])
    · repeat (first | rw [u_ne (by omega)] | rw [cp_ne (by omega)])
      rw [cp_in (by omega) (by omega), e]
      repeat (rw [cp_ne (by omega)])
    · omega
  · have e : 0 + (i - 0) = i := by omega
    rcases k with _ | _ | _ | k
    · repeat (first | rw [u_ne (by omega)] | rw [cp_ne (by omega)])
      rw [cp_in (by omega) (by omega), e]
      repeat (rw [cp_ne (by omega)])
    · repeat (first | rw [u_ne (by omega)] | rw [cp_ne (by omega)])
      rw [cp_in (by omega) (by omega), e]
      repeat (rw [cp_ne (by omega)])
    · repeat (first | rw [u_ne (by omega)] | rw [cp_ne (by omega)])
      rw [cp_in (by omega) (by omega), e]
      repeat (rw [cp_ne (by omega)])
    · omega
  · rw [u_at (by omega), u_at (by omega), u_eq]
    repeat (rw [cp_ne (by omega)])
  · rw [u_at (by omega), u_eq, u_ne (by omega)]
    repeat (rw [cp_ne (by omega)])
  · rw [u_eq, u_ne (by omega), u_ne (by omega)]
    repeat (rw [cp_ne (by omega)])
def gH (s1 s' : ac_m) : Prop := (∀ y, y ≠ 69 → ¬ hDM y → s' y = s1 y) ∧ (∀ j, j ≠ 0 → j ≠ 1 → j ≠ 2 → j ≠ 4 → j ≠ 5 → j ≠ 6 → j ≠ 7 → j ≠ 8 → s' 69 j = s1 69 j) ∧ s' 69 0 = 0 ∧ s' 69 1 = 0
theorem m_hillsR {t : Nat → Nat} {n m : Nat} {w : Nat → Nat → Int32} {o : (Nat × Nat) ⊕ hlT} {Q : Int32 → ac_m → Prop} {s1 : ac_m} (T : okT t n) (hb : ∀ j, j < n → s1 70 j = nI (t j)) (em : s1 69 1 = nI m) (hm : m ≤ 600) (hnm : n ≤ m) (M : hlMS t n (skb t n 0) (0, 0, 0, w) o)
    (hS : ∀ x', o = .inr x' → ∀ s', gH s1 s' → hlM x' s' → w_X12_beginsAnew (fun s89 => Q (s89 73 1) s89) (ac_u s' 69 3 (-1 : Int32)))
    (hF : ∀ kd pl, o = .inl (kd, pl) → ∀ s', gH s1 s' → Q (nI kd - 10) (ac_u s' 69 3 (nI pl))) : w_X12_hills (nI n) Q s1 := by
  unfold w_X12_hills
  rw [u_at (show 1 ≠ 0 by omega), em]
  refine m_in (fun _ _ => ?_) (fun z => absurd ⟨nI_pos' (by omega), nI_le hnm (by omega)⟩ z)
  refine m_if1A (m_bad0 u_eq (m_if0B ?_))
  refine m_starts T (fun j hj => by rw [u_ne (by omega)]; exact hb j hj) (fun s2 f2 g2 z1 T2 e4 e5 e6 e7 e8 => ?_)
  refine m_tells (fun s3 f3 g3 => ?_)
  unfold l_X12_hills_42
  intro P hP
  have gx : ∀ s', frm hDM hE s3 s' → gH s1 s' := by
    intro s' h
    refine ⟨fun y y1 y2 => ?_, fun j j0 j1 j2 j4 j5 j6 j7 j8 => ?_, ?_, ?_⟩
    · rw [h.1 y y1 y2, f3 y (fun z => y2 (.inl z)), f2 y y1, u_ne y1]
    · rw [h.2 j j4 j5 j6 j7, f3 69 (by omega), g2 j j1 j2 j4 j5 j6 j7 j8, u_at j0]
    · rw [h.2 0 (by omega) (by omega) (by omega) (by unfold hE; omega), f3 69 (by omega), g2 0 (by omega) (by omega) (by omega) (by omega) (by omega) (by omega) (by omega), u_eq]
    · rw [h.2 1 (by omega) (by omega) (by omega) (by unfold hE; omega), f3 69 (by omega), z1]
  have T3 : MT s3 t n := ⟨by rw [f3 69 (by omega)]; exact T2.1, T, fun j hj => by rw [f3 70 (by omega)]; exact T2.2.2 j hj⟩
  refine M Q P hP s3 T3 (by rw [f3 69 (by omega)]; exact e4) (by rw [f3 69 (by omega)]; exact e5) ⟨by rw [f3 69 (by omega)]; exact e7, g3 0 (by omega), g3 1 (by omega), g3 2 (by omega), fun i hi => absurd hi (Nat.not_lt_zero i), fun i hi => absurd hi (Nat.not_lt_zero i), fun i hi => absurd hi (Nat.not_lt_zero i)⟩ (fun x' e s' f a => hS x' e s' (gx s' f) a) (fun kd pl e s' f => hF kd pl e s' (gx s' f))
theorem c_hillsR {t : Nat → Nat} {n : Nat} {Q : Int32 → ac_m → Prop} {s : ac_m} (T : okT t n) (hb : ∀ j, j < n → s 2 j = by8 (nI (t j)))
    (hS : ∀ w o, hlMS t n (skb t n 0) (0, 0, 0, w) o → ∀ x', o = .inr x' → hlG x' → ∀ s', (∀ y, y ≠ 1 → ¬ hDC y → s' y = s y) → s' 1 1 = 0 → s' 1 6 = -1 → hlC x' s' → Q 1 s')
    (hF : ∀ w o, hlMS t n (skb t n 0) (0, 0, 0, w) o → ∀ kd pl, o = .inl (kd, pl) → ∀ s', (∀ y, y ≠ 1 → ¬ hDC y → s' y = s y) → s' 1 1 = 0 → s' 1 5 = nI kd → s' 1 6 = nI pl → Q 0 s') : w_X10_open (nI n) (fun s23 => w_X3_read Q s23) s := by
  refine c_open (fun s1 f1 z1 z2 z3 z5 z6 => ?_)
  unfold w_X3_read w_X3_clear
  refine c_fill (by omega) (fun s2 f2 g2 => ?_)
  refine c_fill (by omega) (fun s3 f3 g3 => ?_)
  refine c_fill (by omega) (fun s4 f4 g4 => ?_)
  refine c_fill (by omega) (fun s5 f5 g5 => ?_)
  refine c_fill (by omega) (fun s6 f6 g6 => ?_)
  refine c_fill (by omega) (fun s7 f7 g7 => ?_)
  have sk := skb_le' (t := t) (n := n) (p := 0) (Nat.zero_le n)
  have o0 : ∀ y, ¬ hDC y → s7 y = s1 y := fun y hy => by
    unfold hDC at hy
    rw [f7 y (by omega), f6 y (by omega), f5 y (by omega), f4 y (by omega), f3 y (by omega), f2 y (by omega)]
  have a0 : ∀ i, i < 6 → s7 15 i = 0 ∧ s7 16 i = 0 := fun i hi => by
    rw [f7 15 (by omega), f6 15 (by omega), f5 15 (by omega), f4 15 (by omega), f3 15 (by omega), g2 i hi, f7 16 (by omega), f6 16 (by omega), f5 16 (by omega), f4 16 (by omega), g3 i hi]
    exact ⟨rfl, rfl⟩
  have a1 : ∀ i, i < 13 → s7 17 i = 0 ∧ s7 18 i = 0 ∧ s7 19 i = 0 ∧ s7 20 i = 0 := fun i hi => by
    rw [f7 17 (by omega), f6 17 (by omega), f5 17 (by omega), g4 i hi, f7 18 (by omega), f6 18 (by omega), g5 i hi, f7 19 (by omega), g6 i hi, g7 i hi]
    exact ⟨rfl, rfl, rfl, rfl⟩
  have hg : hlG (0, 0, 0, fun k i => s7 (15 + k) i) := ⟨Nat.zero_le _, Nat.zero_le _, Nat.zero_le _, fun i hi => absurd hi (Nat.not_lt_zero i), fun i hi => absurd hi (Nat.not_lt_zero i), fun i hi => absurd hi (Nat.not_lt_zero i), fun i _ hi => a0 i hi, fun i _ hi => a1 i hi⟩
  obtain ⟨o, C, M, G⟩ := hl_loop T (n + 1) (skb t n 0) (0, 0, 0, fun k i => s7 (15 + k) i) (by omega) sk.2.1 (skb_0 sk.2.2) hg
  unfold l_X3_read_6
  intro P hP
  have c1 (j : Nat) : (ac_u (ac_u (ac_u s7 14 10 0) 14 11 0) 14 12 0) 1 j = s1 1 j := by rw [u_ne (by omega), u_ne (by omega), u_ne (by omega), o0 1 (by unfold hDC; omega)]
  have cy : ∀ y, ¬ hDC y → (ac_u (ac_u (ac_u s7 14 10 0) 14 11 0) 14 12 0) y = s1 y := fun y hy => by
    have : y ≠ 14 := fun z => hy (by unfold hDC; omega)
    rw [u_ne this, u_ne this, u_ne this, o0 y hy]
  have fr : ∀ s', frc hDC (ac_u (ac_u (ac_u s7 14 10 0) 14 11 0) 14 12 0) s' → (∀ y, y ≠ 1 → ¬ hDC y → s' y = s y) ∧ s' 1 1 = 0 := fun s' h => ⟨fun y y1 y2 => by rw [h.1 y y1 y2, cy y y2, f1 y y1], by rw [h.2.1, c1, z1]⟩
  refine C Q P hP _ 0 0 ⟨by rw [c1]; exact z2, T, fun j hj => ?_⟩ (Nat.zero_le n) rfl (by rw [c1]; exact z3) (Nat.zero_le _) ⟨?_, ?_, ?_, fun k hk i => ?_⟩ (fun x' e s' f g a => hS _ o M x' e (G x' e) s' (fr s' f).1 (fr s' f).2 (by rw [g, c1, z6]) a) (fun kd pl e s' f g5 g6 => hF _ o M kd pl e s' (fr s' f).1 (fr s' f).2 g5 g6)
  · rw [cy 2 (by unfold hDC; omega), f1 2 (by omega)]; exact hb j hj
  · rw [u_at (by omega), u_at (by omega), u_eq]; rfl
  · rw [u_at (by omega), u_eq]; rfl
  · rw [u_eq]; rfl
  · rw [u_ne (by omega), u_ne (by omega), u_ne (by omega)]
theorem hills_fin {s s3 : ac_m} {F B A : Nat} {w : Nat → Nat → Int32} (i : Inv s) (g : gR F B A w)
    (c3 : s3 3 10 = nI F ∧ s3 3 11 = nI B ∧ s3 3 12 = nI A) (c4 : ∀ k, k < 2 → ∀ i, i < 6 → s3 (4 + k) i = w k i) (c6 : ∀ k, k < 4 → ∀ i, i < 13 → s3 (6 + k) i = w (2 + k) i) (c10 : ∀ k, k < 3 → ∀ i, i < 10 → s3 (10 + k) i = w (6 + k) i)
    (r73 : s3 73 0 = nI F ∧ s3 73 1 = nI B ∧ s3 73 2 = nI A) (r82 : ∀ i, i < F → s3 (82 + i) 0 = w 0 i ∧ s3 (82 + i) 1 = w 1 i) (r102 : ∀ i, i < B → s3 (102 + i) 0 = w 2 i ∧ s3 (102 + i) 1 = w 3 i ∧ s3 (102 + i) 2 = w 4 i ∧ s3 (102 + i) 3 = w 5 i) (r127 : ∀ i, i < A → s3 (127 + i) 0 = w 6 i ∧ s3 (127 + i) 1 = w 7 i ∧ s3 (127 + i) 2 = w 8 i)
    (m42 : s3 42 10 = 0 ∧ s3 42 11 = 0) (m43 : ∀ f, f < 6 → s3 43 f = s3 4 f) (m44 : ∀ b, b < 13 → (b < B → s3 44 b = s3 9 b ∧ s3 45 b = s3 6 b ∧ s3 46 b = 0) ∧ (B ≤ b → s3 44 b = 0 ∧ s3 45 b = -1 ∧ s3 46 b = 0)) (m47 : ∀ k, k < 36 → s3 47 k = 0)
    (n0 : ∀ b, b < 13 → (b < B → s3 556 b = w 5 b ∧ s3 556 (13 + b) = 0 ∧ s3 556 (26 + b) = w 2 b) ∧ (B ≤ b → s3 556 b = 0 ∧ s3 556 (13 + b) = 0 ∧ s3 556 (26 + b) = -1)) (n39 : ∀ f, f < 6 → (f < F → s3 556 (39 + f) = w 0 f) ∧ (F ≤ f → s3 556 (39 + f) = 0)) (n45 : ∀ k, k < 38 → s3 556 (45 + k) = 0)
    (l : s3 25 3 = 5 ∧ s3 26 0 = 1 ∧ s3 26 1 = -1 ∧ s3 26 2 = 10 ∧ s3 26 3 = -12 ∧ s3 26 4 = -9) (z : s3 69 19 = 0 ∧ s3 69 34 = 0 ∧ s3 69 35 = 0 ∧ s3 69 36 = 0 ∧ s3 69 37 = 0)
    (b33 : s3 33 1 = 0) (b34 : ∀ e, e < 13 → s3 34 e = -1) (p58 : s3 58 3 = 0 ∧ s3 58 4 = 0) (pk : ∀ y, (y = 59 ∨ (560 ≤ y ∧ y ≤ 575)) → s3 y = s y)
    (x0 : s3 1 6 = s3 69 3) (x1 : s3 0 14 = 0) (x2 : s3 0 15 = s 0 15) (x3 : s3 0 16 = s 0 16) (x4 : s3 71 = s 71) (t1 : s3 1 1 = 0) (t2 : s3 69 1 = 0) : Inv s3 := by
  obtain ⟨iH0, iM0, vM0, vB0, iL0, iB0, iT0, iP0, iX0⟩ := i
  obtain ⟨g1, g2, g3, g4, g5, g6, g7, g8⟩ := g
  obtain ⟨q1, q2, q3⟩ := r73
  have nn : ∀ j, ¬ nI j < 0 → True := fun _ _ => trivial
  refine ⟨?_, ?_, ?_, ?_, .inl ⟨z.1, l⟩, ?_, iT_0 t1 t2, ?_, ?_⟩
  · refine ⟨?_, ?_, fun f hf => ⟨fun h => ?_, fun h => ?_⟩, fun b hb => ⟨fun h => ?_, fun h => ?_⟩, fun e he h => ?_⟩
    · rw [q1, q2, q3]
      exact ⟨nI_pos' (by omega), nI_le (b := 6) g1 (by omega), nI_pos' (by omega), nI_le (b := 12) g2 (by omega), nI_pos' (by omega), nI_le (b := 10) g3 (by omega)⟩
    · rw [q1, q2, q3]; exact c3
    · rw [q1] at h
      have hfF := (nI_ltI (by omega) (by omega)).1 h
      rw [show s3 4 f = w 0 f from c4 0 (by omega) f hf, show s3 5 f = w 1 f from c4 1 (by omega) f hf, (r82 f hfF).1, (r82 f hfF).2]
      exact ⟨rfl, rfl, g4 f hfF⟩
    · rw [q1] at h
      have hfF := (nI_leI (by omega) (by omega)).1 h
      rw [show s3 4 f = w 0 f from c4 0 (by omega) f hf, show s3 5 f = w 1 f from c4 1 (by omega) f hf]
      exact g7 f hfF hf
    · rw [q2] at h
      have hbB := (nI_ltI (by omega) (by omega)).1 h
      rw [show s3 6 b = w 2 b from c6 0 (by omega) b hb, show s3 7 b = w 3 b from c6 1 (by omega) b hb, show s3 8 b = w 4 b from c6 2 (by omega) b hb, show s3 9 b = w 5 b from c6 3 (by omega) b hb, (r102 b hbB).1, (r102 b hbB).2.1, (r102 b hbB).2.2.1, (r102 b hbB).2.2.2, q1]
      exact ⟨rfl, rfl, rfl, rfl, g5 b hbB⟩
    · rw [q2] at h
      have hbB := (nI_leI (by omega) (by omega)).1 h
      rw [show s3 6 b = w 2 b from c6 0 (by omega) b hb, show s3 7 b = w 3 b from c6 1 (by omega) b hb, show s3 8 b = w 4 b from c6 2 (by omega) b hb, show s3 9 b = w 5 b from c6 3 (by omega) b hb]
      exact g8 b hbB hb
    · rw [q3] at h
      have heA := (nI_ltI (by omega) (by omega)).1 h
      rw [show s3 10 e = w 6 e from c10 0 (by omega) e he, show s3 11 e = w 7 e from c10 1 (by omega) e he, show s3 12 e = w 8 e from c10 2 (by omega) e he, (r127 e heA).1, (r127 e heA).2.1, (r127 e heA).2.2]
      exact ⟨rfl, rfl, rfl, g6 e heA⟩
  · refine ⟨fun b hb => ?_, fun f hf => ?_, fun k hk => ?_, ?_, ?_⟩
    · show s3 44 b = _ ∧ s3 46 b = _ ∧ s3 45 b = _
      rcases Nat.lt_or_ge b B with c | c
      · have a := (m44 b hb).1 c
        have d := (n0 b hb).1 c
        rw [a.1, a.2.1, a.2.2, d.1, d.2.1, d.2.2, show s3 6 b = w 2 b from c6 0 (by omega) b hb, show s3 9 b = w 5 b from c6 3 (by omega) b hb]
        exact ⟨rfl, rfl, rfl⟩
      · have a := (m44 b hb).2 c
        have d := (n0 b hb).2 c
        rw [a.1, a.2.1, a.2.2, d.1, d.2.1, d.2.2]
        exact ⟨rfl, rfl, rfl⟩
    · show s3 43 f = _
      rw [m43 f hf, show s3 4 f = w 0 f from c4 0 (by omega) f hf]
      rcases Nat.lt_or_ge f F with c | c
      · rw [(n39 f hf).1 c]
      · rw [(n39 f hf).2 c, (g7 f c hf).1]
    · show s3 47 k = _
      rw [m47 k hk, n45 k (by omega)]
    · rw [m42.2, show s3 556 81 = 0 from n45 36 (by omega)]
    · rw [m42.1, show s3 556 82 = 0 from n45 37 (by omega)]
  · rw [q1]
    refine ⟨fun b hb => ?_, fun f hf => ?_, fun i j hi hj => ?_, ?_, ?_⟩
    · rcases Nat.lt_or_ge b B with c | c
      · have d := (n0 b hb).1 c
        have e := g5 b c
        rw [d.1, d.2.1, d.2.2]
        exact .inr ⟨e.2.2.2.2.2.2.2.1, e.2.2.2.2.2.2.2.2, e.1, e.2.1⟩
      · exact .inl ((n0 b hb).2 c)
    · rcases Nat.lt_or_ge f F with c | c
      · have d := (n39 f hf).1 c
        have e := g4 f c
        rw [d]
        exact ⟨e.1, e.2.1, fun h => absurd ((nI_leI (by omega) (by omega)).1 h) (by omega)⟩
      · have d := (n39 f hf).2 c
        rw [d]
        exact ⟨by decide, by decide, fun _ => rfl⟩
    · rw [n45 (6 * i + j) (by omega), n45 (6 * j + i) (by omega)]
      exact ⟨rfl, by decide, by decide, fun _ => rfl, fun _ => rfl⟩
    · rw [show s3 556 82 = 0 from n45 37 (by omega)]; decide
    · rw [show s3 556 82 = 0 from n45 37 (by omega)]; decide
  · intro b hb h
    rw [q2] at h
    exact ((n0 b hb).2 ((nI_leI (by omega) (by omega)).1 h)).1
  · refine ⟨by rw [b33, z.2.1], by rw [z.2.1]; decide, by rw [z.2.1]; decide, fun k hk h => ?_, fun e he => .inl (b34 e he)⟩
    rw [z.2.1] at h
    exact absurd h (nI_pos (by omega))
  · obtain ⟨y1, y2, y3, y4, y5, y6, y7, y8⟩ := iP0
    refine ⟨by rw [p58.1, z.2.2.1], by rw [z.2.2.1]; decide, by rw [z.2.2.1]; decide, by rw [p58.2, z.2.2.2.2], by rw [z.2.2.2.2]; decide, by rw [z.2.2.2.2]; decide, fun w hw => ⟨?_, fun h => ?_⟩, fun j hj h => ?_⟩
    · rw [pk 59 (by omega), pk (560 + w) (by omega)]; exact (y7 w hw).1
    · rw [z.2.2.1] at h
      exact absurd h (nI_pos (by omega))
    · rw [z.2.2.2.2] at h
      exact absurd h (nI_pos (by omega))
  · unfold iX
    rw [x0, x1, x2, x3, x4, z.2.2.2.1]
    exact ⟨rfl, rfl, iX0.2.2.1, iX0.2.2.2⟩
theorem dr_hl : ∀ a, a < 126 → (a = 1 ∨ a = 69 ∨ (14 ≤ a ∧ a ≤ 24) ∨ a = 72 ∨ (75 ≤ a ∧ a ≤ 80) ∨ (89 ≤ a ∧ a ≤ 100) ∨ (116 ≤ a ∧ a ≤ 125)) → isDr a = true := by decide +kernel
theorem s_hills (p : Int32) (s : ac_m) (i : Inv s) : simX thA (w_X11_hills p) (w_X12_hills p) s := by
  obtain ⟨iH0, iM0, vM0, vB0, iL0, iB0, iT0, iP0, iX0⟩ := id i
  obtain ⟨t1, t2, t3, t4⟩ := iT0
  obtain ⟨m, hm, em⟩ := nI_of2 (M := 600) (n := 600) rfl (show ¬ s 69 1 < 0 by grind) t3
  unfold simX w_X11_hills
  rw [t1, em]
  refine c_within (fun h1 h2 => ?_) (fun h => ?_)
  · obtain ⟨n, hn, rfl⟩ := nI_of2 (M := 600) (n := 600) rfl (show ¬ p < 0 by grind) (Int32.le_trans h2 (show nI m ≤ nI 600 from nI_le hm (by omega)))
    have hnm : n ≤ m := (nI_leI (by omega) (by omega)).1 h2
    obtain ⟨T, hb70, hb2⟩ := tX_ok i em hm hnm
    refine c_hillsR T hb2 (fun w0 o M x e g s1 Fr z1 z6 cc => m_if1A ?_) (fun w0 o M kd pl e s1 Fr z1 z5 z6 => m_if0A ?_)
    · obtain ⟨F, B, A, w⟩ := x
      obtain ⟨C1, C2, C3, C4⟩ := cc
      refine c_take (fun sa fa a4 a6 a10 b1 b2 b3 => ?_)
      refine c_plain (fun sb fb l1 l2 l3 l4 l5 l6 => ?_)
      unfold w_X0_clear
      refine c_fill (by omega) (fun sc fc gc => ?_)
      unfold w_X6_clear
      have k3 : ∀ y, y ≠ 25 → y ≠ 26 → y ≠ 33 → y ≠ 34 → y ≠ 58 → (ac_u (ac_u (ac_u sc 33 1 0) 58 3 0) 58 4 0) y = sa y := fun y y1 y2 y3 y4 y5 => by
        rw [u_ne y5, u_ne y5, u_ne y3, fc y y4, fb y y1 y2]
      have eB : (ac_u (ac_u (ac_u sc 33 1 0) 58 3 0) 58 4 0) 3 11 = nI B := by rw [k3 3 (by omega) (by omega) (by omega) (by omega) (by omega), b2]; exact C2
      refine c_begin (B := B) g.2.1 eB (fun b hb => ?_) (fun sd fd d42 d10 d11 d43 d44 d47 => ?_)
      · rw [k3 9 (by omega) (by omega) (by omega) (by omega) (by omega), show sa 9 b = s1 20 b from a6 3 (by omega) b (by have := g.2.1; have : B ≤ 12 := this; omega), show s1 20 b = w 5 b from C4 5 (by omega) b]
        exact (g.2.2.2.2.1 b hb).2.2.2.2.2.2.2.1
      have S1 : ∀ y, y ≠ 0 → y ≠ 25 → y ≠ 26 → y ≠ 33 → y ≠ 34 → y ≠ 58 → ¬ (42 ≤ y ∧ y ≤ 47) → (ac_u sd 0 14 0) y = sa y := fun y y0 y1 y2 y3 y4 y5 y6 => by rw [u_ne y0, fd y y6, k3 y y1 y2 y3 y4 y5]
      have S2 : ∀ y, y ≠ 0 → y ≠ 1 → ¬ (3 ≤ y ∧ y ≤ 12) → ¬ hDC y → y ≠ 25 → y ≠ 26 → y ≠ 33 → y ≠ 34 → y ≠ 58 → ¬ (42 ≤ y ∧ y ≤ 47) → (ac_u sd 0 14 0) y = s y := fun y y0 y1 y2 y3 y4 y5 y6 y7 y8 y9 => by rw [S1 y y0 y4 y5 y6 y7 y8 y9, fa y y2, Fr y y1 y3]
      have e11 : (ac_u sd 0 14 0) 3 11 = nI B := by rw [S1 3 (by omega) (by omega) (by omega) (by omega) (by omega) (by omega) (by omega), b2]; exact C2
      rw [e11]
      have nd : ∀ y, (y < 14 ∨ 24 < y) → ¬ hDC y := fun y hy => by unfold hDC; omega
      have nm : ∀ y, (y < 72 ∨ (72 < y ∧ y < 75) ∨ (80 < y ∧ y < 89) ∨ (100 < y ∧ y < 116) ∨ 125 < y) → ¬ hDM y := fun y hy => by unfold hDM; omega
      refine m_hillsR T (fun j hj => by rw [S2 70 (by omega) (by omega) (by omega) (nd _ (by omega)) (by omega) (by omega) (by omega) (by omega) (by omega) (by omega)]; exact hb70 j hj) (by rw [S2 69 (by omega) (by omega) (by omega) (nd _ (by omega)) (by omega) (by omega) (by omega) (by omega) (by omega) (by omega)]; exact em) hm hnm M (fun x' e2 s2 gx mx => ?_) (fun kd pl e2 => absurd (e.symm.trans e2) (by intro z; cases z))
      cases e.symm.trans e2
      obtain ⟨g1, g2, g3, g4⟩ := id g
      obtain ⟨M1, M2, M3, M4, M5, M6, M7⟩ := mx
      have u72 : ∀ j, (ac_u s2 69 3 (-1)) 72 j = s2 72 j := fun j => by rw [u_ne (by omega)]
      refine m_begins (F := F) (B := B) (A := A) g1 g2 g3 (by rw [u72]; exact M2) (by rw [u72]; exact M3) (by rw [u72]; exact M4) (fun s3 f3 v3 zz q73 k82 k102 k127 n0 n39 n45 => ?_)
      have g1' : F ≤ 6 := g1
      have g2' : B ≤ 12 := g2
      have g3' : A ≤ 10 := g3
      have W : ∀ y, y < 69 → s3 y = (ac_u sd 0 14 0) y := fun y hy => by
        rw [f3 y (by omega) (by omega) (by omega) (by omega) (by omega) (by omega), u_ne (by omega), gx.1 y (by omega) (nm _ (by omega))]
      have W2 : ∀ y, ((59 ≤ y ∧ y < 69) ∨ y = 71 ∨ (557 ≤ y)) → s3 y = s y := fun y hy => by
        rw [f3 y (by omega) (by omega) (by omega) (by omega) (by omega) (by omega), u_ne (by omega), gx.1 y (by omega) (nm _ (by omega)), S2 y (by omega) (by omega) (by omega) (nd _ (by omega)) (by omega) (by omega) (by omega) (by omega) (by omega) (by omega)]
      have W3 : ∀ y, y ≠ 0 → y ≠ 25 → y ≠ 26 → y ≠ 33 → y ≠ 34 → y ≠ 58 → ¬ (42 ≤ y ∧ y ≤ 47) → y < 69 → s3 y = sa y := fun y y0 y1 y2 y3 y4 y5 y6 y7 => by rw [W y y7, S1 y y0 y1 y2 y3 y4 y5 y6]
      have r75 : ∀ i, i < F → ∀ j, (ac_u s2 69 3 (-1)) (75 + i) j = s2 (75 + i) j := fun i hi j => by rw [u_ne (by omega)]
      have r89 : ∀ i, i < B → ∀ j, (ac_u s2 69 3 (-1)) (89 + i) j = s2 (89 + i) j := fun i hi j => by rw [u_ne (by omega)]
      have r116 : ∀ i, i < A → ∀ j, (ac_u s2 69 3 (-1)) (116 + i) j = s2 (116 + i) j := fun i hi j => by rw [u_ne (by omega)]
      have h1 : s3 1 = s1 1 := by rw [W3 1 (by omega) (by omega) (by omega) (by omega) (by omega) (by omega) (by omega) (by omega), fa 1 (by omega)]
      have h0 : ∀ j, j ≠ 14 → s3 0 j = s 0 j := fun j hj => by
        rw [W 0 (by omega), u_at hj, fd 0 (by omega), k3 0 (by omega) (by omega) (by omega) (by omega) (by omega), fa 0 (by omega), Fr 0 (by omega) (nd _ (by omega))]
      refine ⟨q73.2.1.symm, by rw [v3 0 (by omega) (by omega), u_at (by omega)]; exact gx.2.2.1, hills_fin i g ?_ ?_ ?_ ?_ q73 ?_ ?_ ?_ ?_ ?_ ?_ ?_ ?_ ?_ n45 ?_ zz ?_ ?_ ?_ ?_ ?_ ?_ (h0 15 (by omega)) (h0 16 (by omega)) (W2 71 (by omega)) ?_ ?_⟩
      · have h3 := W3 3 (by omega) (by omega) (by omega) (by omega) (by omega) (by omega) (by omega) (by omega)
        rw [h3, b1, b2, b3]; exact ⟨C1, C2, C3⟩
      · intro k hk j hj
        rw [W3 (4 + k) (by omega) (by omega) (by omega) (by omega) (by omega) (by omega) (by omega) (by omega), a4 k hk j hj]
        exact C4 k (by omega) j
      · intro k hk j hj
        rw [W3 (6 + k) (by omega) (by omega) (by omega) (by omega) (by omega) (by omega) (by omega) (by omega), a6 k hk j hj, show 17 + k = 15 + (2 + k) by omega]
        exact C4 (2 + k) (by omega) j
      · intro k hk j hj
        rw [W3 (10 + k) (by omega) (by omega) (by omega) (by omega) (by omega) (by omega) (by omega) (by omega), a10 k hk j hj, show 21 + k = 15 + (6 + k) by omega]
        exact C4 (6 + k) (by omega) j
      · intro j hj
        rw [k82 j hj 0 (by omega), k82 j hj 1 (by omega), r75 j hj, r75 j hj]; exact M5 j hj
      · intro j hj
        rw [k102 j hj 0 (by omega), k102 j hj 1 (by omega), k102 j hj 2 (by omega), k102 j hj 3 (by omega), r89 j hj, r89 j hj, r89 j hj, r89 j hj]; exact M6 j hj
      · intro j hj
        rw [k127 j hj 0 (by omega), k127 j hj 1 (by omega), k127 j hj 2 (by omega), r116 j hj, r116 j hj, r116 j hj]; exact M7 j hj
      · rw [W 42 (by omega), u_ne (by omega)]; exact ⟨d10, d11⟩
      · intro f hf
        have h4 : s3 4 = (ac_u (ac_u (ac_u sc 33 1 0) 58 3 0) 58 4 0) 4 := by rw [W 4 (by omega), u_ne (by omega), fd 4 (by omega)]
        rw [W 43 (by omega), u_ne (by omega), d43 f hf, h4]
      · intro b hb
        rw [W 44 (by omega), W 45 (by omega), W 46 (by omega), W 9 (by omega), W 6 (by omega), u_ne (by omega), u_ne (by omega), u_ne (by omega), u_ne (by omega), u_ne (by omega), fd 9 (by omega), fd 6 (by omega)]
        exact d44 b hb
      · intro k hk
        rw [W 47 (by omega), u_ne (by omega)]; exact d47 k hk
      · intro b hb
        refine ⟨fun c => ?_, (n0 b hb).2⟩
        have := (n0 b hb).1 c
        rw [r89 b c, r89 b c, (M6 b c).1, (M6 b c).2.2.2] at this
        exact this
      · intro f hf
        refine ⟨fun c => ?_, (n39 f hf).2⟩
        have := (n39 f hf).1 c
        rw [r75 f c, (M5 f c).1] at this
        exact this
      · have h25 : s3 25 3 = sb 25 3 := by rw [W 25 (by omega), u_ne (by omega), fd 25 (by omega), u_ne (by omega), u_ne (by omega), u_ne (by omega), fc 25 (by omega)]
        have h26 : s3 26 = sb 26 := by rw [W 26 (by omega), u_ne (by omega), fd 26 (by omega), u_ne (by omega), u_ne (by omega), u_ne (by omega), fc 26 (by omega)]
        rw [h25, h26]; exact ⟨l1, l2, l3, l4, l5, l6⟩
      · rw [W 33 (by omega), u_ne (by omega), fd 33 (by omega), u_ne (by omega), u_ne (by omega), u_eq]
      · intro e he
        rw [W 34 (by omega), u_ne (by omega), fd 34 (by omega), u_ne (by omega), u_ne (by omega), u_ne (by omega)]; exact gc e he
      · rw [W 58 (by omega), u_ne (by omega), fd 58 (by omega), u_at (by omega), u_eq, u_eq]; exact ⟨rfl, rfl⟩
      · intro y hy
        exact W2 y (by omega)
      · rw [h1, z6, v3 3 (by omega) (by omega), u_eq]
      · rw [W 0 (by omega), u_eq]
      · rw [h1]; exact z1
      · rw [v3 1 (by omega) (by omega), u_at (by omega)]; exact gx.2.2.2
    · have key : w_X12_hills (nI n) (fun b s3 => nI kd - 10 = b ∧ s3 69 0 = 0 ∧ Inv s3) s1 := by
        refine m_hillsR T (fun j hj => by rw [Fr 70 (by omega) (by unfold hDC; omega)]; exact hb70 j hj) (by rw [Fr 69 (by omega) (by unfold hDC; omega)]; exact em) hm hnm M (fun x' e2 => absurd (e.symm.trans e2) (by intro z; cases z)) (fun kd2 pl2 e2 s2 gx => ?_)
        cases e.symm.trans e2
        refine ⟨rfl, by rw [u_at (by omega)]; exact gx.2.2.1, Inv_dr i (fun a ha => ?_) (fun j hj => ?_) ?_ ?_ ?_⟩
        · have na : ¬ (a = 1 ∨ a = 69 ∨ (14 ≤ a ∧ a ≤ 24) ∨ a = 72 ∨ (75 ≤ a ∧ a ≤ 80) ∨ (89 ≤ a ∧ a ≤ 100) ∨ (116 ≤ a ∧ a ≤ 125)) := fun z => by
            rw [dr_hl a (by omega) z] at ha; cases ha
          rw [u_ne (by omega), gx.1 a (by omega) (by unfold hDM; omega), Fr a (by omega) (by unfold hDC; omega)]
        · rw [u_at (by omega), gx.2.1 j (by omega) (by omega) (by omega) (by omega) (by omega) (by omega) (by omega) (by omega), Fr 69 (by omega) (by unfold hDC; omega)]
        · rw [u_ne (by omega), gx.1 1 (by omega) (by unfold hDM; omega)]; exact z1
        · rw [u_at (by omega)]; exact gx.2.2.2
        · rw [u_ne (by omega), gx.1 1 (by omega) (by unfold hDM; omega), u_eq]; exact z6
      unfold w_X10_faultAnswer
      show w_X12_hills (nI n) (fun b s3 => s1 1 5 - 10 = b ∧ s3 69 0 = 0 ∧ Inv s3) s1
      rw [z5]
      exact key
  · unfold w_X12_hills
    rw [u_at (show 1 ≠ 0 by omega), u_ne (show 69 ≠ 0 by omega), em]
    have fin : ∀ Z : ac_m → Prop, w_X12_bad (1 : Int32) (1 : Int32) (1 : Int32) (fun r31 s31 => (r31 = 0 → Z s31) ∧ (¬ r31 = 0 → (thA "java/lang/IllegalArgumentException" (s31 69 0) ∧ Inv s31))) (ac_u (ac_u s 0 16 (s 0 16 + 1)) 69 0 0) := fun Z => m_bad1 u_eq (by decide) in2_1 (m_if1B ⟨⟨rfl, bad_69⟩, Inv_bad1 i⟩)
    refine m_in (fun a b => absurd ⟨a, b⟩ h) (fun _ => m_if0A ?_)
    exact fin _
