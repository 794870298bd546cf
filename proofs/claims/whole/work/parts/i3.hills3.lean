/-! HILLS: the whole text -/
def hlP (Q : Int32 → ac_m → Prop) (P : Int32 → ac_m → Prop) : Prop := ∀ (x2 : Int32) (s : ac_m), (((s 1 2) < x2 → (Q (1 : Int32) s)) ∧ (¬ (s 1 2) < x2 → (w_X10_ended (fun r15 s15 => (r15 = 0 → (w_X3_readClause (fun r25 s25 => (¬ r25 = 0 → (P (x2 + (1 : Int32)) s25)) ∧ (r25 = 0 → (Q (0 : Int32) s25))) s15)) ∧ (¬ r15 = 0 → (Q (1 : Int32) s15))) s))) → P x2 s
def hlQ (Q : Int32 → ac_m → Prop) (P : ac_m → Prop) : Prop := ∀ (s : ac_m), ((¬ (s 69 5) = 0 → (((s 69 5) = 0 → (w_X12_beginsAnew (fun s89 => Q (s89 73 (1 : Int32).toNatClampNeg) s89) (ac_u s 69 3 (-1 : Int32)))) ∧ (¬ (s 69 5) = 0 → (w_X12_ends (fun r79 s79 => Q r79 s79) s)))) ∧ ((s 69 5) = 0 → (((s 69 2) ≤ (s 69 4) → (((s 69 5) = 0 → (w_X12_beginsAnew (fun s89 => Q (s89 73 (1 : Int32).toNatClampNeg) s89) (ac_u s 69 3 (-1 : Int32)))) ∧ (¬ (s 69 5) = 0 → (w_X12_ends (fun r79 s79 => Q r79 s79) s)))) ∧ (¬ (s 69 2) ≤ (s 69 4) → (w_X12_clause (fun s61 => w_X12_blanks (fun s65 => P s65) s61) s))))) → P s
def hlCS (t : Nat → Nat) (n q : Nat) (x : hlT) (o : (Nat × Nat) ⊕ hlT) : Prop := ∀ (Q P : Int32 → ac_m → Prop), hlP Q P → ∀ (s : ac_m) (p k : Nat), CT s t n → p ≤ n → skb t n p = q → s 1 3 = nI p → k ≤ q → hlC x s →
  (∀ x', o = .inr x' → ∀ s', frc hDC s s' → s' 1 6 = s 1 6 → hlC x' s' → Q 1 s') → (∀ kd pl, o = .inl (kd, pl) → ∀ s', frc hDC s s' → s' 1 5 = nI kd → s' 1 6 = nI pl → Q 0 s') → P (nI k) s
def hlMS (t : Nat → Nat) (n q : Nat) (x : hlT) (o : (Nat × Nat) ⊕ hlT) : Prop := ∀ (Q : Int32 → ac_m → Prop) (P : ac_m → Prop), hlQ Q P → ∀ (s : ac_m), MT s t n → s 69 4 = nI q → s 69 5 = 0 → hlM x s →
  (∀ x', o = .inr x' → ∀ s', frm hDM hE s s' → hlM x' s' → w_X12_beginsAnew (fun s89 => Q (s89 73 (1 : Int32).toNatClampNeg) s89) (ac_u s' 69 3 (-1 : Int32))) → (∀ kd pl, o = .inl (kd, pl) → ∀ s', frm hDM hE s s' → Q (nI kd - 10) (ac_u s' 69 3 (nI pl))) → P s
theorem hl_loop {t : Nat → Nat} {n : Nat} (TT : okT t n) : ∀ (f q : Nat) (x : hlT), n - q < f → q ≤ n → skb t n q = q → hlG x → ∃ o, hlCS t n q x o ∧ hlMS t n q x o ∧ (∀ x', o = .inr x' → hlG x') := by
  have h6 := TT.1
  intro f
  induction f with
  | zero => intro q x h; exact absurd h (Nat.not_lt_zero _)
  | succ f ih =>
    intro q x hf hq qq g
    by_cases c : q = n
    · subst c
      refine ⟨.inr x, ?_, ?_, fun x' e => (by cases e; exact g)⟩
      · intro Q P hP s p k T hp hs e3 hk a k1 k0
        refine hP _ _ ⟨fun z => absurd z ?_, fun _ => c_ended T hp e3 (fun _ s1 m1 => m_if1B (k1 x rfl s1 (frc_mv m1) (m1.2.1 6 (by omega) (by omega)) (cR_mv a m1))) (fun z => absurd hs (by omega))⟩
        rw [T.1]; exact nI_nlt hk (by omega)
      · intro Q P hP s T e4 e5 m k1 k0
        refine hP _ ⟨fun z => absurd e5 z, fun _ => ⟨fun _ => ⟨fun _ => k1 x rfl s frm.rf m, fun z => absurd e5 z⟩, fun z => absurd ?_ z⟩⟩
        rw [T.1, e4]; exact Int32.le_refl _
    · obtain ⟨o, hC, hM, hG⟩ := HX_clause x TT hq qq g
      have go : ∀ (Q P : Int32 → ac_m → Prop), hlP Q P → ∀ (s : ac_m) (p k : Nat), CT s t n → p ≤ n → skb t n p = q → s 1 3 = nI p → k ≤ q → (∀ s1, mv s s1 q q → rcC (Q 0) (P (nI (k + 1))) s1) → P (nI k) s := by
        intro Q P hP s p k T hp hs e3 hk h
        refine hP _ _ ⟨fun z => absurd z ?_, fun _ => c_ended T hp e3 (fun z => absurd z (by omega)) (fun _ s1 m1 => m_if0B ?_)⟩
        · rw [T.1]; exact nI_nlt (by omega) (by omega)
        · rw [hs] at m1
          rw [nI_1]
          exact h s1 m1
      have goM : ∀ (Q : Int32 → ac_m → Prop) (P : ac_m → Prop), hlQ Q P → ∀ (s : ac_m), MT s t n → s 69 4 = nI q → s 69 5 = 0 → w_X12_clause (fun s61 => w_X12_blanks (fun s65 => P s65) s61) s → P s := by
        intro Q P hP s T e4 e5 h
        refine hP _ ⟨fun z => absurd e5 z, fun _ => ⟨fun z => absurd z ?_, fun _ => h⟩⟩
        rw [T.1, e4]; exact nI_ge (by omega) (by omega)
      rcases o with ⟨kd, pl⟩ | ⟨q1, x1⟩
      · refine ⟨.inl (kd, pl), ?_, ?_, fun x' e => (by cases e)⟩
        · intro Q P hP s p k T hp hs e3 hk a k1 k0
          refine go Q P hP s p k T hp hs e3 hk (fun s1 m1 => ?_)
          exact hC (Q 0) (P (nI (k + 1))) s1 q (CT_mv T m1) hq qq m1.2.2.1 (cR_mv a m1) (fun _ _ e => (by cases e)) (fun a b e s' f g5 g6 => k0 a b (by cases e; rfl) s' ((frc_mv m1).trans f) g5 g6)
        · intro Q P hP s T e4 e5 m k1 k0
          refine goM Q P hP s T e4 e5 ?_
          refine hM _ s q T hq qq e4 e5 m (fun _ _ e => (by cases e)) (fun a b e s' f g5 g6 r4 => ?_)
          cases e
          obtain ⟨r, hr, er⟩ := r4
          refine m_blanks (MT_frm hWW.2.1 hWW.2.2 T f) hr er (fun s2 m2 => ?_)
          have f5 : s2 69 5 = nI kd := by rw [m2.2.1 5 (by omega)]; exact g5
          have n5 : ¬ s2 69 5 = 0 := by rw [f5]; exact nI_k (hG.2 kd pl rfl)
          refine hP _ ⟨fun _ => ⟨fun z => absurd z n5, fun _ => ?_⟩, fun z => absurd z n5⟩
          unfold w_X12_ends
          rw [u_at (show 5 ≠ 3 by omega), f5, m2.2.1 6 (by omega), g6]
          exact k0 kd pl rfl s2 (f.trans (frm_mv m2))
      · obtain ⟨b1, b2, b3, b4, b5⟩ := hG.1 q1 x1 rfl
        obtain ⟨o2, hC2, hM2, hG2⟩ := ih q1 x1 (by omega) b2 b3 b5
        refine ⟨o2, ?_, ?_, hG2⟩
        · intro Q P hP s p k T hp hs e3 hk a k1 k0
          refine go Q P hP s p k T hp hs e3 hk (fun s1 m1 => ?_)
          refine hC (Q 0) (P (nI (k + 1))) s1 q (CT_mv T m1) hq qq m1.2.2.1 (cR_mv a m1) (fun q' x' e s2 f2 g6 pp a2 => ?_) (fun _ _ e => (by cases e))
          cases e
          obtain ⟨p2, hp2, sp2, ep2⟩ := pp
          exact hC2 Q P hP s2 p2 (k + 1) (CT_frc hWW.1 (CT_mv T m1) f2) hp2 sp2 ep2 (by omega) a2 (fun x' e s' f g a => k1 x' e s' ((frc_mv m1).trans (f2.trans f)) (g.trans (g6.trans (m1.2.1 6 (by omega) (by omega)))) a) (fun kd pl e s' f g5 g6 => k0 kd pl e s' ((frc_mv m1).trans (f2.trans f)) g5 g6)
        · intro Q P hP s T e4 e5 m k1 k0
          refine goM Q P hP s T e4 e5 ?_
          refine hM _ s q T hq qq e4 e5 m (fun q' x' e s2 f2 g5 pp a2 => ?_) (fun _ _ e => (by cases e))
          cases e
          obtain ⟨p2, hp2, sp2, ep2⟩ := pp
          have T2 := MT_frm hWW.2.1 hWW.2.2 T f2
          refine m_blanks T2 hp2 ep2 (fun s3 m3 => ?_)
          rw [sp2] at m3
          exact hM2 Q P hP s3 (MT_mv T2 m3) m3.2.2 (by rw [m3.2.1 5 (by omega)]; exact g5) (mR_mv a2 b5.1 b5.2.1 b5.2.2.1 m3) (fun x' e s' f a => k1 x' e s' (f2.trans ((frm_mv m3).trans f)) a) (fun kd pl e s' f => k0 kd pl e s' (f2.trans ((frm_mv m3).trans f)))
/-! HILLS: the meadow begins -/
theorem c_begin {B : Nat} {Q : ac_m → Prop} {s : ac_m} (hB : B ≤ 12) (e : s 3 11 = nI B) (h9 : ∀ b, b < B → 1 ≤ s 9 b) (h : ∀ s', (∀ y, ¬ (42 ≤ y ∧ y ≤ 47) → s' y = s y) → (∀ j, j ≠ 10 → j ≠ 11 → s' 42 j = s 42 j) → s' 42 10 = 0 → s' 42 11 = 0 → (∀ f, f < 6 → s' 43 f = s 4 f) → (∀ b, b < 13 → (b < B → s' 44 b = s 9 b ∧ s' 45 b = s 6 b ∧ s' 46 b = 0) ∧ (B ≤ b → s' 44 b = 0 ∧ s' 45 b = -1 ∧ s' 46 b = 0)) → (∀ k, k < 36 → s' 47 k = 0) → Q s') : w_X5_begin Q s := by
  unfold w_X5_begin l_X5_begin_20
  intro P hP
  have z0 : (0 : Int32).toNatClampNeg = 0 := rfl
  have z6 : (6 : Int32).toNatClampNeg = 6 := rfl
  rw [z0, z6]
  suffices H : ∀ (f k : Nat) (s1 : ac_m), f + k = 13 → (∀ y, ¬ (43 ≤ y ∧ y ≤ 46) → s1 y = s y) → (∀ f, f < 6 → s1 43 f = s 4 f) → (∀ b, b < k → (b < B → s1 44 b = s 9 b ∧ s1 45 b = s 6 b ∧ s1 46 b = 0) ∧ (B ≤ b → s1 44 b = 0 ∧ s1 45 b = -1 ∧ s1 46 b = 0)) → P (nI k) s1 by
    refine H 13 0 _ rfl (fun y hy => cp_ne (by omega)) (fun f hf => ?_) (fun b hb => absurd hb (Nat.not_lt_zero b))
    rw [cp_in (by omega) (by omega), show 0 + (f - 0) = f by omega]
  intro f
  induction f with
  | zero =>
    intro k s1 hk g1 g2 g3
    have ek : k = 13 := by omega
    subst ek
    refine hP _ _ ⟨fun _ => c_fill (by omega) (fun s2 f2 v2 => ?_), fun z => absurd (Int32.le_refl _) z⟩
    refine h _ (fun y hy => ?_) (fun j j1 j2 => ?_) ?_ ?_ (fun f hf => ?_) (fun b hb => ?_) (fun k hk => ?_)
    · rw [u_ne (by omega), u_ne (by omega), f2 y (by omega)]; exact g1 y (by omega)
    · rw [u_at j2, u_at j1, f2 42 (by omega), g1 42 (by omega)]
    · rw [u_at (by omega), u_eq]
    · rw [u_eq]
    · rw [u_ne (by omega), u_ne (by omega), f2 43 (by omega)]; exact g2 f hf
    · rw [u_ne (by omega), u_ne (by omega), u_ne (by omega), u_ne (by omega), u_ne (by omega), u_ne (by omega), f2 44 (by omega), f2 45 (by omega), f2 46 (by omega)]; exact g3 b hb
    · rw [u_ne (by omega), u_ne (by omega)]; exact v2 k hk
  | succ f ih =>
    intro k s1 hk g1 g2 g3
    refine hP _ _ ⟨fun z => absurd z (nI_ge (a := k) (b := 13) (by omega) (by omega)), fun _ => ?_⟩
    unfold w_X5_remove
    have v : vp_in (nI k) 13 := vp_in_nI (by omega) (by omega)
    refine ⟨fun z => absurd z (nI_pos (by omega)), fun _ => ⟨fun z => absurd z (nI_ge (a := k) (b := 13) (by omega) (by omega)), fun _ => ⟨v, v, v, ?_⟩⟩⟩
    rw [cl_nI (by omega), nI_1]
    have o1 : ∀ y, ¬ (43 ≤ y ∧ y ≤ 46) → (ac_u (ac_u (ac_u s1 (42 + 2) k 0) (42 + 3) k (-1)) (42 + 4) k 0) y = s y := fun y hy => by
      rw [u_ne (by omega), u_ne (by omega), u_ne (by omega)]; exact g1 y hy
    have o2 : ∀ f, f < 6 → (ac_u (ac_u (ac_u s1 (42 + 2) k 0) (42 + 3) k (-1)) (42 + 4) k 0) 43 f = s 4 f := fun f hf => by
      rw [u_ne (by omega), u_ne (by omega), u_ne (by omega)]; exact g2 f hf
    have o3 : ∀ b, b ≠ k → (ac_u (ac_u (ac_u s1 (42 + 2) k 0) (42 + 3) k (-1)) (42 + 4) k 0) 44 b = s1 44 b ∧ (ac_u (ac_u (ac_u s1 (42 + 2) k 0) (42 + 3) k (-1)) (42 + 4) k 0) 45 b = s1 45 b ∧ (ac_u (ac_u (ac_u s1 (42 + 2) k 0) (42 + 3) k (-1)) (42 + 4) k 0) 46 b = s1 46 b := fun b hb => by
      refine ⟨?_, ?_, ?_⟩
      · rw [u_ne (by omega), u_ne (by omega)]; exact u_at hb
      · rw [u_ne (by omega)]; exact (u_at hb).trans (by rw [u_ne (by omega)])
      · exact (u_at hb).trans (by rw [u_ne (by omega), u_ne (by omega)])
    have o4 : (ac_u (ac_u (ac_u s1 (42 + 2) k 0) (42 + 3) k (-1)) (42 + 4) k 0) 44 k = 0 ∧ (ac_u (ac_u (ac_u s1 (42 + 2) k 0) (42 + 3) k (-1)) (42 + 4) k 0) 45 k = -1 ∧ (ac_u (ac_u (ac_u s1 (42 + 2) k 0) (42 + 3) k (-1)) (42 + 4) k 0) 46 k = 0 := by
      refine ⟨?_, ?_, u_eq⟩
      · rw [u_ne (by omega), u_ne (by omega)]; exact u_eq
      · rw [u_ne (by omega)]; exact u_eq
    revert o1 o2 o3 o4
    generalize ac_u (ac_u (ac_u s1 (42 + 2) k 0) (42 + 3) k (-1)) (42 + 4) k 0 = s2
    intro o1 o2 o3 o4
    have e2 : s2 3 11 = nI B := by rw [o1 3 (by omega)]; exact e
    show w_X5_doAgain 42 (nI k) (fun _ s33 => P (nI (k + 1)) s33) s2
    unfold w_X5_doAgain w_X3_hasBeast
    rw [e2]
    by_cases c : k < B
    · refine ⟨fun z => absurd z (nI_pos (by omega)), fun _ => ⟨fun z => absurd z (nI_ge c (by omega)), fun _ => ⟨fun z => absurd z (nI_ge (a := k) (b := 12) (by omega) (by omega)), fun _ => m_if1B ?_⟩⟩⟩
      unfold w_X5_isThere
      refine ⟨fun z => absurd z (nI_pos (by omega)), fun _ => ⟨fun z => absurd z (nI_ge (a := k) (b := 13) (by omega) (by omega)), fun _ => ⟨v, ?_⟩⟩⟩
      rw [cl_nI (by omega)]
      have n44 : s2 (42 + 2) k ≤ 0 := by rw [show s2 (42 + 2) k = 0 from o4.1]; exact Int32.le_refl _
      refine ⟨fun _ => m_if0B ⟨v, v, v, v, v, ?_⟩, fun z => absurd n44 z⟩
      refine ih (k + 1) _ (by omega) (fun y hy => ?_) (fun f hf => ?_) (fun b hb => ?_)
      · rw [u_ne (by omega), u_ne (by omega), u_ne (by omega)]; exact o1 y hy
      · rw [u_ne (by omega), u_ne (by omega), u_ne (by omega)]; exact o2 f hf
      · by_cases d : b = k
        · subst d
          refine ⟨fun _ => ⟨?_, ?_, u_eq⟩, fun z => absurd c (by omega)⟩
          · rw [u_ne (by omega), u_ne (by omega)]; exact u_eq.trans (by rw [o1 9 (by omega)])
          · rw [u_ne (by omega)]; exact u_eq.trans (by rw [u_ne (by omega), o1 6 (by omega)])
        · have q := g3 b (by omega)
          have q3 := o3 b d
          have r1 : (ac_u (ac_u (ac_u s2 (42 + 2) k (s2 9 k)) (42 + 3) k ((ac_u s2 (42 + 2) k (s2 9 k)) 6 k)) (42 + 4) k 0) 44 b = s1 44 b := by rw [u_ne (by omega), u_ne (by omega)]; exact (u_at d).trans q3.1
          have r2 : (ac_u (ac_u (ac_u s2 (42 + 2) k (s2 9 k)) (42 + 3) k ((ac_u s2 (42 + 2) k (s2 9 k)) 6 k)) (42 + 4) k 0) 45 b = s1 45 b := by rw [u_ne (by omega)]; exact (u_at d).trans (by rw [u_ne (by omega)]; exact q3.2.1)
          have r3 : (ac_u (ac_u (ac_u s2 (42 + 2) k (s2 9 k)) (42 + 3) k ((ac_u s2 (42 + 2) k (s2 9 k)) 6 k)) (42 + 4) k 0) 46 b = s1 46 b := (u_at d).trans (by rw [u_ne (by omega), u_ne (by omega)]; exact q3.2.2)
          rw [r1, r2, r3]; exact q
    · have fin : P (nI (k + 1)) s2 := by
        refine ih (k + 1) s2 (by omega) o1 o2 (fun b hb => ?_)
        by_cases d : b = k
        · subst d
          exact ⟨fun z => absurd z c, fun _ => o4⟩
        · have q3 := o3 b d
          rw [q3.1, q3.2.1, q3.2.2]; exact g3 b (by omega)
      exact ⟨fun z => absurd z (nI_pos (by omega)), fun _ => ⟨fun _ => m_if0B fin, fun z => absurd (nI_le (a := B) (b := k) (by omega) (by omega)) z⟩⟩
