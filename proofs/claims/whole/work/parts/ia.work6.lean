def wkS (Q : Int32 → ac_m → Prop) (s : ac_m) : Prop := vp_in ((ac_u s 69 3 (-1 : Int32)) 69 35) 16 ∧ (w_X12_copies 556 (560 + ((ac_u s 69 3 (-1 : Int32)) 69 35).toNatClampNeg) (fun s131 => t_X12_goes (0 : Int32) ((ac_u (ac_u (ac_u (ac_u s131 69 35 ((s131 69 35) + (1 : Int32))) 69 39 (0 : Int32)) 69 40 (0 : Int32)) 69 36 (0 : Int32)) 69 28) (fun s165 => Q (s165 69 40) s165) (ac_u (ac_u (ac_u (ac_u s131 69 35 ((s131 69 35) + (1 : Int32))) 69 39 (0 : Int32)) 69 40 (0 : Int32)) 69 36 (0 : Int32))) (ac_u s 69 3 (-1 : Int32)))
def wkR (Q : Int32 → ac_m → Prop) (P : ac_m → Prop) : Prop := ∀  (s : ac_m), ((¬ (s 69 5) = 0 → (((s 69 5) = 0 → (wkS Q s)) ∧ (¬ (s 69 5) = 0 → (w_X12_ends  (fun r109 s109 => Q r109 s109) s)))) ∧ ((s 69 5) = 0 → (((s 69 2) ≤ (s 69 4) → (((s 69 5) = 0 → (wkS Q s)) ∧ (¬ (s 69 5) = 0 → (w_X12_ends  (fun r109 s109 => Q r109 s109) s)))) ∧ (¬ (s 69 2) ≤ (s 69 4) → (t_X12_readsStep  (fun s91 => w_X12_blanks  (fun s95 => P  s95) s91) s))))) → P  s
def wkMS (F B : Nat) (t : Nat → Nat) (n q c : Nat) (o : (Nat × Nat) ⊕ wT) : Prop := ∀ (Q : Int32 → ac_m → Prop) (P : ac_m → Prop), wkR Q P → ∀ (s : ac_m), MT s t n → s 69 4 = nI q → s 69 5 = 0 → wM F B 0 c s → (∀ x, o = .inr x → ∀ s', frm (wDM c) wE s s' → mB F B 0 c x s' → wkS Q s') → (∀ kd pl, o = .inl (kd, pl) → ∀ s', frm (wDM c) wE s s' → Q (nI kd - 10) (ac_u s' 69 3 (nI pl))) → P s
def wkCS (F B : Nat) (t : Nat → Nat) (n q : Nat) (x0 : wT) (o : (Nat × Nat) ⊕ wT) : Prop := ∀ (Q P : Int32 → ac_m → Prop), blP (nI 0) Q (tk_X7_readSteps 7) P → ∀ (s : ac_m) (p k : Nat), CT s t n → p ≤ n → skb t n p = q → s 1 3 = nI p → k ≤ q → cW F B x0 s → (∀ x, o = .inr x → ∀ s', frc wDC s s' → s' 1 6 = s 1 6 → cW F B x s' → Q 1 s') → (∀ kd pl, o = .inl (kd, pl) → ∀ s', frc wDC s s' → s' 1 5 = nI kd → s' 1 6 = nI pl → Q 0 s') → P (nI k) s
theorem wk_loop {t : Nat → Nat} {n F B : Nat} (TT : okT t n) (n150 : n ≤ 150) (hF : F ≤ 6) (hB : B ≤ 12) : ∀ (f q c : Nat) (w : Nat → Nat → Int32), n - q < f → q ≤ n → skb t n q = q → 2 * c ≤ q → ∃ o : (Nat × Nat) ⊕ wT, wkCS F B t n q (c, w) o ∧ wkMS F B t n q c o ∧ (∀ x, o = .inr x → ext F B 0 (c, w) x ∧ 2 * x.1 ≤ n) := by
  have h6 := TT.1
  intro f
  induction f with
  | zero => intro q c w h; exact absurd h (Nat.not_lt_zero _)
  | succ f ih =>
    intro q c w hf hq qq h2c
    by_cases cn : q = n
    · subst cn
      refine ⟨.inr (c, w), fun Q P hP s p k T hp hs e3 hk a k1 k0 => ?_, fun Q P hP s T e4 e5 m k1 k0 => ?_, fun x e => (by cases e; exact ⟨ext_rf, h2c⟩)⟩
      · exact hP _ _ ⟨fun z => absurd z (by rw [T.1]; exact nI_nlt (by omega) (by omega)), fun _ => ⟨fun z => absurd rfl z, fun _ => c_ended T hp e3 (fun _ s1 m1 => m_if1B (k1 _ rfl s1 (frc_mv m1) (m1.2.1 6 (by omega) (by omega)) (cW_mv a m1))) (fun z => absurd hs (by omega))⟩⟩
      · refine hP _ ⟨fun z => absurd e5 z, fun _ => ⟨fun _ => ⟨fun _ => k1 _ rfl s frm.rf ⟨m, fun i h1 h2 => absurd h1 (by have : i < c := h2; omega)⟩, fun z => absurd e5 z⟩, fun z => absurd ?_ z⟩⟩
        rw [T.1, e4]; exact Int32.le_refl _
    · obtain ⟨o, hC, hM, hG⟩ := HXu_all (F := F) (B := B) TT n150 hF hB 6 0 (by omega) q c w hq qq h2c
      have go : ∀ (Q P : Int32 → ac_m → Prop), blP (nI 0) Q (tk_X7_readSteps 7) P → ∀ (s : ac_m) (p k : Nat), CT s t n → p ≤ n → skb t n p = q → s 1 3 = nI p → k ≤ q → (∀ s1, mv s s1 q q → rcT 0 7 (Q 0) (P (nI (k + 1))) s1) → P (nI k) s := by
        intro Q P hP s p k T hp hs e3 hk h
        refine hP _ _ ⟨fun z => absurd z (by rw [T.1]; exact nI_nlt (by omega) (by omega)), fun _ => ⟨fun z => absurd rfl z, fun _ => c_ended T hp e3 (fun z => absurd z (by omega)) (fun _ s1 m1 => m_if0B ?_)⟩⟩
        rw [hs] at m1
        rw [nI_1]
        exact h s1 m1
      have goM : ∀ (Q : Int32 → ac_m → Prop) (P : ac_m → Prop), wkR Q P → ∀ (s : ac_m), MT s t n → s 69 4 = nI q → s 69 5 = 0 → tk_X12_readsStep (7 + 1) (fun s91 => w_X12_blanks (fun s95 => P s95) s91) s → P s := by
        intro Q P hP s T e4 e5 h
        refine hP _ ⟨fun z => absurd e5 z, fun _ => ⟨fun z => absurd z ?_, fun _ => h⟩⟩
        rw [T.1, e4]; exact nI_ge (by omega) (by omega)
      rcases o with ⟨kd, pl⟩ | ⟨q1, x1⟩
      · refine ⟨.inl (kd, pl), fun Q P hP s p k T hp hs e3 hk a k1 k0 => ?_, fun Q P hP s T e4 e5 m k1 k0 => ?_, fun _ e => (by cases e)⟩
        · refine go Q P hP s p k T hp hs e3 hk (fun s1 m1 => ?_)
          exact hC (Q 0) (P (nI (k + 1))) s1 q (CT_mv T m1) hq qq m1.2.2.1 (cW_mv a m1) (fun _ _ e => (by cases e)) (fun a b e s' f g5 g6 => k0 a b (by cases e; rfl) s' ((frc_mv m1).trans f) g5 g6)
        · refine goM Q P hP s T e4 e5 ?_
          refine hM _ s q T hq qq e4 e5 m (fun _ _ e => (by cases e)) (fun a b e s' f g5 g6 r4 => ?_)
          cases e
          obtain ⟨r, hr, er⟩ := r4
          refine m_blanks (MT_frm wWW.2.1 (wWW (c := 0)).2.2 T f) hr er (fun s2 m2 => ?_)
          have f5 : s2 69 5 = nI kd := by rw [m2.2.1 5 (by omega)]; exact g5
          have n5 : ¬ s2 69 5 = 0 := by rw [f5]; exact nI_k (hG.2 kd pl rfl)
          refine hP _ ⟨fun _ => ⟨fun z => absurd z n5, fun _ => ?_⟩, fun z => absurd z n5⟩
          unfold w_X12_ends
          rw [u_at (show 5 ≠ 3 by omega), f5, m2.2.1 6 (by omega), g6]
          exact k0 kd pl rfl s2 (f.trans (frm_mv m2))
      · obtain ⟨b1, b2, b3, b4, b5, b6, b7⟩ := hG.1 q1 x1 rfl
        obtain ⟨c1, w1⟩ := x1
        have c1' : 2 * c1 ≤ q1 := b6
        obtain ⟨o2, hC2, hM2, hG2⟩ := ih q1 c1 w1 (by omega) b2 b3 b6
        refine ⟨o2, fun Q P hP s p k T hp hs e3 hk a k1 k0 => ?_, fun Q P hP s T e4 e5 m k1 k0 => ?_, fun x e => ?_⟩
        · refine go Q P hP s p k T hp hs e3 hk (fun s1 m1 => ?_)
          refine hC (Q 0) (P (nI (k + 1))) s1 q (CT_mv T m1) hq qq m1.2.2.1 (cW_mv a m1) (fun q' x' e s2 f2 g6 pp a2 => ?_) (fun _ _ e => (by cases e))
          cases e
          obtain ⟨p2, hp2, sp2, ep2⟩ := pp
          exact hC2 Q P hP s2 p2 (k + 1) (CT_frc (wWW (c := 0)).1 (CT_mv T m1) f2) hp2 sp2 ep2 (by omega) a2 (fun x' e s' f g a => k1 x' e s' ((frc_mv m1).trans (f2.trans f)) (g.trans (g6.trans (m1.2.1 6 (by omega) (by omega)))) a) (fun kd pl e s' f g5 g6 => k0 kd pl e s' ((frc_mv m1).trans (f2.trans f)) g5 g6)
        · refine goM Q P hP s T e4 e5 ?_
          refine hM _ s q T hq qq e4 e5 m (fun q' x' e s2 f2 g5 pp a2 => ?_) (fun _ _ e => (by cases e))
          cases e
          obtain ⟨p2, hp2, sp2, ep2⟩ := pp
          have T2 := MT_frm wWW.2.1 (wWW (c := 0)).2.2 T f2
          refine m_blanks T2 hp2 ep2 (fun s3 m3 => ?_)
          rw [sp2] at m3
          have mo : ∀ y, wDM c1 y → wDM c y := fun y hy => by unfold wDM at hy ⊢; have : c < c1 := b7; omega
          have a3 : mB F B 0 c (c1, w1) s3 := ⟨wM_mv a2.1 m3, fun i h1 h2 => by
            have h2' : i < c1 := h2
            have r := a2.2 i h1 h2
            unfold rwS at r ⊢
            rw [m3.1 _ (by omega)]; exact r⟩
          refine hM2 Q P hP s3 (MT_mv T2 m3) m3.2.2 (by rw [m3.2.1 5 (by omega)]; exact g5) a3.1 (fun x' e s' f a => k1 x' e s' (f2.trans ((frm_mv m3).trans (frm_mo mo f))) ?_) (fun kd pl e s' f => k0 kd pl e s' (f2.trans ((frm_mv m3).trans (frm_mo mo f))))
          exact mB_tr (x1 := (c1, w1)) a3 f (by show c1 ≤ 79; omega) (hG2 x' e).1 a
        · obtain ⟨j1, j2⟩ := hG2 x e
          exact ⟨ext_tr b5 j1, j2⟩
def gWk (s1 s' : ac_m) : Prop := (∀ y, y ≠ 69 → ¬ (476 ≤ y ∧ y ≤ 555) → s' y = s1 y) ∧ (∀ j, j ≠ 0 → j ≠ 1 → j ≠ 2 → j ≠ 4 → j ≠ 5 → j ≠ 6 → j ≠ 7 → j ≠ 8 → j ≠ 28 → s' 69 j = s1 69 j) ∧ s' 69 0 = 0 ∧ s' 69 1 = 0
theorem m_workR {t : Nat → Nat} {n m F B V : Nat} {o : (Nat × Nat) ⊕ wT} {Q : Int32 → ac_m → Prop} {s1 : ac_m} (T : okT t n) (hb : ∀ j, j < n → s1 70 j = nI (t j)) (em : s1 69 1 = nI m) (hm : m ≤ 600) (hn : n ≤ 150) (hnm : n ≤ m) (eV : s1 69 35 = nI V) (hV : V < 16) (e0 : s1 73 0 = nI F) (e1 : s1 73 1 = nI B) (M : wkMS F B t n (skb t n 0) 0 o)
    (hS : ∀ x, o = .inr x → ∀ s', gWk s1 s' → mB F B 0 0 x s' → wkS Q s')
    (hF : ∀ kd pl, o = .inl (kd, pl) → ∀ s', gWk s1 s' → Q (nI kd - 10) (ac_u s' 69 3 (nI pl))) : w_X12_work (nI n) Q s1 := by
  unfold w_X12_work
  rw [u_at (show 1 ≠ 0 by omega), em]
  refine m_in (fun _ _ => m_if1B ⟨fun _ => ?_, fun z => absurd (nI_le (b := 150) hn (by omega)) z⟩) (fun z => absurd ⟨nI_pos' (by omega), nI_le hnm (by omega)⟩ z)
  refine m_bad0 u_eq (m_if0B ⟨fun _ => ?_, fun z => ?_⟩)
  · refine m_starts T (fun j hj => by rw [u_ne (by omega)]; exact hb j hj) (fun s2 f2 g2 z1 T2 e4 e5 e6 e7 e8 => ?_)
    unfold l_X12_work_72
    intro P hP
    have q2 : ∀ j, j ≠ 28 → (ac_u s2 69 28 0) 69 j = s2 69 j := fun j hj => u_at hj
    have gx : ∀ s', frm (wDM 0) wE (ac_u s2 69 28 0) s' → gWk s1 s' := by
      intro s' h
      refine ⟨fun y y1 y2 => ?_, fun j j0 j1 j2 j4 j5 j6 j7 j8 j28 => ?_, ?_, ?_⟩
      · rw [h.1 y y1 (by unfold wDM; omega), u_ne y1, f2 y y1, u_ne y1]
      · rw [h.2 j j4 j5 j6 (by unfold wE; omega), q2 j j28, g2 j j1 j2 j4 j5 j6 j7 j8, u_at j0]
      · rw [h.2 0 (by omega) (by omega) (by omega) (by unfold wE; omega), q2 0 (by omega), g2 0 (by omega) (by omega) (by omega) (by omega) (by omega) (by omega) (by omega), u_eq]
      · rw [h.2 1 (by omega) (by omega) (by omega) (by unfold wE; omega), q2 1 (by omega), z1]
    have T3 : MT (ac_u s2 69 28 0) t n := ⟨by rw [q2 2 (by omega)]; exact T2.1, T, fun j hj => by rw [u_ne (by omega)]; exact T2.2.2 j hj⟩
    refine M Q P hP _ T3 (by rw [q2 4 (by omega)]; exact e4) (by rw [q2 5 (by omega)]; exact e5) ⟨?_, ?_, by rw [q2 8 (by omega)]; exact e8, u_eq⟩ (fun x e s' f a => hS x e s' (gx s' f) a) (fun kd pl e s' f => hF kd pl e s' (gx s' f))
    · rw [u_ne (by omega), f2 73 (by omega), u_ne (by omega)]; exact e0
    · rw [u_ne (by omega), f2 73 (by omega), u_ne (by omega)]; exact e1
  · rw [u_at (by omega), eV] at z
    have := nI_inj (a := V) (b := 16) (by omega) (by omega) z
    omega
theorem c_workR {t : Nat → Nat} {n F B : Nat} {Q : Int32 → ac_m → Prop} {s : ac_m} (T : okT t n) (n150 : n ≤ 150) (hF : F ≤ 6) (hB : B ≤ 12) (e0 : s 3 10 = nI F) (e1 : s 3 11 = nI B) (hb : ∀ j, j < n → s 2 j = by8 (nI (t j)))
    (hS : ∀ w o, wkMS F B t n (skb t n 0) 0 o → ∀ x, o = .inr x → ext F B 0 (0, w) x → 2 * x.1 ≤ n → ∀ s', (∀ y, y ≠ 1 → ¬ wDC y → s' y = s y) → s' 1 1 = 0 → s' 1 6 = -1 → cW F B x s' → Q 1 s')
    (hX : ∀ o, wkMS F B t n (skb t n 0) 0 o → ∀ kd pl, o = .inl (kd, pl) → ∀ s', (∀ y, y ≠ 1 → ¬ wDC y → s' y = s y) → s' 1 1 = 0 → s' 1 5 = nI kd → s' 1 6 = nI pl → Q 0 s') : w_X10_open (nI n) (fun s23 => w_X7_read Q s23) s := by
  refine c_open (fun s1 f1 z1 z2 z3 z5 z6 => ?_)
  unfold w_X7_read t_X7_readSteps
  rw [tk_X7_readSteps]
  unfold w_X7_readSteps l_X7_readSteps_3
  intro P hP
  have sk := skb_le' (t := t) (n := n) (p := 0) (Nat.zero_le n)
  obtain ⟨o, C, M, G⟩ := wk_loop (F := F) (B := B) T n150 hF hB (n + 1) (skb t n 0) 0 (fun k i => s1 (38 + k) i) (by omega) sk.2.1 (skb_0 sk.2.2) (by omega)
  have cy : ∀ y, y ≠ 37 → (ac_u (ac_u (ac_u (ac_u s1 37 4 0) 37 5 0) 37 6 0) 37 7 0) y = s1 y := fun y hy => by rw [u_ne hy, u_ne hy, u_ne hy, u_ne hy]
  have fr : ∀ s', frc wDC (ac_u (ac_u (ac_u (ac_u s1 37 4 0) 37 5 0) 37 6 0) 37 7 0) s' → (∀ y, y ≠ 1 → ¬ wDC y → s' y = s y) ∧ s' 1 1 = 0 := fun s' h => ⟨fun y y1 y2 => by rw [h.1 y y1 y2, cy y (fun z => y2 (by unfold wDC; omega)), f1 y y1], by rw [h.2.1, cy 1 (by omega), z1]⟩
  refine C (fun r s => ac_bo r ∧ Q r s) P hP _ 0 0 ⟨by rw [cy 1 (by omega)]; exact z2, T, fun j hj => ?_⟩ (Nat.zero_le n) rfl (by rw [cy 1 (by omega)]; exact z3) (Nat.zero_le _) ⟨?_, ?_, ?_, ⟨?_, ?_, ?_⟩, fun k hk i => ?_⟩ (fun x e s' f g a => ⟨bo_1, hS _ o M x e (G x e).1 (G x e).2 s' (fr s' f).1 (fr s' f).2 (by rw [g, cy 1 (by omega), z6]) a⟩) (fun kd pl e s' f g5 g6 => ⟨bo_0, hX o M kd pl e s' (fr s' f).1 (fr s' f).2 g5 g6⟩)
  · rw [cy 2 (by omega), f1 2 (by omega)]; exact hb j hj
  · rw [cy 3 (by omega), f1 3 (by omega)]; exact e0
  · rw [cy 3 (by omega), f1 3 (by omega)]; exact e1
  · rw [u_at (by omega), u_at (by omega), u_at (by omega), u_eq]; rfl
  · rw [u_at (by omega), u_at (by omega), u_eq]
  · rw [u_at (by omega), u_eq]
  · rw [u_eq]
  · rw [cy _ (by omega)]
