/-! WORK: readers side by side, the class's with a value -/
def hxAv (D : Nat → Prop) (t : Nat → Nat) (n : Nat) {α : Type} (RC : (ac_m → Prop) → (α → ac_m → Prop) → ac_m → Prop) (q : Nat) (A : ac_m → Prop) (A' : α → ac_m → Prop) (o : (Nat × Nat) ⊕ (Nat × α)) : Prop :=
  ∀ (Z : ac_m → Prop) (Y : α → ac_m → Prop) (s : ac_m) (p : Nat), CT s t n → p ≤ n → skb t n p = q → s 1 3 = nI p → A s →
    (∀ q' x, o = .inr (q', x) → ∀ s', frc D s s' → s' 1 6 = s 1 6 → (∃ p', p' ≤ n ∧ skb t n p' = q' ∧ s' 1 3 = nI p') → A' x s' → Y x s') →
    (∀ kd pl, o = .inl (kd, pl) → ∀ s', frc D s s' → s' 1 5 = nI kd → s' 1 6 = nI pl → Z s') → RC Z Y s
def HXv (DC DM E : Nat → Prop) (t : Nat → Nat) (n : Nat) {α : Type} (RC : (ac_m → Prop) → (α → ac_m → Prop) → ac_m → Prop) (RM : (ac_m → Prop) → ac_m → Prop) (q : Nat) (A M : ac_m → Prop) (A' M' : α → ac_m → Prop) (P : Nat → α → Prop) : Prop :=
  ∃ o : (Nat × Nat) ⊕ (Nat × α), hxAv DC t n RC q A A' o ∧ hxM DM E t n RM q M M' o ∧ hxG t n q P o
theorem HXv_seq {DC DM E : Nat → Prop} {t : Nat → Nat} {n q : Nat} {α β : Type} {RC1 : (ac_m → Prop) → (α → ac_m → Prop) → ac_m → Prop} {RC2 : α → (ac_m → Prop) → (β → ac_m → Prop) → ac_m → Prop} {RM1 RM2 : (ac_m → Prop) → ac_m → Prop} {A M : ac_m → Prop} {A1 M1 : α → ac_m → Prop} {A2 M2 : β → ac_m → Prop} {P1 : Nat → α → Prop} {P2 : Nat → β → Prop} (W : hxW DC DM E)
    (h1 : HXv DC DM E t n RC1 RM1 q A M A1 M1 P1) (pf : PFx DM E t n RM2) (h2 : ∀ q1 x, q ≤ q1 → q1 ≤ n → skb t n q1 = q1 → P1 q1 x → HXv DC DM E t n (RC2 x) RM2 q1 (A1 x) (M1 x) A2 M2 P2) :
    HXv DC DM E t n (fun Z Y s => RC1 Z (fun x s1 => RC2 x Z Y s1) s) (fun Q s => RM1 (RM2 Q) s) q A M A2 M2 P2 := by
  obtain ⟨o, hC, hM, hG⟩ := h1
  rcases o with ⟨kd, pl⟩ | ⟨q1, x⟩
  · refine ⟨.inl (kd, pl), ?_, ?_, fun _ _ e => (by cases e), fun a b e => hG.2 a b (by cases e; rfl)⟩
    · intro Z Y s p T hp hs e3 a k1 k0
      exact hC Z _ s p T hp hs e3 a (fun _ _ e => (by cases e)) (fun a b e s' f g5 g6 => k0 a b (by cases e; rfl) s' f g5 g6)
    · intro Q s p T hp hs e4 e5 m k1 k0
      refine hM (RM2 Q) s p T hp hs e4 e5 m (fun _ _ e => (by cases e)) (fun a b e s' f g5 g6 r4 => ?_)
      cases e
      refine pf Q s' (MT_frm W.2.1 W.2.2 T f) (by rw [g5]; exact nI_k (hG.2 kd pl rfl)) r4 (fun s2 f2 g52 g62 r42 => k0 kd pl rfl s2 (f.trans f2) (g52.trans g5) (g62.trans g6) r42)
  · obtain ⟨b1, b2, b3, b4⟩ := hG.1 q1 x rfl
    obtain ⟨o2, hC2, hM2, hG2⟩ := h2 q1 x b1 b2 b3 b4
    refine ⟨o2, ?_, ?_, fun q' y e => ?_, hG2.2⟩
    · intro Z Y s p T hp hs e3 a k1 k0
      refine hC Z _ s p T hp hs e3 a (fun q' x' e s1 f1 g6 pp a1 => ?_) (fun _ _ e => (by cases e))
      cases e
      obtain ⟨p1, hp1, sp1, ep1⟩ := pp
      exact hC2 Z Y s1 p1 (CT_frc W.1 T f1) hp1 sp1 ep1 a1 (fun q' x' e s2 f2 g62 pp a2 => k1 q' x' e s2 (f1.trans f2) (g62.trans g6) pp a2) (fun kd pl e s2 f2 b c => k0 kd pl e s2 (f1.trans f2) b c)
    · intro Q s p T hp hs e4 e5 m k1 k0
      refine hM (RM2 Q) s p T hp hs e4 e5 m (fun q' x' e s1 f1 g5 pp m1 => ?_) (fun _ _ e => (by cases e))
      cases e
      obtain ⟨p1, hp1, sp1, ep1⟩ := pp
      exact hM2 Q s1 p1 (MT_frm W.2.1 W.2.2 T f1) hp1 sp1 ep1 g5 m1 (fun q' x' e s2 f2 g52 pp a2 => k1 q' x' e s2 (f1.trans f2) g52 pp a2) (fun kd pl e s2 f2 b c d => k0 kd pl e s2 (f1.trans f2) b c d)
    · obtain ⟨c1, c2, c3, c4⟩ := hG2.1 q' y e
      exact ⟨Nat.le_trans b1 c1, c2, c3, c4⟩
/-- a number of the class, handed on -/
def rcV (lo : Int32) (hc : ac_m → Int32) (Z : ac_m → Prop) (Y : Nat → ac_m → Prop) (s : ac_m) : Prop := ∀ Q : Int32 → ac_m → Prop, (∀ s, Z s → Q (-1) s) → (∀ a s, nI a ≠ -1 → Y a s → Q (nI a) s) → w_X10_number lo (hc s) Q s
theorem HXv_num {DC DM E : Nat → Prop} {t : Nat → Nat} {n q row sl : Nat} {lo hi : Int32} {hc hm : ac_m → Int32} {A M : ac_m → Prop} {A' M' : Nat → ac_m → Prop} (hq : q ≤ n) (qq : skb t n q = q) (dm : DM row) (m69 : row ≠ 69)
    (hC : ∀ s, A s → hc s = hi) (hM : ∀ s, M s → hm s = hi) (sA : ∀ s s1 a e, A s → mv s s1 e q → A' a s1) (sM : ∀ s s1 a e, M s → mvM s s1 e → M' a (ac_u s1 row sl (nI a))) :
    HXv DC DM E t n (rcV lo hc) (rmN lo hm row sl) q A M A' M' (fun q' a => q < q' ∧ a ≤ 100000 ∧ ¬ nI a < lo ∧ nI a ≤ hi) := by
  have nn : ∀ a, a ≤ 100000 → nI a ≠ -1 := fun a ha z => by
    have p := nI_pos' (n := a) (by omega)
    rw [z] at p; exact absurd p (by decide)
  by_cases d : dg (ch t n q)
  · have e1 := nmE_gt d
    by_cases c : ¬ nI (nmV t n q) < lo ∧ nI (nmV t n q) ≤ hi
    · have sk := skb_le' (t := t) e1.2
      refine ⟨.inr (skb t n (nmE t n q), nmV t n q), ?_, ?_, fun q' x e => ?_, fun _ _ e => (by cases e)⟩
      · intro Z Y s p T hp hs e3 a k1 k0 Q hZ hQ
        rw [hC s a]
        subst hs
        exact c_num T hp e3 (fun _ _ _ s1 m1 => hQ _ s1 (nn _ nmV_bd) (k1 _ _ rfl s1 (frc_mv m1) (m1.2.1 6 (by omega) (by omega)) ⟨_, e1.2, rfl, m1.2.2.1⟩ (sA s s1 _ _ a m1))) (fun z => absurd d z) (fun _ z => absurd c z)
      · intro Q s p T hp hs e4 e5 m k1 k0
        unfold rmN
        rw [hM s m]
        subst hs
        refine m_num T hp e4 e5 (fun _ _ _ s1 m1 => k1 _ _ rfl _ (frm_u (frm_mv m1) dm m69) ?_ ⟨_, e1.2, rfl, ?_⟩ (sM s s1 _ _ m m1)) (fun z => absurd d z) (fun _ z => absurd c z)
        · rw [u_ne (Ne.symm m69), m1.2.1 5 (by omega)]; exact e5
        · rw [u_ne (Ne.symm m69)]; exact m1.2.2
      · cases e
        exact ⟨by omega, sk.2.1, skb_0 sk.2.2, by omega, nmV_bd, c.1, c.2⟩
    · refine ⟨.inl (2, q), ?_, ?_, fun _ _ e => (by cases e), fun a b e => (by cases e; omega)⟩
      · intro Z Y s p T hp hs e3 a k1 k0 Q hZ hQ
        rw [hC s a]
        subst hs
        exact c_num T hp e3 (fun _ z1 z2 => absurd ⟨z1, z2⟩ c) (fun z => absurd d z) (fun _ _ s1 f1 => hZ s1 (k0 2 _ rfl s1 (frc_fl f1) f1.2.2.1 f1.2.2.2))
      · intro Q s p T hp hs e4 e5 m k1 k0
        unfold rmN
        rw [hM s m]
        subst hs
        refine m_num T hp e4 e5 (fun _ z1 z2 => absurd ⟨z1, z2⟩ c) (fun z => absurd d z) (fun _ _ s1 f1 => k0 2 _ rfl _ (frm_u (frm_fl f1) dm m69) ?_ ?_ ?_)
        · rw [u_ne (Ne.symm m69)]; exact f1.2.2.1
        · rw [u_ne (Ne.symm m69)]; exact f1.2.2.2.1
        · rw [u_ne (Ne.symm m69)]; exact f1.2.2.2.2
  · refine ⟨.inl (1, q), ?_, ?_, fun _ _ e => (by cases e), fun a b e => (by cases e; omega)⟩
    · intro Z Y s p T hp hs e3 a k1 k0 Q hZ hQ
      rw [hC s a]
      subst hs
      exact c_num T hp e3 (fun z => absurd z d) (fun _ s1 f1 => hZ s1 (k0 1 _ rfl s1 (frc_fl f1) f1.2.2.1 f1.2.2.2)) (fun z => absurd z d)
    · intro Q s p T hp hs e4 e5 m k1 k0
      unfold rmN
      rw [hM s m]
      subst hs
      refine m_num T hp e4 e5 (fun z => absurd z d) (fun _ s1 f1 => k0 1 _ rfl _ (frm_u (frm_fl f1) dm m69) ?_ ?_ ?_) (fun z => absurd z d)
      · rw [u_ne (Ne.symm m69)]; exact f1.2.2.1
      · rw [u_ne (Ne.symm m69)]; exact f1.2.2.2.1
      · rw [u_ne (Ne.symm m69)]; exact f1.2.2.2.2
def rcG {α : Type} (c : Nat) (x : α) (Z : ac_m → Prop) (Y : α → ac_m → Prop) (s : ac_m) : Prop := ∀ Q : Int32 → ac_m → Prop, (∀ s, Z s → Q 0 s) → (∀ s, Y x s → Q 1 s) → w_X10_expects (nI c) Q s
/-- what is reckoned on one side alone -/
theorem HXv_id {DC DM E : Nat → Prop} {t : Nat → Nat} {n q : Nat} {α : Type} {RC : (ac_m → Prop) → (α → ac_m → Prop) → ac_m → Prop} {RM : (ac_m → Prop) → ac_m → Prop} {A M : ac_m → Prop} {A' M' : α → ac_m → Prop} {P : Nat → α → Prop} (x : α) (hq : q ≤ n) (qq : skb t n q = q) (hP : P q x)
    (hC : ∀ (Z : ac_m → Prop) (Y : α → ac_m → Prop) s, A s → (∀ s', frc DC s s' → s' 1 = s 1 → A' x s' → Y x s') → RC Z Y s) (hM : ∀ (Q : ac_m → Prop) s, s 69 5 = 0 → M s → (∀ s', frm DM E s s' → s' 69 4 = s 69 4 → s' 69 5 = 0 → M' x s' → Q s') → RM Q s) : HXv DC DM E t n RC RM q A M A' M' P := by
  refine ⟨.inr (q, x), ?_, ?_, fun q' x' e => ?_, fun _ _ e => (by cases e)⟩
  · intro Z Y s p T hp hs e3 a k1 k0
    exact hC Z Y s a (fun s' f e a' => k1 _ _ rfl s' f (by rw [e]) ⟨p, hp, hs, by rw [e]; exact e3⟩ a')
  · intro Q s p T hp hs e4 e5 m k1 k0
    exact hM Q s e5 m (fun s' f e e5' m' => k1 _ _ rfl s' f e5' ⟨p, hp, hs, by rw [e]; exact e4⟩ m')
  · cases e
    exact ⟨Nat.le_refl _, hq, qq, hP⟩
theorem HXv_sg {DC DM E : Nat → Prop} {t : Nat → Nat} {n q c : Nat} {α : Type} {A M : ac_m → Prop} {A' M' : α → ac_m → Prop} (x : α) (hq : q ≤ n) (qq : skb t n q = q) (hc : c < 128)
    (sA : ∀ s s1 e f, A s → mv s s1 e f → A' x s1) (sM : ∀ s s1 e, M s → mvM s s1 e → M' x s1) :
    HXv DC DM E t n (rcG c x) (w_X12_sign (nI c)) q A M A' M' (fun q' x' => q < q' ∧ x' = x) := by
  by_cases d : ch t n q = c
  · have e1 : q + 1 ≤ n := by
      rcases Nat.lt_or_ge q n with z | z
      · exact z
      · rw [ch_end z] at d; omega
    have sk := skb_le' (t := t) e1
    refine ⟨.inr (skb t n (q + 1), x), ?_, ?_, fun q' x' e => ?_, fun _ _ e => (by cases e)⟩
    · intro Z Y s p T hp hs e3 a k1 k0 Q hZ hY
      subst hs
      exact c_expects T hp e3 hc (fun _ s1 m1 => hY s1 (k1 _ _ rfl s1 (frc_mv m1) (m1.2.1 6 (by omega) (by omega)) ⟨_, e1, rfl, m1.2.2.1⟩ (sA s s1 _ _ a m1))) (fun z => absurd d z)
    · intro Q s p T hp hs e4 e5 m k1 k0
      subst hs
      exact m_sign T hp e4 e5 hc (fun _ s1 m1 => k1 _ _ rfl s1 (frm_mv m1) (by rw [m1.2.1 5 (by omega)]; exact e5) ⟨_, e1, rfl, m1.2.2⟩ (sM s s1 _ m m1)) (fun z => absurd d z)
    · cases e
      exact ⟨by omega, sk.2.1, skb_0 sk.2.2, by omega, rfl⟩
  · refine ⟨.inl (1, q), ?_, ?_, fun _ _ e => (by cases e), fun a b e => (by cases e; omega)⟩
    · intro Z Y s p T hp hs e3 a k1 k0 Q hZ hY
      subst hs
      exact c_expects T hp e3 hc (fun z => absurd z d) (fun _ s1 f1 => hZ s1 (k0 1 _ rfl s1 (frc_fl f1) f1.2.2.1 f1.2.2.2))
    · intro Q s p T hp hs e4 e5 m k1 k0
      subst hs
      exact m_sign T hp e4 e5 hc (fun z => absurd z d) (fun _ s1 f1 => k0 1 _ rfl s1 (frm_fl f1) f1.2.2.1 f1.2.2.2.1 f1.2.2.2.2)
/-! WORK: the table of steps -/
def wDC (y : Nat) : Prop := 37 ≤ y ∧ y ≤ 41
def wDM (c y : Nat) : Prop := 476 + c ≤ y ∧ y ≤ 555
def wE (j : Nat) : Prop := j = 8 ∨ j = 28
theorem wWW {c : Nat} : hxW wDC (wDM c) wE := ⟨by unfold wDC; omega, by unfold wDM; omega, by unfold wE; omega⟩
abbrev wT : Type := Nat × (Nat → Nat → Int32)
def cW (F B : Nat) (x : wT) (s : ac_m) : Prop := s 3 10 = nI F ∧ s 3 11 = nI B ∧ s 37 4 = nI x.1 ∧ (s 37 5 = 0 ∧ s 37 6 = 0 ∧ s 37 7 = 0) ∧ ∀ k, k < 4 → ∀ i, s (38 + k) i = x.2 k i
def wM (F B d c : Nat) (s : ac_m) : Prop := s 73 0 = nI F ∧ s 73 1 = nI B ∧ s 69 8 = nI d ∧ s 69 28 = nI c
def rwS (s : ac_m) (w : Nat → Nat → Int32) (i : Nat) : Prop := s (476 + i) 0 = w 0 i ∧ (w 0 i ≠ 5 → s (476 + i) 1 = w 1 i) ∧ ((w 0 i = 1 ∨ w 0 i = 4) → s (476 + i) 2 = w 2 i) ∧ s (476 + i) 3 = w 3 i
def mB (F B d c : Nat) (x : wT) (s : ac_m) : Prop := wM F B d x.1 s ∧ ∀ i, c ≤ i → i < x.1 → rwS s x.2 i
/-- the table x1 goes on from x, by steps at depth d -/
def ext (F B d : Nat) (x x1 : wT) : Prop := x.1 ≤ x1.1 ∧ (∀ k i, i < x.1 → x1.2 k i = x.2 k i) ∧ (∀ i, x.1 ≤ i → i < x1.1 → wkOK F B (x1.2 0 i) (x1.2 1 i) (x1.2 2 i)) ∧ ∃ f, wf x1.2 f d x.1 x1.1
theorem cW_mv {F B : Nat} {x : wT} {s s' : ac_m} {p q : Nat} (h : cW F B x s) (m : mv s s' p q) : cW F B x s' := by
  obtain ⟨h1, h2, h3, h4, h5⟩ := h
  refine ⟨?_, ?_, ?_, ?_, fun k hk i => ?_⟩
  · rw [m.1 3 (by omega)]; exact h1
  · rw [m.1 3 (by omega)]; exact h2
  · rw [m.1 37 (by omega)]; exact h3
  · rw [m.1 37 (by omega)]; exact h4
  · rw [m.1 _ (by omega)]; exact h5 k hk i
theorem wM_mv {F B d c : Nat} {s s' : ac_m} {p : Nat} (h : wM F B d c s) (m : mvM s s' p) : wM F B d c s' := by
  obtain ⟨h1, h2, h3, h4⟩ := h
  exact ⟨by rw [m.1 73 (by omega)]; exact h1, by rw [m.1 73 (by omega)]; exact h2, by rw [m.2.1 8 (by omega)]; exact h3, by rw [m.2.1 28 (by omega)]; exact h4⟩
theorem wM_u {F B d c y j : Nat} {v : Int32} {s : ac_m} (h : wM F B d c s) (h1 : y ≠ 69) (h2 : y ≠ 73) : wM F B d c (ac_u s y j v) := by
  obtain ⟨a1, a2, a3, a4⟩ := h
  exact ⟨by rw [u_ne (Ne.symm h2)]; exact a1, by rw [u_ne (Ne.symm h2)]; exact a2, by rw [u_ne (Ne.symm h1)]; exact a3, by rw [u_ne (Ne.symm h1)]; exact a4⟩
/-- a step is put down -/
def pt (c : Nat) (w : Nat → Nat → Int32) (k a b : Int32) : Nat → Nat → Int32 := up (up (up (up w 0 c k) 1 c a) 2 c b) 3 c (nI (c + 1))
theorem pt_o {c : Nat} {w : Nat → Nat → Int32} {k a b : Int32} {k' i : Nat} (h : i ≠ c) : pt c w k a b k' i = w k' i := by unfold pt; rw [up_i h, up_i h, up_i h, up_i h]
theorem pt_0 {c : Nat} {w : Nat → Nat → Int32} {k a b : Int32} : pt c w k a b 0 c = k ∧ pt c w k a b 1 c = a ∧ pt c w k a b 2 c = b ∧ pt c w k a b 3 c = nI (c + 1) := by
  unfold pt
  refine ⟨?_, ?_, ?_, up_eq⟩
  · rw [up_k (by omega), up_k (by omega), up_k (by omega), up_eq]
  · rw [up_k (by omega), up_k (by omega), up_eq]
  · rw [up_k (by omega), up_eq]
def rcP (k a b : Int32) (_ : ac_m → Prop) (Y : Unit → ac_m → Prop) (s : ac_m) : Prop := ∀ Q : Int32 → ac_m → Prop, (∀ s, Y () s → Q 1 s) → w_X7_put k a b Q s
theorem c_put7 {F B c : Nat} {w : Nat → Nat → Int32} {k a b : Int32} {Q : Int32 → ac_m → Prop} {s : ac_m} (hc : c < 150) (A : cW F B (c, w) s) (h : ∀ s', frc wDC s s' → s' 1 = s 1 → cW F B (c + 1, pt c w k a b) s' → Q 1 s') : w_X7_put k a b Q s := by
  obtain ⟨h1, h2, h3, ⟨h4, h5, h6⟩, h7⟩ := A
  have e : s 37 4 = nI c := h3
  have e1 : (ac_u s 38 c k) 37 4 = nI c := by rw [u_ne (by omega)]; exact e
  have e2 : (ac_u (ac_u s 38 c k) 39 c a) 37 4 = nI c := by rw [u_ne (by omega)]; exact e1
  have e3 : (ac_u (ac_u (ac_u s 38 c k) 39 c a) 40 c b) 37 4 = nI c := by rw [u_ne (by omega)]; exact e2
  have e4 : nI (c + 1) - 1 = nI c := nI_dec c
  unfold w_X7_put
  rw [e, cl_nI (by omega), e1, cl_nI (by omega), e2, cl_nI (by omega), e3, nI_1, u_eq, e4, cl_nI (by omega)]
  have v := vp_in_nI hc (show 150 < 2147483648 by omega)
  refine ⟨fun z => absurd z (nI_pos (by omega)), fun _ => ⟨fun z => absurd z (nI_ge (b := 150) hc (by omega)), fun _ => ⟨v, v, v, v, h _ ?_ ?_ ⟨?_, ?_, ?_, ⟨?_, ?_, ?_⟩, fun k' hk' i => ?_⟩⟩⟩⟩
  · exact frc_u (frc_u (frc_u (frc_u (frc_u frc.rf (by unfold wDC; omega) (by omega)) (by unfold wDC; omega) (by omega)) (by unfold wDC; omega) (by omega)) (by unfold wDC; omega) (by omega)) (by unfold wDC; omega) (by omega)
  · rw [u_ne (by omega), u_ne (by omega), u_ne (by omega), u_ne (by omega), u_ne (by omega)]
  · rw [u_ne (by omega), u_ne (by omega), u_ne (by omega), u_ne (by omega), u_ne (by omega)]; exact h1
  · rw [u_ne (by omega), u_ne (by omega), u_ne (by omega), u_ne (by omega), u_ne (by omega)]; exact h2
  · rw [u_ne (by omega), u_eq]
  · rw [u_ne (by omega), u_at (by omega), u_ne (by omega), u_ne (by omega), u_ne (by omega)]; exact h4
  · rw [u_ne (by omega), u_at (by omega), u_ne (by omega), u_ne (by omega), u_ne (by omega)]; exact h5
  · rw [u_ne (by omega), u_at (by omega), u_ne (by omega), u_ne (by omega), u_ne (by omega)]; exact h6
  · have h7' := h7 k' hk' i
    show _ = pt c w k a b k' i
    by_cases ci : i = c
    · subst ci
      have p := pt_0 (c := i) (w := w) (k := k) (a := a) (b := b)
      rcases k' with _ | _ | _ | _ | k'
      · rw [p.1, u_ne (by omega), u_ne (by omega), u_ne (by omega), u_ne (by omega), u_eq]
      · rw [p.2.1, u_ne (by omega), u_ne (by omega), u_ne (by omega), u_eq]
      · rw [p.2.2.1, u_ne (by omega), u_ne (by omega), u_eq]
      · rw [p.2.2.2, u_eq]
      · omega
    · rw [pt_o ci]
      rcases k' with _ | _ | _ | _ | k'
      · rw [u_ne (by omega), u_ne (by omega), u_ne (by omega), u_ne (by omega), u_at ci]; exact h7'
      · rw [u_ne (by omega), u_ne (by omega), u_ne (by omega), u_at ci, u_ne (by omega)]; exact h7'
      · rw [u_ne (by omega), u_ne (by omega), u_at ci, u_ne (by omega), u_ne (by omega)]; exact h7'
      · rw [u_at ci, u_ne (by omega), u_ne (by omega), u_ne (by omega), u_ne (by omega)]; exact h7'
      · omega
/-- a plain step lies well -/
theorem ext_pt {F B d c : Nat} {w : Nat → Nat → Int32} {k a b : Int32} (ok : wkOK F B k a b) (h6 : k ≠ 6) : ext F B d (c, w) (c + 1, pt c w k a b) := by
  have p := pt_0 (c := c) (w := w) (k := k) (a := a) (b := b)
  refine ⟨Nat.le_succ c, fun k' i hi => pt_o (show i ≠ c by have : i < c := hi; omega), fun i h1 h2 => ?_, 1, .inr ⟨c + 1, Nat.lt_succ_self c, Nat.le_refl _, p.2.2.2, fun z => absurd (p.1.symm.trans z) h6, rfl⟩⟩
  have h1' : c ≤ i := h1
  have h2' : i < c + 1 := h2
  have : i = c := by omega
  subst this
  show wkOK F B (pt i w k a b 0 i) (pt i w k a b 1 i) (pt i w k a b 2 i)
  rw [p.1, p.2.1, p.2.2.1]; exact ok
/-! WORK: how the steps lie -/
theorem wf_fr {w w' : Nat → Nat → Int32} : ∀ (f d lo hi : Nat), wf w f d lo hi → (∀ k i, lo ≤ i → i < hi → w' k i = w k i) → wf w' f d lo hi
  | 0, _, _, _, h, _ => h
  | f + 1, d, lo, hi, h, e => by
    rw [wf] at h ⊢
    rcases h with h | ⟨j, h1, h2, h3, h4, h5⟩
    · exact .inl h
    · refine .inr ⟨j, h1, h2, by rw [e 3 lo (Nat.le_refl _) (by omega)]; exact h3, fun z => ?_, wf_fr f d j hi h5 (fun k i a b => e k i (by omega) b)⟩
      rw [e 0 lo (Nat.le_refl _) (by omega)] at z
      exact ⟨(h4 z).1, wf_fr f (d + 1) (lo + 1) j (h4 z).2 (fun k i a b => e k i (by omega) (by omega))⟩
theorem wf_up {w : Nat → Nat → Int32} : ∀ (f d lo hi : Nat), wf w f d lo hi → wf w (f + 1) d lo hi
  | 0, _, _, _, h => by rw [wf] at h; rw [wf]; exact .inl h
  | f + 1, d, lo, hi, h => by
    rw [wf] at h
    rw [wf]
    rcases h with h | ⟨j, h1, h2, h3, h4, h5⟩
    · exact .inl h
    · exact .inr ⟨j, h1, h2, h3, fun z => ⟨(h4 z).1, wf_up f _ _ _ (h4 z).2⟩, wf_up f _ _ _ h5⟩
theorem wf_mono {w : Nat → Nat → Int32} {f d lo hi : Nat} (h : wf w f d lo hi) : ∀ k, wf w (f + k) d lo hi
  | 0 => h
  | k + 1 => wf_up _ _ _ _ (wf_mono h k)
theorem wf_app {w : Nat → Nat → Int32} {mid hi : Nat} (hm : mid ≤ hi) : ∀ (f d lo : Nat), wf w f d lo mid → (∃ g, wf w g d mid hi) → ∃ g, wf w g d lo hi
  | 0, _, _, h, k => by rw [wf] at h; rw [h]; exact k
  | f + 1, d, lo, h, k => by
    rw [wf] at h
    rcases h with h | ⟨j, h1, h2, h3, h4, h5⟩
    · rw [h]; exact k
    · obtain ⟨g, hg⟩ := wf_app hm f d j h5 k
      refine ⟨f + g + 1, .inr ⟨j, h1, by omega, h3, fun z => ⟨(h4 z).1, wf_mono (h4 z).2 g⟩, ?_⟩⟩
      rw [Nat.add_comm f g]
      exact wf_mono hg f
theorem ext_tr {F B d : Nat} {x x1 x2 : wT} (h : ext F B d x x1) (k : ext F B d x1 x2) : ext F B d x x2 := by
  obtain ⟨h1, h2, h3, f, h4⟩ := h
  obtain ⟨k1, k2, k3, g, k4⟩ := k
  refine ⟨Nat.le_trans h1 k1, fun k i hi => (k2 k i (by omega)).trans (h2 k i hi), fun i a b => ?_, ?_⟩
  · rcases Nat.lt_or_ge i x1.1 with c | c
    · rw [k2 0 i c, k2 1 i c, k2 2 i c]; exact h3 i a c
    · exact k3 i c b
  · exact wf_app k1 f d x.1 (wf_fr f d _ _ h4 (fun k i _ hi => k2 k i hi)) ⟨g, k4⟩
theorem ext_rf {F B d : Nat} {x : wT} : ext F B d x x := ⟨Nat.le_refl _, fun _ _ _ => rfl, fun i a b => absurd a (by omega), 0, rfl⟩
/-- a step is put down, and the sign behind it -/
def rmF (row : Nat) (Q : ac_m → Prop) (s : ac_m) : Prop := w_X12_sign (nI 59) Q (ac_u s row 3 (s 69 28))
theorem PF_F {D E : Nat → Prop} {t : Nat → Nat} {n row : Nat} (d : D row) (m69 : row ≠ 69) : PFx D E t n (rmF row) := by
  intro Q s T f5 r4 k
  unfold rmF w_X12_sign
  have g5 : ¬ (ac_u s row 3 (s 69 28)) 69 5 = 0 := by rw [u_ne (Ne.symm m69)]; exact f5
  exact ⟨fun z => absurd z g5, fun _ => k _ (frm_u frm.rf d m69) (by rw [u_ne (Ne.symm m69)]) (by rw [u_ne (Ne.symm m69)]) (by rw [u_ne (Ne.symm m69)]; exact r4)⟩
theorem PF_wr {D E : Nat → Prop} {t : Nat → Nat} {n row : Nat} (d : D row) (m69 : row ≠ 69) : PFx D E t n (fun Q s => Q (ac_u s row 3 (s 69 28))) := by
  intro Q s T f5 r4 k
  exact k _ (frm_u frm.rf d m69) (by rw [u_ne (Ne.symm m69)]) (by rw [u_ne (Ne.symm m69)]) (by rw [u_ne (Ne.symm m69)]; exact r4)
def wPP (F B d c : Nat) (w : Nat → Nat → Int32) (q' : Nat) (x : wT) : Prop := ext F B d (c, w) x ∧ 2 * x.1 ≤ q' ∧ c < x.1
theorem HXv_PS {t : Nat → Nat} {n q F B d c : Nat} {w : Nat → Nat → Int32} {k a b : Int32} (hq : q ≤ n) (qq : skb t n q = q) (hc : c < 80) (h2c : 2 * (c + 1) ≤ q) (ok : wkOK F B k a b) (h6 : k ≠ 6) :
    HXv wDC (wDM c) wE t n (fun Z Y s => rcP k a b Z (fun _ s => rcG 59 (c + 1, pt c w k a b) Z Y s) s) (rmF (476 + c)) q (cW F B (c, w)) (fun s => wM F B d (c + 1) s ∧ s (476 + c) 0 = k ∧ (k ≠ 5 → s (476 + c) 1 = a) ∧ ((k = 1 ∨ k = 4) → s (476 + c) 2 = b)) (cW F B) (mB F B d c) (wPP F B d c w) := by
  have p := pt_0 (c := c) (w := w) (k := k) (a := a) (b := b)
  refine HXv_seq (RC1 := rcP k a b) (RM1 := fun Q s => Q (ac_u s (476 + c) 3 (s 69 28))) (RM2 := w_X12_sign (nI 59)) (RC2 := fun _ => rcG 59 (c + 1, pt c w k a b)) wWW (HXv_id (P := fun q' _ => q' = q) (A' := fun _ => cW F B (c + 1, pt c w k a b)) (M' := fun _ => mB F B d c (c + 1, pt c w k a b)) () hq qq rfl (fun Z Y s A h Q hQ => c_put7 (by omega) A (fun s' f e A' => hQ s' (h s' f e A'))) (fun Q s e5 M h => ?_)) PF_sg (fun q1 _ l1 l2 l3 e => ?_)
  · refine h _ (frm_u frm.rf (by unfold wDM; omega) (by omega)) (by rw [u_ne (by omega)]) (by rw [u_ne (by omega)]; exact e5) ⟨wM_u M.1 (by omega) (by omega), fun i h1 h2 => ?_⟩
    have h2' : i < c + 1 := h2
    have ei : i = c := by omega
    subst ei
    refine ⟨?_, fun z => ?_, fun z => ?_, ?_⟩
    · rw [u_at (by omega)]; exact M.2.1.trans p.1.symm
    · rw [u_at (by omega)]; exact (M.2.2.1 (fun y => z (p.1.trans y))).trans p.2.1.symm
    · rw [u_at (by omega)]; exact (M.2.2.2 (z.imp (fun y => p.1.symm.trans y) (fun y => p.1.symm.trans y))).trans p.2.2.1.symm
    · rw [u_eq]; exact M.1.2.2.2.trans p.2.2.2.symm
  · subst e
    obtain ⟨o, hC, hM, hG⟩ := HXv_sg (DC := wDC) (DM := wDM c) (E := wE) (A := cW F B (c + 1, pt c w k a b)) (M := mB F B d c (c + 1, pt c w k a b)) (A' := cW F B) (M' := mB F B d c) (c + 1, pt c w k a b) l2 l3 (show 59 < 128 by omega) (fun s s1 e f A m => cW_mv A m) (fun s s1 e M m => ⟨wM_mv M.1 m, fun i h1 h2 => by
      have h2' : i < c + 1 := h2
      have r := M.2 i h1 h2
      unfold rwS at r ⊢
      rw [m.1 _ (by omega)]; exact r⟩)
    refine ⟨o, hC, hM, fun q' x e => ?_, hG.2⟩
    obtain ⟨g1, g2, g3, g4⟩ := hG.1 q' x e
    refine ⟨g1, g2, g3, ?_⟩
    rw [g4.2]
    have := g4.1
    exact ⟨ext_pt ok h6, by show 2 * (c + 1) ≤ q'; omega, Nat.lt_succ_self c⟩
def rsT (Q : ac_m → Prop) (Rr : (ac_m → Prop) → ac_m → Prop) (r1 : Int32) (s0 : ac_m) : Prop := ((s0 69 5) = 0 → (w_X12_skipWord  (fun s42 => vp_in (s42 69 28) 80 ∧ (((4 : Int32) ≤ r1 → ((¬ r1 = (1 : Int32) → ((¬ r1 = (4 : Int32) → ((¬ r1 = (6 : Int32) → (w_X12_sign (59 : Int32) (fun s225 => Q s225) (ac_u (ac_u (ac_u s42 69 28 ((s42 69 28) + (1 : Int32))) (476 + (s42 69 28).toNatClampNeg) (0 : Int32).toNatClampNeg r1) (476 + (s42 69 28).toNatClampNeg) (3 : Int32).toNatClampNeg ((ac_u (ac_u s42 69 28 ((s42 69 28) + (1 : Int32))) (476 + (s42 69 28).toNatClampNeg) (0 : Int32).toNatClampNeg r1) 69 28)))) ∧ (r1 = (6 : Int32) → (w_X12_number (0 : Int32) (60 : Int32) (fun r154 s154 => w_X12_sign (91 : Int32) (fun s161 => w_X12_blanks  (fun s165 => l_X12_readsStep_168  Q Rr   (476 + (s42 69 28).toNatClampNeg)  s165) s161) (ac_u s154 (476 + (s42 69 28).toNatClampNeg) (1 : Int32).toNatClampNeg r154)) (ac_u (ac_u s42 69 28 ((s42 69 28) + (1 : Int32))) (476 + (s42 69 28).toNatClampNeg) (0 : Int32).toNatClampNeg r1))))) ∧ (r1 = (4 : Int32) → (w_X12_number (0 : Int32) (((ac_u (ac_u s42 69 28 ((s42 69 28) + (1 : Int32))) (476 + (s42 69 28).toNatClampNeg) (0 : Int32).toNatClampNeg r1) 73 (0 : Int32).toNatClampNeg) - (1 : Int32)) (fun r128 s128 => w_X12_number (1 : Int32) (60 : Int32) (fun r138 s138 => (¬ r1 = (6 : Int32) → (w_X12_sign (59 : Int32) (fun s225 => Q s225) (ac_u (ac_u s138 (476 + (s42 69 28).toNatClampNeg) (2 : Int32).toNatClampNeg r138) (476 + (s42 69 28).toNatClampNeg) (3 : Int32).toNatClampNeg ((ac_u s138 (476 + (s42 69 28).toNatClampNeg) (2 : Int32).toNatClampNeg r138) 69 28)))) ∧ (r1 = (6 : Int32) → (w_X12_number (0 : Int32) (60 : Int32) (fun r154 s154 => w_X12_sign (91 : Int32) (fun s161 => w_X12_blanks  (fun s165 => l_X12_readsStep_168  Q Rr   (476 + (s42 69 28).toNatClampNeg)  s165) s161) (ac_u s154 (476 + (s42 69 28).toNatClampNeg) (1 : Int32).toNatClampNeg r154)) (ac_u s138 (476 + (s42 69 28).toNatClampNeg) (2 : Int32).toNatClampNeg r138)))) (ac_u s128 (476 + (s42 69 28).toNatClampNeg) (1 : Int32).toNatClampNeg r128)) (ac_u (ac_u s42 69 28 ((s42 69 28) + (1 : Int32))) (476 + (s42 69 28).toNatClampNeg) (0 : Int32).toNatClampNeg r1))))) ∧ (r1 = (1 : Int32) → (w_X12_number (0 : Int32) (((ac_u (ac_u s42 69 28 ((s42 69 28) + (1 : Int32))) (476 + (s42 69 28).toNatClampNeg) (0 : Int32).toNatClampNeg r1) 73 (0 : Int32).toNatClampNeg) - (1 : Int32)) (fun r107 s107 => (¬ r1 = (4 : Int32) → ((¬ r1 = (6 : Int32) → (w_X12_sign (59 : Int32) (fun s225 => Q s225) (ac_u (ac_u s107 (476 + (s42 69 28).toNatClampNeg) (2 : Int32).toNatClampNeg r107) (476 + (s42 69 28).toNatClampNeg) (3 : Int32).toNatClampNeg ((ac_u s107 (476 + (s42 69 28).toNatClampNeg) (2 : Int32).toNatClampNeg r107) 69 28)))) ∧ (r1 = (6 : Int32) → (w_X12_number (0 : Int32) (60 : Int32) (fun r154 s154 => w_X12_sign (91 : Int32) (fun s161 => w_X12_blanks  (fun s165 => l_X12_readsStep_168  Q Rr   (476 + (s42 69 28).toNatClampNeg)  s165) s161) (ac_u s154 (476 + (s42 69 28).toNatClampNeg) (1 : Int32).toNatClampNeg r154)) (ac_u s107 (476 + (s42 69 28).toNatClampNeg) (2 : Int32).toNatClampNeg r107))))) ∧ (r1 = (4 : Int32) → (w_X12_number (0 : Int32) (((ac_u s107 (476 + (s42 69 28).toNatClampNeg) (2 : Int32).toNatClampNeg r107) 73 (0 : Int32).toNatClampNeg) - (1 : Int32)) (fun r128 s128 => w_X12_number (1 : Int32) (60 : Int32) (fun r138 s138 => (¬ r1 = (6 : Int32) → (w_X12_sign (59 : Int32) (fun s225 => Q s225) (ac_u (ac_u s138 (476 + (s42 69 28).toNatClampNeg) (2 : Int32).toNatClampNeg r138) (476 + (s42 69 28).toNatClampNeg) (3 : Int32).toNatClampNeg ((ac_u s138 (476 + (s42 69 28).toNatClampNeg) (2 : Int32).toNatClampNeg r138) 69 28)))) ∧ (r1 = (6 : Int32) → (w_X12_number (0 : Int32) (60 : Int32) (fun r154 s154 => w_X12_sign (91 : Int32) (fun s161 => w_X12_blanks  (fun s165 => l_X12_readsStep_168  Q Rr   (476 + (s42 69 28).toNatClampNeg)  s165) s161) (ac_u s154 (476 + (s42 69 28).toNatClampNeg) (1 : Int32).toNatClampNeg r154)) (ac_u s138 (476 + (s42 69 28).toNatClampNeg) (2 : Int32).toNatClampNeg r138)))) (ac_u s128 (476 + (s42 69 28).toNatClampNeg) (1 : Int32).toNatClampNeg r128)) (ac_u s107 (476 + (s42 69 28).toNatClampNeg) (2 : Int32).toNatClampNeg r107)))) (ac_u (ac_u s42 69 28 ((s42 69 28) + (1 : Int32))) (476 + (s42 69 28).toNatClampNeg) (0 : Int32).toNatClampNeg r1))))) ∧ (¬ (4 : Int32) ≤ r1 → (w_X12_number (0 : Int32) (((ac_u (ac_u s42 69 28 ((s42 69 28) + (1 : Int32))) (476 + (s42 69 28).toNatClampNeg) (0 : Int32).toNatClampNeg r1) 73 (1 : Int32).toNatClampNeg) - (1 : Int32)) (fun r86 s86 => (¬ r1 = (1 : Int32) → ((¬ r1 = (4 : Int32) → ((¬ r1 = (6 : Int32) → (w_X12_sign (59 : Int32) (fun s225 => Q s225) (ac_u (ac_u s86 (476 + (s42 69 28).toNatClampNeg) (1 : Int32).toNatClampNeg r86) (476 + (s42 69 28).toNatClampNeg) (3 : Int32).toNatClampNeg ((ac_u s86 (476 + (s42 69 28).toNatClampNeg) (1 : Int32).toNatClampNeg r86) 69 28)))) ∧ (r1 = (6 : Int32) → (w_X12_number (0 : Int32) (60 : Int32) (fun r154 s154 => w_X12_sign (91 : Int32) (fun s161 => w_X12_blanks  (fun s165 => l_X12_readsStep_168  Q Rr   (476 + (s42 69 28).toNatClampNeg)  s165) s161) (ac_u s154 (476 + (s42 69 28).toNatClampNeg) (1 : Int32).toNatClampNeg r154)) (ac_u s86 (476 + (s42 69 28).toNatClampNeg) (1 : Int32).toNatClampNeg r86))))) ∧ (r1 = (4 : Int32) → (w_X12_number (0 : Int32) (((ac_u s86 (476 + (s42 69 28).toNatClampNeg) (1 : Int32).toNatClampNeg r86) 73 (0 : Int32).toNatClampNeg) - (1 : Int32)) (fun r128 s128 => w_X12_number (1 : Int32) (60 : Int32) (fun r138 s138 => (¬ r1 = (6 : Int32) → (w_X12_sign (59 : Int32) (fun s225 => Q s225) (ac_u (ac_u s138 (476 + (s42 69 28).toNatClampNeg) (2 : Int32).toNatClampNeg r138) (476 + (s42 69 28).toNatClampNeg) (3 : Int32).toNatClampNeg ((ac_u s138 (476 + (s42 69 28).toNatClampNeg) (2 : Int32).toNatClampNeg r138) 69 28)))) ∧ (r1 = (6 : Int32) → (w_X12_number (0 : Int32) (60 : Int32) (fun r154 s154 => w_X12_sign (91 : Int32) (fun s161 => w_X12_blanks  (fun s165 => l_X12_readsStep_168  Q Rr   (476 + (s42 69 28).toNatClampNeg)  s165) s161) (ac_u s154 (476 + (s42 69 28).toNatClampNeg) (1 : Int32).toNatClampNeg r154)) (ac_u s138 (476 + (s42 69 28).toNatClampNeg) (2 : Int32).toNatClampNeg r138)))) (ac_u s128 (476 + (s42 69 28).toNatClampNeg) (1 : Int32).toNatClampNeg r128)) (ac_u s86 (476 + (s42 69 28).toNatClampNeg) (1 : Int32).toNatClampNeg r86))))) ∧ (r1 = (1 : Int32) → (w_X12_number (0 : Int32) (((ac_u s86 (476 + (s42 69 28).toNatClampNeg) (1 : Int32).toNatClampNeg r86) 73 (0 : Int32).toNatClampNeg) - (1 : Int32)) (fun r107 s107 => (¬ r1 = (4 : Int32) → ((¬ r1 = (6 : Int32) → (w_X12_sign (59 : Int32) (fun s225 => Q s225) (ac_u (ac_u s107 (476 + (s42 69 28).toNatClampNeg) (2 : Int32).toNatClampNeg r107) (476 + (s42 69 28).toNatClampNeg) (3 : Int32).toNatClampNeg ((ac_u s107 (476 + (s42 69 28).toNatClampNeg) (2 : Int32).toNatClampNeg r107) 69 28)))) ∧ (r1 = (6 : Int32) → (w_X12_number (0 : Int32) (60 : Int32) (fun r154 s154 => w_X12_sign (91 : Int32) (fun s161 => w_X12_blanks  (fun s165 => l_X12_readsStep_168  Q Rr   (476 + (s42 69 28).toNatClampNeg)  s165) s161) (ac_u s154 (476 + (s42 69 28).toNatClampNeg) (1 : Int32).toNatClampNeg r154)) (ac_u s107 (476 + (s42 69 28).toNatClampNeg) (2 : Int32).toNatClampNeg r107))))) ∧ (r1 = (4 : Int32) → (w_X12_number (0 : Int32) (((ac_u s107 (476 + (s42 69 28).toNatClampNeg) (2 : Int32).toNatClampNeg r107) 73 (0 : Int32).toNatClampNeg) - (1 : Int32)) (fun r128 s128 => w_X12_number (1 : Int32) (60 : Int32) (fun r138 s138 => (¬ r1 = (6 : Int32) → (w_X12_sign (59 : Int32) (fun s225 => Q s225) (ac_u (ac_u s138 (476 + (s42 69 28).toNatClampNeg) (2 : Int32).toNatClampNeg r138) (476 + (s42 69 28).toNatClampNeg) (3 : Int32).toNatClampNeg ((ac_u s138 (476 + (s42 69 28).toNatClampNeg) (2 : Int32).toNatClampNeg r138) 69 28)))) ∧ (r1 = (6 : Int32) → (w_X12_number (0 : Int32) (60 : Int32) (fun r154 s154 => w_X12_sign (91 : Int32) (fun s161 => w_X12_blanks  (fun s165 => l_X12_readsStep_168  Q Rr   (476 + (s42 69 28).toNatClampNeg)  s165) s161) (ac_u s154 (476 + (s42 69 28).toNatClampNeg) (1 : Int32).toNatClampNeg r154)) (ac_u s138 (476 + (s42 69 28).toNatClampNeg) (2 : Int32).toNatClampNeg r138)))) (ac_u s128 (476 + (s42 69 28).toNatClampNeg) (1 : Int32).toNatClampNeg r128)) (ac_u s107 (476 + (s42 69 28).toNatClampNeg) (2 : Int32).toNatClampNeg r107)))) (ac_u s86 (476 + (s42 69 28).toNatClampNeg) (1 : Int32).toNatClampNeg r86)))) (ac_u (ac_u s42 69 28 ((s42 69 28) + (1 : Int32))) (476 + (s42 69 28).toNatClampNeg) (0 : Int32).toNatClampNeg r1))))) s0)) ∧ (¬ (s0 69 5) = 0 → (Q s0))
theorem reads_eq {Q : ac_m → Prop} {Rr : (ac_m → Prop) → ac_m → Prop} {s : ac_m} : w_X12_readsStep Q Rr s = (w_X12_stepHere  (fun r1 s1 => (¬ r1 = (-1 : Int32) → ((¬ r1 = (6 : Int32) → (rsT Q Rr r1 s1)) ∧ (r1 = (6 : Int32) → (w_X12_opensOne  (fun r26 s26 => (¬ r26 = 0 → (rsT Q Rr r1 s26)) ∧ (r26 = 0 → (Q s26))) s1)))) ∧ (r1 = (-1 : Int32) → (w_X12_wrong (1 : Int32) (s1 69 4) (fun s16 => (¬ r1 = (6 : Int32) → (rsT Q Rr r1 s16)) ∧ (r1 = (6 : Int32) → (w_X12_opensOne  (fun r26 s26 => (¬ r26 = 0 → (rsT Q Rr r1 s26)) ∧ (r26 = 0 → (Q s26))) s16))) s1))) s) := rfl
theorem c_disp7 {t : Nat → Nat} {n p q : Nat} {p3 : Int32} {Q : Int32 → ac_m → Prop} {Rp : Int32 → (Int32 → ac_m → Prop) → ac_m → Prop} {s : ac_m} (T : CT s t n) (hp : p ≤ n) (hs : skb t n p = q) (e3 : s 1 3 = nI p)
    (h0 : wdA t n q 14 → ∀ s', mv s s' (q + 3) q → w_X7_readBeast (0 : Int32) (fun r s => ac_bo r ∧ Q r s) s')
    (h1 : ¬ wdA t n q 14 → wdA t n q 15 → ∀ s', mv s s' (q + 5) q → w_X7_readDrive (fun r s => ac_bo r ∧ Q r s) s')
    (h2 : ¬ wdA t n q 14 → ¬ wdA t n q 15 → wdA t n q 16 → ∀ s', mv s s' (q + 4) q → w_X7_readBeast (2 : Int32) (fun r s => ac_bo r ∧ Q r s) s')
    (h3 : ¬ wdA t n q 14 → ¬ wdA t n q 15 → ¬ wdA t n q 16 → wdA t n q 17 → ∀ s', mv s s' (q + 2) q → w_X7_readBeast (3 : Int32) (fun r s => ac_bo r ∧ Q r s) s')
    (h4 : ¬ wdA t n q 14 → ¬ wdA t n q 15 → ¬ wdA t n q 16 → ¬ wdA t n q 17 → wdA t n q 18 → ∀ s', mv s s' (q + 3) q → w_X7_readHay (fun r s => ac_bo r ∧ Q r s) s')
    (h5 : ¬ wdA t n q 14 → ¬ wdA t n q 15 → ¬ wdA t n q 16 → ¬ wdA t n q 17 → ¬ wdA t n q 18 → wdA t n q 19 → ∀ s', mv s s' (q + 3) q → w_X7_put (5 : Int32) (0 : Int32) (0 : Int32) (fun r s => ac_bo r ∧ Q r s) s')
    (h6 : ¬ wdA t n q 14 → ¬ wdA t n q 15 → ¬ wdA t n q 16 → ¬ wdA t n q 17 → ¬ wdA t n q 18 → ¬ wdA t n q 19 → wdA t n q 20 → ∀ s', mv s s' (q + 5) q → w_X7_readAgain p3 (fun r s => ac_bo r ∧ Q r s) Rp s')
    (h7 : ¬ wdA t n q 14 → ¬ wdA t n q 15 → ¬ wdA t n q 16 → ¬ wdA t n q 17 → ¬ wdA t n q 18 → ¬ wdA t n q 19 → ¬ wdA t n q 20 → ∀ s', fl s s' 1 q → Q 0 s') : w_X7_readStep p3 Q Rp s := by
  obtain ⟨qn, pq, qq⟩ := skq hp hs
  unfold w_X7_readStep
  refine c_wordQ T hp hs e3 (by decide) (fun w s1 m1 => m_if1B (h0 w s1 m1)) (fun w0 s1 m1 => m_if0B ?_)
  have M1 := m1
  refine c_wordQ (CT_mv T M1) qn qq M1.2.2.1 (by decide) (fun w s2 m2 => m_if1B (h1 w0 w s2 (M1.trans m2))) (fun w1 s2 m2 => m_if0B ?_)
  have M2 := M1.trans m2
  refine c_wordQ (CT_mv T M2) qn qq M2.2.2.1 (by decide) (fun w s3 m3 => m_if1B (h2 w0 w1 w s3 (M2.trans m3))) (fun w2 s3 m3 => m_if0B ?_)
  have M3 := M2.trans m3
  refine c_wordQ (CT_mv T M3) qn qq M3.2.2.1 (by decide) (fun w s4 m4 => m_if1B (h3 w0 w1 w2 w s4 (M3.trans m4))) (fun w3 s4 m4 => m_if0B ?_)
  have M4 := M3.trans m4
  refine c_wordQ (CT_mv T M4) qn qq M4.2.2.1 (by decide) (fun w s5 m5 => m_if1B (h4 w0 w1 w2 w3 w s5 (M4.trans m5))) (fun w4 s5 m5 => m_if0B ?_)
  have M5 := M4.trans m5
  refine c_wordQ (CT_mv T M5) qn qq M5.2.2.1 (by decide) (fun w s6 m6 => m_if1B (h5 w0 w1 w2 w3 w4 w s6 (M5.trans m6))) (fun w5 s6 m6 => m_if0B ?_)
  have M6 := M5.trans m6
  refine c_wordQ (CT_mv T M6) qn qq M6.2.2.1 (by decide) (fun w s7 m7 => m_if1B (h6 w0 w1 w2 w3 w4 w5 w s7 (M6.trans m7))) (fun w6 s7 m7 => m_if0B ?_)
  have M7 := M6.trans m7
  exact c_fail (kd := 1) M7.2.2.2 (fun s' f => ⟨bo_0, h7 w0 w1 w2 w3 w4 w5 w6 s' (fl_mv M7 f)⟩)
theorem m_disp7 {t : Nat → Nat} {n p q : Nat} {Q : Int32 → ac_m → Prop} {s : ac_m} (T : MT s t n) (hp : p ≤ n) (hs : skb t n p = q) (e4 : s 69 4 = nI p) (e5 : s 69 5 = 0)
    (h0 : wdA t n q 14 → ∀ s', mvM s s' q → Q 0 s')
    (h1 : ¬ wdA t n q 14 → wdA t n q 15 → ∀ s', mvM s s' q → Q 1 s')
    (h2 : ¬ wdA t n q 14 → ¬ wdA t n q 15 → wdA t n q 16 → ∀ s', mvM s s' q → Q 2 s')
    (h3 : ¬ wdA t n q 14 → ¬ wdA t n q 15 → ¬ wdA t n q 16 → wdA t n q 17 → ∀ s', mvM s s' q → Q 3 s')
    (h4 : ¬ wdA t n q 14 → ¬ wdA t n q 15 → ¬ wdA t n q 16 → ¬ wdA t n q 17 → wdA t n q 18 → ∀ s', mvM s s' q → Q 4 s')
    (h5 : ¬ wdA t n q 14 → ¬ wdA t n q 15 → ¬ wdA t n q 16 → ¬ wdA t n q 17 → ¬ wdA t n q 18 → wdA t n q 19 → ∀ s', mvM s s' q → Q 5 s')
    (h6 : ¬ wdA t n q 14 → ¬ wdA t n q 15 → ¬ wdA t n q 16 → ¬ wdA t n q 17 → ¬ wdA t n q 18 → ¬ wdA t n q 19 → wdA t n q 20 → ∀ s', mvM s s' q → Q 6 s')
    (h7 : ¬ wdA t n q 14 → ¬ wdA t n q 15 → ¬ wdA t n q 16 → ¬ wdA t n q 17 → ¬ wdA t n q 18 → ¬ wdA t n q 19 → ¬ wdA t n q 20 → ∀ s', mvM s s' q → Q (-1) s') : w_X12_stepHere Q s := by
  obtain ⟨qn, pq, qq⟩ := skq hp hs
  have f5 : ∀ {s' e}, mvM s s' e → s' 69 5 = 0 := fun m => by rw [m.2.1 5 (by omega)]; exact e5
  unfold w_X12_stepHere
  refine m_isWordQ (i := 14) T hp hs e4 e5 wd14 (fun Q s h => six3 (by decide +kernel) h) (fun w s1 m1 => m_if1B (h0 w s1 m1)) (fun w0 s1 m1 => m_if0B ?_)
  have M1 := m1
  refine m_isWordQ (i := 15) (MT_mv T M1) qn qq M1.2.2 (f5 M1) wd15 (fun Q s h => six5 (by decide) (by decide) (by decide +kernel) h) (fun w s2 m2 => m_if1B (h1 w0 w s2 (M1.trans m2))) (fun w1 s2 m2 => m_if0B ?_)
  have M2 := M1.trans m2
  refine m_isWordQ (i := 16) (MT_mv T M2) qn qq M2.2.2 (f5 M2) wd16 (fun Q s h => six4 (by decide) (by decide +kernel) h) (fun w s3 m3 => m_if1B (h2 w0 w1 w s3 (M2.trans m3))) (fun w2 s3 m3 => m_if0B ?_)
  have M3 := M2.trans m3
  refine m_wordHere (MT_mv T M3) (p := q) qn M3.2.2 (fun s4 m4 => ?_)
  rw [qq] at m4 ⊢
  have M4 := M3.trans m4
  have i3 := wC_iff (q := q) T.2.1 wd17
  have c123 : nI (cdF (fun k => [4, 15].getD k 0) [4, 15].length) = 123 := by decide +kernel
  rw [c123] at i3
  refine ⟨fun z => ?_, fun z => h3 w0 w1 w2 (i3.1 z) s4 M4⟩
  have w3 : ¬ wdA t n q 17 := fun y => z (i3.2 y)
  refine m_isWordQ (i := 18) (MT_mv T M4) qn qq M4.2.2 (f5 M4) wd18 (fun Q s h => six3 (by decide +kernel) h) (fun w s5 m5 => m_if1B (h4 w0 w1 w2 w3 w s5 (M4.trans m5))) (fun w4 s5 m5 => m_if0B ?_)
  have M5 := M4.trans m5
  refine m_isWordQ (i := 19) (MT_mv T M5) qn qq M5.2.2 (f5 M5) wd19 (fun Q s h => six3 (by decide +kernel) h) (fun w s6 m6 => m_if1B (h5 w0 w1 w2 w3 w4 w s6 (M5.trans m6))) (fun w5 s6 m6 => m_if0B ?_)
  have M6 := M5.trans m6
  exact m_isWordQ (i := 20) (MT_mv T M6) qn qq M6.2.2 (f5 M6) wd20 (fun Q s h => six5 (by decide) (by decide) (by decide +kernel) h) (fun w s7 m7 => m_if1B (h6 w0 w1 w2 w3 w4 w5 w s7 (M6.trans m7))) (fun w6 s7 m7 => m_if0B (h7 w0 w1 w2 w3 w4 w5 w6 s7 (M6.trans m7)))
theorem rsT_0 {t : Nat → Nat} {n q c ln : Nat} {Q : ac_m → Prop} {Rr : (ac_m → Prop) → ac_m → Prop} {s : ac_m} (T : MT s t n) (hq : q ≤ n) (e4 : s 69 4 = nI q) (e5 : s 69 5 = 0) (hl : rl t n q = ln) (e28 : s 69 28 = nI c) (hc : c < 80) (h : ∀ s', mvM s s' (q + ln) → (fun s => rmN 0 (fun s => s 73 1 - 1) (476 + c) 1 (fun s => rmF (476 + c) Q s) s) (ac_u (ac_u s' 69 28 (nI (c + 1))) (476 + c) 0 (0 : Int32))) : rsT Q Rr (0 : Int32) s := by
  unfold rsT
  refine ⟨fun _ => m_skipWord T hq e4 (fun s' m' => ?_), fun z => absurd e5 z⟩
  rw [hl] at m'
  have H := h s' m'
  rw [show s' 69 28 = nI c by rw [m'.2.1 28 (by omega)]; exact e28, nI_1, cl_nI (by omega)]
  refine ⟨vp_in_nI hc (by omega), ?_⟩
  simp only [show ((0 : Int32) = 1) = False from eq_false (by decide), show ((0 : Int32) = 4) = False from eq_false (by decide), show ((0 : Int32) = 6) = False from eq_false (by decide), show ((4 : Int32) ≤ 0) = False from eq_false (by decide), not_true_eq_false, not_false_eq_true, true_implies, false_implies, and_true, true_and]
  exact H
theorem rsT_2 {t : Nat → Nat} {n q c ln : Nat} {Q : ac_m → Prop} {Rr : (ac_m → Prop) → ac_m → Prop} {s : ac_m} (T : MT s t n) (hq : q ≤ n) (e4 : s 69 4 = nI q) (e5 : s 69 5 = 0) (hl : rl t n q = ln) (e28 : s 69 28 = nI c) (hc : c < 80) (h : ∀ s', mvM s s' (q + ln) → (fun s => rmN 0 (fun s => s 73 1 - 1) (476 + c) 1 (fun s => rmF (476 + c) Q s) s) (ac_u (ac_u s' 69 28 (nI (c + 1))) (476 + c) 0 (2 : Int32))) : rsT Q Rr (2 : Int32) s := by
  unfold rsT
  refine ⟨fun _ => m_skipWord T hq e4 (fun s' m' => ?_), fun z => absurd e5 z⟩
  rw [hl] at m'
  have H := h s' m'
  rw [show s' 69 28 = nI c by rw [m'.2.1 28 (by omega)]; exact e28, nI_1, cl_nI (by omega)]
  refine ⟨vp_in_nI hc (by omega), ?_⟩
  simp only [show ((2 : Int32) = 1) = False from eq_false (by decide), show ((2 : Int32) = 4) = False from eq_false (by decide), show ((2 : Int32) = 6) = False from eq_false (by decide), show ((4 : Int32) ≤ 2) = False from eq_false (by decide), not_true_eq_false, not_false_eq_true, true_implies, false_implies, and_true, true_and]
  exact H
theorem rsT_3 {t : Nat → Nat} {n q c ln : Nat} {Q : ac_m → Prop} {Rr : (ac_m → Prop) → ac_m → Prop} {s : ac_m} (T : MT s t n) (hq : q ≤ n) (e4 : s 69 4 = nI q) (e5 : s 69 5 = 0) (hl : rl t n q = ln) (e28 : s 69 28 = nI c) (hc : c < 80) (h : ∀ s', mvM s s' (q + ln) → (fun s => rmN 0 (fun s => s 73 1 - 1) (476 + c) 1 (fun s => rmF (476 + c) Q s) s) (ac_u (ac_u s' 69 28 (nI (c + 1))) (476 + c) 0 (3 : Int32))) : rsT Q Rr (3 : Int32) s := by
  unfold rsT
  refine ⟨fun _ => m_skipWord T hq e4 (fun s' m' => ?_), fun z => absurd e5 z⟩
  rw [hl] at m'
  have H := h s' m'
  rw [show s' 69 28 = nI c by rw [m'.2.1 28 (by omega)]; exact e28, nI_1, cl_nI (by omega)]
  refine ⟨vp_in_nI hc (by omega), ?_⟩
  simp only [show ((3 : Int32) = 1) = False from eq_false (by decide), show ((3 : Int32) = 4) = False from eq_false (by decide), show ((3 : Int32) = 6) = False from eq_false (by decide), show ((4 : Int32) ≤ 3) = False from eq_false (by decide), not_true_eq_false, not_false_eq_true, true_implies, false_implies, and_true, true_and]
  exact H
theorem rsT_1 {t : Nat → Nat} {n q c ln : Nat} {Q : ac_m → Prop} {Rr : (ac_m → Prop) → ac_m → Prop} {s : ac_m} (T : MT s t n) (hq : q ≤ n) (e4 : s 69 4 = nI q) (e5 : s 69 5 = 0) (hl : rl t n q = ln) (e28 : s 69 28 = nI c) (hc : c < 80) (h : ∀ s', mvM s s' (q + ln) → (fun s => rmN 0 (fun s => s 73 1 - 1) (476 + c) 1 (fun s => rmN 0 (fun s => s 73 0 - 1) (476 + c) 2 (fun s => rmF (476 + c) Q s) s) s) (ac_u (ac_u s' 69 28 (nI (c + 1))) (476 + c) 0 (1 : Int32))) : rsT Q Rr (1 : Int32) s := by
  unfold rsT
  refine ⟨fun _ => m_skipWord T hq e4 (fun s' m' => ?_), fun z => absurd e5 z⟩
  rw [hl] at m'
  have H := h s' m'
  rw [show s' 69 28 = nI c by rw [m'.2.1 28 (by omega)]; exact e28, nI_1, cl_nI (by omega)]
  refine ⟨vp_in_nI hc (by omega), ?_⟩
  simp only [show ((1 : Int32) = 4) = False from eq_false (by decide), show ((1 : Int32) = 6) = False from eq_false (by decide), show ((1 : Int32) = 1) = True from eq_true rfl, show ((4 : Int32) ≤ 1) = False from eq_false (by decide), not_true_eq_false, not_false_eq_true, true_implies, false_implies, and_true, true_and]
  exact H
theorem rsT_4 {t : Nat → Nat} {n q c ln : Nat} {Q : ac_m → Prop} {Rr : (ac_m → Prop) → ac_m → Prop} {s : ac_m} (T : MT s t n) (hq : q ≤ n) (e4 : s 69 4 = nI q) (e5 : s 69 5 = 0) (hl : rl t n q = ln) (e28 : s 69 28 = nI c) (hc : c < 80) (h : ∀ s', mvM s s' (q + ln) → (fun s => rmN 0 (fun s => s 73 0 - 1) (476 + c) 1 (fun s => rmN 1 (fun _ => 60) (476 + c) 2 (fun s => rmF (476 + c) Q s) s) s) (ac_u (ac_u s' 69 28 (nI (c + 1))) (476 + c) 0 (4 : Int32))) : rsT Q Rr (4 : Int32) s := by
  unfold rsT
  refine ⟨fun _ => m_skipWord T hq e4 (fun s' m' => ?_), fun z => absurd e5 z⟩
  rw [hl] at m'
  have H := h s' m'
  rw [show s' 69 28 = nI c by rw [m'.2.1 28 (by omega)]; exact e28, nI_1, cl_nI (by omega)]
  refine ⟨vp_in_nI hc (by omega), ?_⟩
  simp only [show ((4 : Int32) = 1) = False from eq_false (by decide), show ((4 : Int32) = 6) = False from eq_false (by decide), show ((4 : Int32) = 4) = True from eq_true rfl, show ((4 : Int32) ≤ 4) = True from eq_true (by decide), not_true_eq_false, not_false_eq_true, true_implies, false_implies, and_true, true_and]
  exact H
theorem rsT_5 {t : Nat → Nat} {n q c ln : Nat} {Q : ac_m → Prop} {Rr : (ac_m → Prop) → ac_m → Prop} {s : ac_m} (T : MT s t n) (hq : q ≤ n) (e4 : s 69 4 = nI q) (e5 : s 69 5 = 0) (hl : rl t n q = ln) (e28 : s 69 28 = nI c) (hc : c < 80) (h : ∀ s', mvM s s' (q + ln) → (fun s => rmF (476 + c) Q s) (ac_u (ac_u s' 69 28 (nI (c + 1))) (476 + c) 0 (5 : Int32))) : rsT Q Rr (5 : Int32) s := by
  unfold rsT
  refine ⟨fun _ => m_skipWord T hq e4 (fun s' m' => ?_), fun z => absurd e5 z⟩
  rw [hl] at m'
  have H := h s' m'
  rw [show s' 69 28 = nI c by rw [m'.2.1 28 (by omega)]; exact e28, nI_1, cl_nI (by omega)]
  refine ⟨vp_in_nI hc (by omega), ?_⟩
  simp only [show ((5 : Int32) = 1) = False from eq_false (by decide), show ((5 : Int32) = 4) = False from eq_false (by decide), show ((5 : Int32) = 6) = False from eq_false (by decide), show ((4 : Int32) ≤ 5) = True from eq_true (by decide), not_true_eq_false, not_false_eq_true, true_implies, false_implies, and_true, true_and]
  exact H
def rsL (Rr : (ac_m → Prop) → ac_m → Prop) (X : ac_m → Prop) (s : ac_m) : Prop := ∀ P : ac_m → Prop, (∀ (s : ac_m), ((¬ (s 69 5) = 0 → (w_X12_sign (93 : Int32) X s)) ∧ ((s 69 5) = 0 → (w_X12_byteAt (s 69 4) (fun r180 s180 => (r180 = (93 : Int32) → (w_X12_sign (93 : Int32) X s180)) ∧ (¬ r180 = (93 : Int32) → (Rr (fun s189 => w_X12_blanks (fun s193 => P s193) s189) s180))) s))) → P s) → P s
def rmP (row : Nat) (Q : ac_m → Prop) (s : ac_m) : Prop := Q (ac_u (ac_u s 69 8 ((s 69 8) - (1 : Int32))) row 3 ((ac_u s 69 8 ((s 69 8) - (1 : Int32))) 69 28))
def rmB (Rr : (ac_m → Prop) → ac_m → Prop) (X : ac_m → Prop) (s : ac_m) : Prop := w_X12_blanks (fun s1 => rsL Rr X s1) s
theorem rsT_6 {t : Nat → Nat} {n q c ln : Nat} {Q : ac_m → Prop} {Rr : (ac_m → Prop) → ac_m → Prop} {s : ac_m} (T : MT s t n) (hq : q ≤ n) (e4 : s 69 4 = nI q) (e5 : s 69 5 = 0) (hl : rl t n q = ln) (e28 : s 69 28 = nI c) (hc : c < 80) (h : ∀ s', mvM s s' (q + ln) → (fun s => rmN 0 (fun _ => 60) (476 + c) 1 (fun s => w_X12_sign (nI 91) (fun s => rmB Rr (fun s => rmP (476 + c) (fun s => w_X12_sign (nI 59) Q s) s) s) s) s) (ac_u (ac_u s' 69 28 (nI (c + 1))) (476 + c) 0 (6 : Int32))) : rsT Q Rr (6 : Int32) s := by
  unfold rsT
  refine ⟨fun _ => m_skipWord T hq e4 (fun s' m' => ?_), fun z => absurd e5 z⟩
  rw [hl] at m'
  have H := h s' m'
  rw [show s' 69 28 = nI c by rw [m'.2.1 28 (by omega)]; exact e28, nI_1, cl_nI (by omega)]
  refine ⟨vp_in_nI hc (by omega), ?_⟩
  simp only [show ((6 : Int32) = 1) = False from eq_false (by decide), show ((6 : Int32) = 4) = False from eq_false (by decide), show ((6 : Int32) = 6) = True from eq_true rfl, show ((4 : Int32) ≤ 6) = True from eq_true (by decide), not_true_eq_false, not_false_eq_true, true_implies, false_implies, and_true, true_and]
  exact H
