/-! READERS SIDE BY SIDE: the class's reader with two ends (Z fault, Y went on), and the reference's -/
theorem nI_inj {a b : Nat} (ha : a < 2147483648) (hb : b < 2147483648) (h : nI a = nI b) : a = b := by
  have := congrArg Int32.toNatClampNeg h
  rwa [cl_nI ha, cl_nI hb] at this
def frc (D : Nat → Prop) (s s' : ac_m) : Prop := (∀ y, y ≠ 1 → ¬ D y → s' y = s y) ∧ s' 1 1 = s 1 1 ∧ s' 1 2 = s 1 2
def frm (D E : Nat → Prop) (s s' : ac_m) : Prop := (∀ y, y ≠ 69 → ¬ D y → s' y = s y) ∧ (∀ j, j ≠ 4 → j ≠ 5 → j ≠ 6 → ¬ E j → s' 69 j = s 69 j)
theorem frc.trans {D : Nat → Prop} {s s1 s2 : ac_m} (h : frc D s s1) (k : frc D s1 s2) : frc D s s2 := ⟨fun y y1 y2 => (k.1 y y1 y2).trans (h.1 y y1 y2), k.2.1.trans h.2.1, k.2.2.trans h.2.2⟩
theorem frm.trans {D E : Nat → Prop} {s s1 s2 : ac_m} (h : frm D E s s1) (k : frm D E s1 s2) : frm D E s s2 := ⟨fun y y1 y2 => (k.1 y y1 y2).trans (h.1 y y1 y2), fun j a b c d => (k.2 j a b c d).trans (h.2 j a b c d)⟩
theorem frc.rf {D : Nat → Prop} {s : ac_m} : frc D s s := ⟨fun _ _ _ => rfl, rfl, rfl⟩
theorem frm.rf {D E : Nat → Prop} {s : ac_m} : frm D E s s := ⟨fun _ _ _ => rfl, fun _ _ _ _ _ => rfl⟩
theorem frc_mv {D : Nat → Prop} {s s' : ac_m} {p k : Nat} (m : mv s s' p k) : frc D s s' := ⟨fun y y1 _ => m.1 y y1, m.2.1 1 (by omega) (by omega), m.2.1 2 (by omega) (by omega)⟩
theorem frc_fl {D : Nat → Prop} {s s' : ac_m} {kd pl : Nat} (m : fl s s' kd pl) : frc D s s' := ⟨fun y y1 _ => m.1 y y1, m.2.1 1 (by omega) (by omega) (by omega) (by omega), m.2.1 2 (by omega) (by omega) (by omega) (by omega)⟩
theorem frm_mv {D E : Nat → Prop} {s s' : ac_m} {p : Nat} (m : mvM s s' p) : frm D E s s' := ⟨fun y y1 _ => m.1 y y1, fun j a _ _ _ => m.2.1 j a⟩
theorem frm_fl {D E : Nat → Prop} {s s' : ac_m} {n kd pl : Nat} (m : flM s s' n kd pl) : frm D E s s' := ⟨fun y y1 _ => m.1 y y1, fun j a b c _ => m.2.1 j a b c⟩
theorem frc_u {D : Nat → Prop} {s s' : ac_m} {r k : Nat} {x : Int32} (h : frc D s s') (d : D r) (r1 : r ≠ 1) : frc D s (ac_u s' r k x) := ⟨fun y y1 y2 => by rw [u_ne (show y ≠ r from fun e => y2 (by rw [e]; exact d))]; exact h.1 y y1 y2, by rw [u_ne (Ne.symm r1)]; exact h.2.1, by rw [u_ne (Ne.symm r1)]; exact h.2.2⟩
theorem frm_u {D E : Nat → Prop} {s s' : ac_m} {r k : Nat} {x : Int32} (h : frm D E s s') (d : D r) (r1 : r ≠ 69) : frm D E s (ac_u s' r k x) := ⟨fun y y1 y2 => by rw [u_ne (show y ≠ r from fun e => y2 (by rw [e]; exact d))]; exact h.1 y y1 y2, fun j a b c e => by rw [u_ne (Ne.symm r1)]; exact h.2 j a b c e⟩
theorem frm_u69 {D E : Nat → Prop} {s s' : ac_m} {k : Nat} {x : Int32} (h : frm D E s s') (d : E k) : frm D E s (ac_u s' 69 k x) := ⟨fun y y1 y2 => by rw [u_ne y1]; exact h.1 y y1 y2, fun j a b c e => by rw [u_at (show j ≠ k from fun z => e (by rw [z]; exact d))]; exact h.2 j a b c e⟩
theorem CT_frc {D : Nat → Prop} {s s1 : ac_m} {t : Nat → Nat} {n : Nat} (d : ¬ D 2) (T : CT s t n) (h : frc D s s1) : CT s1 t n := ⟨h.2.2.trans T.1, T.2.1, fun j hj => by rw [h.1 2 (by omega) d]; exact T.2.2 j hj⟩
theorem MT_frm {D E : Nat → Prop} {s s1 : ac_m} {t : Nat → Nat} {n : Nat} (d : ¬ D 70) (e : ¬ E 2) (T : MT s t n) (h : frm D E s s1) : MT s1 t n := ⟨(h.2 2 (by omega) (by omega) (by omega) e).trans T.1, T.2.1, fun j hj => by rw [h.1 70 (by omega) d]; exact T.2.2 j hj⟩
def hxA (D : Nat → Prop) (t : Nat → Nat) (n : Nat) (RC : (ac_m → Prop) → (ac_m → Prop) → ac_m → Prop) (q : Nat) (A : ac_m → Prop) {α : Type} (A' : α → ac_m → Prop) (o : (Nat × Nat) ⊕ (Nat × α)) : Prop :=
  ∀ (Z Y : ac_m → Prop) (s : ac_m) (p : Nat), CT s t n → p ≤ n → skb t n p = q → s 1 3 = nI p → A s →
    (∀ q' x, o = .inr (q', x) → ∀ s', frc D s s' → s' 1 6 = s 1 6 → (∃ p', p' ≤ n ∧ skb t n p' = q' ∧ s' 1 3 = nI p') → A' x s' → Y s') →
    (∀ kd pl, o = .inl (kd, pl) → ∀ s', frc D s s' → s' 1 5 = nI kd → s' 1 6 = nI pl → Z s') → RC Z Y s
def hxM (D E : Nat → Prop) (t : Nat → Nat) (n : Nat) (RM : (ac_m → Prop) → ac_m → Prop) (q : Nat) (M : ac_m → Prop) {α : Type} (M' : α → ac_m → Prop) (o : (Nat × Nat) ⊕ (Nat × α)) : Prop :=
  ∀ (Q : ac_m → Prop) (s : ac_m) (p : Nat), MT s t n → p ≤ n → skb t n p = q → s 69 4 = nI p → s 69 5 = 0 → M s →
    (∀ q' x, o = .inr (q', x) → ∀ s', frm D E s s' → s' 69 5 = 0 → (∃ p', p' ≤ n ∧ skb t n p' = q' ∧ s' 69 4 = nI p') → M' x s' → Q s') →
    (∀ kd pl, o = .inl (kd, pl) → ∀ s', frm D E s s' → s' 69 5 = nI kd → s' 69 6 = nI pl → (∃ r, r ≤ n ∧ s' 69 4 = nI r) → Q s') → RM Q s
def hxG (t : Nat → Nat) (n q : Nat) {α : Type} (P : Nat → α → Prop) (o : (Nat × Nat) ⊕ (Nat × α)) : Prop :=
  (∀ q' x, o = .inr (q', x) → q ≤ q' ∧ q' ≤ n ∧ skb t n q' = q' ∧ P q' x) ∧ (∀ kd pl, o = .inl (kd, pl) → kd = 1 ∨ kd = 2 ∨ kd = 3)
def HX (DC DM E : Nat → Prop) (t : Nat → Nat) (n : Nat) (RC : (ac_m → Prop) → (ac_m → Prop) → ac_m → Prop) (RM : (ac_m → Prop) → ac_m → Prop) (q : Nat) (A M : ac_m → Prop) {α : Type} (A' M' : α → ac_m → Prop) (P : Nat → α → Prop) : Prop :=
  ∃ o : (Nat × Nat) ⊕ (Nat × α), hxA DC t n RC q A A' o ∧ hxM DM E t n RM q M M' o ∧ hxG t n q P o
def PFx (D E : Nat → Prop) (t : Nat → Nat) (n : Nat) (RM : (ac_m → Prop) → ac_m → Prop) : Prop :=
  ∀ (Q : ac_m → Prop) (s : ac_m), MT s t n → ¬ s 69 5 = 0 → (∃ r, r ≤ n ∧ s 69 4 = nI r) → (∀ s', frm D E s s' → s' 69 5 = s 69 5 → s' 69 6 = s 69 6 → (∃ r, r ≤ n ∧ s' 69 4 = nI r) → Q s') → RM Q s
def hxW (DC DM E : Nat → Prop) : Prop := ¬ DC 2 ∧ ¬ DM 70 ∧ ¬ E 2
theorem PFx_seq {D E : Nat → Prop} {t : Nat → Nat} {n : Nat} {RM1 RM2 : (ac_m → Prop) → ac_m → Prop} (d : ¬ D 70) (e : ¬ E 2) (h1 : PFx D E t n RM1) (h2 : PFx D E t n RM2) : PFx D E t n (fun Q s => RM1 (RM2 Q) s) := by
  intro Q s T f5 r4 k
  refine h1 (RM2 Q) s T f5 r4 (fun s1 fr g5 g6 r41 => ?_)
  refine h2 Q s1 (MT_frm d e T fr) (by rw [g5]; exact f5) r41 (fun s2 fr2 g52 g62 r42 => k s2 (fr.trans fr2) (g52.trans g5) (g62.trans g6) r42)
theorem HX_seq {DC DM E : Nat → Prop} {t : Nat → Nat} {n q : Nat} {RC1 RC2 : (ac_m → Prop) → (ac_m → Prop) → ac_m → Prop} {RM1 RM2 : (ac_m → Prop) → ac_m → Prop} {α β : Type} {A M : ac_m → Prop} {A1 M1 : α → ac_m → Prop} {A2 M2 : β → ac_m → Prop} {P1 : Nat → α → Prop} {P2 : Nat → β → Prop} (W : hxW DC DM E)
    (h1 : HX DC DM E t n RC1 RM1 q A M A1 M1 P1) (pf : PFx DM E t n RM2) (h2 : ∀ q1 x, q ≤ q1 → q1 ≤ n → skb t n q1 = q1 → P1 q1 x → HX DC DM E t n RC2 RM2 q1 (A1 x) (M1 x) A2 M2 P2) :
    HX DC DM E t n (fun Z Y s => RC1 Z (RC2 Z Y) s) (fun Q s => RM1 (RM2 Q) s) q A M A2 M2 P2 := by
  obtain ⟨o, hC, hM, hG⟩ := h1
  rcases o with ⟨kd, pl⟩ | ⟨q1, x⟩
  · refine ⟨.inl (kd, pl), ?_, ?_, fun _ _ e => (by cases e), fun a b e => hG.2 a b (by cases e; rfl)⟩
    · intro Z Y s p T hp hs e3 a k1 k0
      exact hC Z (RC2 Z Y) s p T hp hs e3 a (fun _ _ e => (by cases e)) (fun a b e s' f g5 g6 => k0 a b (by cases e; rfl) s' f g5 g6)
    · intro Q s p T hp hs e4 e5 m k1 k0
      refine hM (RM2 Q) s p T hp hs e4 e5 m (fun _ _ e => (by cases e)) (fun a b e s' f g5 g6 r4 => ?_)
      cases e
      refine pf Q s' (MT_frm W.2.1 W.2.2 T f) (by rw [g5]; exact nI_k (hG.2 kd pl rfl)) r4 (fun s2 f2 g52 g62 r42 => k0 kd pl rfl s2 (f.trans f2) (g52.trans g5) (g62.trans g6) r42)
  · obtain ⟨b1, b2, b3, b4⟩ := hG.1 q1 x rfl
    obtain ⟨o2, hC2, hM2, hG2⟩ := h2 q1 x b1 b2 b3 b4
    refine ⟨o2, ?_, ?_, fun q' y e => ?_, hG2.2⟩
    · intro Z Y s p T hp hs e3 a k1 k0
      refine hC Z (RC2 Z Y) s p T hp hs e3 a (fun q' x' e s1 f1 g6 pp a1 => ?_) (fun _ _ e => (by cases e))
      cases e
      obtain ⟨p1, hp1, sp1, ep1⟩ := pp
      exact hC2 Z Y s1 p1 (CT_frc W.1 T f1) hp1 sp1 ep1 a1 (fun q' x' e s2 f2 g62 pp a2 => k1 q' x' e s2 (f1.trans f2) (g62.trans g6) pp a2) (fun kd pl e s2 f2 b c => k0 kd pl e s2 (f1.trans f2) b c)
    · intro Q s p T hp hs e4 e5 m k1 k0
      refine hM (RM2 Q) s p T hp hs e4 e5 m (fun q' x' e s1 f1 g5 pp m1 => ?_) (fun _ _ e => (by cases e))
      cases e
      obtain ⟨p1, hp1, sp1, ep1⟩ := pp
      exact hM2 Q s1 p1 (MT_frm W.2.1 W.2.2 T f1) hp1 sp1 ep1 g5 m1 (fun q' x' e s2 f2 g52 pp a2 => k1 q' x' e s2 (f1.trans f2) g52 pp a2) (fun kd pl e s2 f2 b c d => k0 kd pl e s2 (f1.trans f2) b c d)
    · obtain ⟨c1, c2, c3, c4⟩ := hG2.1 q' y e
      exact ⟨Nat.le_trans b1 c1, c2, c3, c4⟩
def rcI (r2 n2 k : Nat) (lo : Int32) (hc : ac_m → Int32) (Z Y : ac_m → Prop) (s : ac_m) : Prop := w_X3_readInto r2 n2 (nI k) lo (hc s) (fun r s1 => (r = 0 → Z s1) ∧ (¬ r = 0 → Y s1)) s
def rmN (lo : Int32) (hm : ac_m → Int32) (row sl : Nat) (Q : ac_m → Prop) (s : ac_m) : Prop := w_X12_number lo (hm s) (fun r s1 => Q (ac_u s1 row sl r)) s
theorem PF_num {D E : Nat → Prop} {t : Nat → Nat} {n row sl : Nat} {lo : Int32} {hm : ac_m → Int32} (d : D row) (m69 : row ≠ 69) : PFx D E t n (rmN lo hm row sl) := by
  intro Q s T f5 r4 k
  unfold rmN w_X12_number
  refine ⟨fun z => absurd z f5, fun _ => k _ (frm_u frm.rf d m69) (by rw [u_ne (Ne.symm m69)]) (by rw [u_ne (Ne.symm m69)]) (by rw [u_ne (Ne.symm m69)]; exact r4)⟩
theorem HX_num {DC DM E : Nat → Prop} {t : Nat → Nat} {n q r2 n2 k row sl : Nat} {lo hi : Int32} {hc hm : ac_m → Int32} {A M : ac_m → Prop} {A' M' : Nat → ac_m → Prop} (hq : q ≤ n) (qq : skb t n q = q) (hk : k < n2) (hn : n2 < 2147483647) (d2 : DC r2) (r1 : r2 ≠ 1) (dm : DM row) (m69 : row ≠ 69)
    (hC : ∀ s, A s → hc s = hi) (hM : ∀ s, M s → hm s = hi) (sA : ∀ s s1 a e, A s → mv s s1 e q → A' a (ac_u s1 r2 k (nI a))) (sM : ∀ s s1 a e, M s → mvM s s1 e → M' a (ac_u s1 row sl (nI a))) :
    HX DC DM E t n (rcI r2 n2 k lo hc) (rmN lo hm row sl) q A M A' M' (fun q' a => q < q' ∧ a ≤ 100000 ∧ ¬ nI a < lo ∧ nI a ≤ hi) := by
  by_cases d : dg (ch t n q)
  · have e1 := nmE_gt d
    by_cases c : ¬ nI (nmV t n q) < lo ∧ nI (nmV t n q) ≤ hi
    · have sk := skb_le' (t := t) e1.2
      refine ⟨.inr (skb t n (nmE t n q), nmV t n q), ?_, ?_, fun q' x e => ?_, fun _ _ e => (by cases e)⟩
      · intro Z Y s p T hp hs e3 a k1 k0
        unfold rcI
        rw [hC s a]
        refine c_into T hp hs e3 hk hn (fun _ _ _ s1 m1 => ⟨fun z => absurd z (by decide), fun _ => k1 _ _ rfl _ (frc_u (frc_mv m1) d2 r1) ?_ ⟨_, e1.2, rfl, ?_⟩ (sA s s1 _ _ a m1)⟩) (fun z => absurd d z) (fun _ z => absurd c z)
        · rw [u_ne (Ne.symm r1)]; exact m1.2.1 6 (by omega) (by omega)
        · rw [u_ne (Ne.symm r1)]; exact m1.2.2.1
      · intro Q s p T hp hs e4 e5 m k1 k0
        unfold rmN
        rw [hM s m]
        subst hs
        refine m_num T hp e4 e5 (fun _ _ _ s1 m1 => k1 _ _ rfl _ (frm_u (frm_mv m1) dm m69) ?_ ⟨_, e1.2, rfl, ?_⟩ (sM s s1 _ _ m m1)) (fun z => absurd d z) (fun _ z => absurd c z)
        · rw [u_ne (Ne.symm m69), m1.2.1 5 (by omega)]; exact e5
        · rw [u_ne (Ne.symm m69)]; exact m1.2.2
      · cases e
        exact ⟨by omega, sk.2.1, skb_0 sk.2.2, by omega, nmV_bd, c.1, c.2⟩
    · refine ⟨.inl (2, q), ?_, ?_, fun _ _ e => (by cases e), fun a b e => (by cases e; omega)⟩
      · intro Z Y s p T hp hs e3 a k1 k0
        unfold rcI
        rw [hC s a]
        exact c_into T hp hs e3 hk hn (fun _ z1 z2 => absurd ⟨z1, z2⟩ c) (fun z => absurd d z) (fun _ _ s1 f1 => ⟨fun _ => k0 2 q rfl s1 (frc_fl f1) f1.2.2.1 f1.2.2.2, fun z => absurd rfl z⟩)
      · intro Q s p T hp hs e4 e5 m k1 k0
        unfold rmN
        rw [hM s m]
        subst hs
        refine m_num T hp e4 e5 (fun _ z1 z2 => absurd ⟨z1, z2⟩ c) (fun z => absurd d z) (fun _ _ s1 f1 => k0 2 _ rfl _ (frm_u (frm_fl f1) dm m69) ?_ ?_ ?_)
        · rw [u_ne (Ne.symm m69)]; exact f1.2.2.1
        · rw [u_ne (Ne.symm m69)]; exact f1.2.2.2.1
        · rw [u_ne (Ne.symm m69)]; exact f1.2.2.2.2
  · refine ⟨.inl (1, q), ?_, ?_, fun _ _ e => (by cases e), fun a b e => (by cases e; omega)⟩
    · intro Z Y s p T hp hs e3 a k1 k0
      unfold rcI
      rw [hC s a]
      exact c_into T hp hs e3 hk hn (fun z => absurd z d) (fun _ s1 f1 => ⟨fun _ => k0 1 q rfl s1 (frc_fl f1) f1.2.2.1 f1.2.2.2, fun z => absurd rfl z⟩) (fun z => absurd z d)
    · intro Q s p T hp hs e4 e5 m k1 k0
      unfold rmN
      rw [hM s m]
      subst hs
      refine m_num T hp e4 e5 (fun z => absurd z d) (fun _ s1 f1 => k0 1 _ rfl _ (frm_u (frm_fl f1) dm m69) ?_ ?_ ?_) (fun z => absurd z d)
      · rw [u_ne (Ne.symm m69)]; exact f1.2.2.1
      · rw [u_ne (Ne.symm m69)]; exact f1.2.2.2.1
      · rw [u_ne (Ne.symm m69)]; exact f1.2.2.2.2
def rcS (c : Nat) (Z Y : ac_m → Prop) (s : ac_m) : Prop := w_X10_expects (nI c) (fun r s1 => (r = 0 → Z s1) ∧ (¬ r = 0 → Y s1)) s
theorem PF_sg {D E : Nat → Prop} {t : Nat → Nat} {n : Nat} {c : Int32} : PFx D E t n (w_X12_sign c) := by
  intro Q s T f5 r4 k
  unfold w_X12_sign
  exact ⟨fun z => absurd z f5, fun _ => k _ frm.rf rfl rfl r4⟩
theorem HX_sg {DC DM E : Nat → Prop} {t : Nat → Nat} {n q c : Nat} {A M : ac_m → Prop} {A' M' : Unit → ac_m → Prop} (hq : q ≤ n) (qq : skb t n q = q) (hc : c < 128)
    (sA : ∀ s s1 e f, A s → mv s s1 e f → A' () s1) (sM : ∀ s s1 e, M s → mvM s s1 e → M' () s1) :
    HX DC DM E t n (rcS c) (w_X12_sign (nI c)) q A M A' M' (fun q' _ => q < q') := by
  by_cases d : ch t n q = c
  · have e1 : q + 1 ≤ n := by
      rcases Nat.lt_or_ge q n with z | z
      · exact z
      · rw [ch_end z] at d; omega
    have sk := skb_le' (t := t) e1
    refine ⟨.inr (skb t n (q + 1), ()), ?_, ?_, fun q' x e => ?_, fun _ _ e => (by cases e)⟩
    · intro Z Y s p T hp hs e3 a k1 k0
      subst hs
      unfold rcS
      exact c_expects T hp e3 hc (fun _ s1 m1 => ⟨fun z => absurd z (by decide), fun _ => k1 _ _ rfl s1 (frc_mv m1) (m1.2.1 6 (by omega) (by omega)) ⟨_, e1, rfl, m1.2.2.1⟩ (sA s s1 _ _ a m1)⟩) (fun z => absurd d z)
    · intro Q s p T hp hs e4 e5 m k1 k0
      subst hs
      exact m_sign T hp e4 e5 hc (fun _ s1 m1 => k1 _ _ rfl s1 (frm_mv m1) (by rw [m1.2.1 5 (by omega)]; exact e5) ⟨_, e1, rfl, m1.2.2⟩ (sM s s1 _ m m1)) (fun z => absurd d z)
    · cases e
      exact ⟨by omega, sk.2.1, skb_0 sk.2.2, by omega⟩
  · refine ⟨.inl (1, q), ?_, ?_, fun _ _ e => (by cases e), fun a b e => (by cases e; omega)⟩
    · intro Z Y s p T hp hs e3 a k1 k0
      subst hs
      unfold rcS
      exact c_expects T hp e3 hc (fun z => absurd z d) (fun _ s1 f1 => ⟨fun _ => k0 1 _ rfl s1 (frc_fl f1) f1.2.2.1 f1.2.2.2, fun z => absurd rfl z⟩)
    · intro Q s p T hp hs e4 e5 m k1 k0
      subst hs
      exact m_sign T hp e4 e5 hc (fun z => absurd z d) (fun _ s1 f1 => k0 1 _ rfl s1 (frm_fl f1) f1.2.2.1 f1.2.2.2.1 f1.2.2.2.2)
def rcU (r1 n1 r2 n2 k : Nat) (lo : Int32) (hc : ac_m → Int32) (Z Y : ac_m → Prop) (s : ac_m) : Prop := w_X3_readInto r2 n2 (nI k) lo (hc s) (fun r s1 => (r = 0 → Z s1) ∧ (¬ r = 0 → w_X3_areUnlike r1 n1 r2 n2 (nI k) (fun r s2 => (r = 0 → Z s2) ∧ (¬ r = 0 → Y s2)) s1)) s
def rmU (hm : ac_m → Int32) (row sl0 sl : Nat) (Q : ac_m → Prop) (s : ac_m) : Prop := w_X12_another (s row sl0) (hm s) (fun r s1 => Q (ac_u s1 row sl r)) s
theorem PF_an {D E : Nat → Prop} {t : Nat → Nat} {n row sl0 sl : Nat} {hm : ac_m → Int32} (d : D row) (m69 : row ≠ 69) : PFx D E t n (rmU hm row sl0 sl) := by
  intro Q s T f5 r4 k
  obtain ⟨r, hr, er⟩ := r4
  have sk := skb_le' (t := t) hr
  unfold rmU w_X12_another
  refine m_blanks T hr er (fun s1 m1 => ?_)
  have g5 : ¬ s1 69 5 = 0 := by rw [m1.2.1 5 (by omega)]; exact f5
  unfold w_X12_number
  refine ⟨fun z => absurd z g5, fun _ => ⟨fun _ => k _ (frm_u (frm_mv m1) d m69) ?_ ?_ ⟨_, sk.2.1, ?_⟩, fun z => absurd z g5⟩⟩
  · rw [u_ne (Ne.symm m69)]; exact m1.2.1 5 (by omega)
  · rw [u_ne (Ne.symm m69)]; exact m1.2.1 6 (by omega)
  · rw [u_ne (Ne.symm m69)]; exact m1.2.2
theorem c_unlike {r1 n1 r2 n2 k x v q : Nat} {Q : Int32 → ac_m → Prop} {s : ac_m} (k1 : k < n1) (k2 : k < n2) (h1 : n1 < 2147483647) (h2 : n2 < 2147483647) (e1 : s r1 k = nI x) (e2 : s r2 k = nI v) (hx : x < 2147483648) (hv : v < 2147483648) (e4 : s 1 4 = nI q) (hN : x ≠ v → Q 1 s) (hE : x = v → ∀ s', fl s s' 2 q → Q 0 s') : w_X3_areUnlike r1 n1 r2 n2 (nI k) Q s := by
  unfold w_X3_areUnlike
  refine ⟨fun z => absurd z (nI_pos (by omega)), fun _ => ⟨fun z => absurd (show nI n1 ≤ nI k from z) (nI_ge k1 (by omega)), fun _ => ⟨fun z => absurd (show nI n2 ≤ nI k from z) (nI_ge k2 (by omega)), fun _ => ⟨vp_in_nI k1 (by omega), vp_in_nI k2 (by omega), ?_⟩⟩⟩⟩
  rw [cl_nI (by omega), e1, e2]
  exact ⟨fun z => hN (fun e => z (by rw [e])), fun z => c_fail (kd := 2) e4 (fun s' f => ⟨bo_0, hE (nI_inj hx hv z) s' f⟩)⟩
theorem HX_an {DC DM E : Nat → Prop} {t : Nat → Nat} {n q r1 n1 r2 n2 k row sl0 sl x : Nat} {hi : Int32} {hc hm : ac_m → Int32} {A M : ac_m → Prop} {A' M' : Nat → ac_m → Prop} (hq : q ≤ n) (qq : skb t n q = q) (hk : k < n2) (hn : n2 < 2147483647) (hk1 : k < n1) (hn1 : n1 < 2147483647) (d2 : DC r2) (r21 : r2 ≠ 1) (r11 : r1 ≠ 1) (r12 : r1 ≠ r2) (dm : DM row) (m69 : row ≠ 69) (hx : x ≤ 100000)
    (hC : ∀ s, A s → hc s = hi ∧ s r1 k = nI x) (hM : ∀ s, M s → hm s - 1 = hi ∧ s row sl0 = nI x) (sA : ∀ s s1 a e, A s → mv s s1 e q → A' a (ac_u s1 r2 k (nI a))) (sM : ∀ s s1 a e, M s → mvM s s1 e → M' a (ac_u s1 row sl (nI a))) :
    HX DC DM E t n (rcU r1 n1 r2 n2 k 0 hc) (rmU hm row sl0 sl) q A M A' M' (fun q' a => q < q' ∧ a ≤ 100000 ∧ nI a ≤ hi ∧ x ≠ a) := by
  have bd : nmV t n q ≤ 100000 := nmV_bd
  have qm : ∀ {p s}, MT s t n → p ≤ n → skb t n p = q → s 69 4 = nI p → s 69 5 = 0 → ∀ {Q : ac_m → Prop}, (∀ s1, mvM s s1 q → s1 69 4 = nI q → s1 69 5 = 0 → w_X12_number 0 (hm s - 1) (fun r14 s14 => (¬ (s14 69 5) = 0 → Q (ac_u s14 row sl r14)) ∧ ((s14 69 5) = 0 → ((¬ s row sl0 = r14 → Q (ac_u s14 row sl r14)) ∧ (s row sl0 = r14 → (w_X12_wrong 2 (nI q) (fun s35 => Q (ac_u s35 row sl r14)) s14))))) s1) → rmU hm row sl0 sl Q s := by
    intro p s T hp hs e4 e5 Q k
    subst hs
    unfold rmU w_X12_another
    refine m_blanks T hp e4 (fun s1 m1 => ?_)
    have := k s1 m1 m1.2.2 (by rw [m1.2.1 5 (by omega)]; exact e5)
    rw [m1.2.2]
    exact this
  by_cases d : dg (ch t n q)
  · have e1 := nmE_gt d
    by_cases c : ¬ nI (nmV t n q) < 0 ∧ nI (nmV t n q) ≤ hi
    · have sk := skb_le' (t := t) e1.2
      by_cases cx : x = nmV t n q
      · refine ⟨.inl (2, q), ?_, ?_, fun _ _ e => (by cases e), fun a b e => (by cases e; omega)⟩
        · intro Z Y s p T hp hs e3 a k1 k0
          unfold rcU
          rw [(hC s a).1]
          refine c_into T hp hs e3 hk hn (fun _ _ _ s1 m1 => ⟨fun z => absurd z (by decide), fun _ => ?_⟩) (fun z => absurd d z) (fun _ z => absurd c z)
          refine c_unlike (x := x) (v := nmV t n q) (q := q) hk1 hk hn1 hn ?_ u_eq (by omega) (by omega) ?_ (fun z => absurd cx z) (fun _ s2 f2 => ⟨fun _ => k0 2 q rfl s2 ((frc_u (frc_mv m1) d2 r21).trans (frc_fl f2)) f2.2.2.1 f2.2.2.2, fun z => absurd rfl z⟩)
          · rw [u_ne r12, m1.1 r1 r11]; exact (hC s a).2
          · rw [u_ne (Ne.symm r21)]; exact m1.2.2.2
        · intro Q s p T hp hs e4 e5 m k1 k0
          refine qm T hp hs e4 e5 (fun s1 m1 e41 e51 => ?_)
          rw [(hM s m).1, (hM s m).2]
          refine m_num (MT_mv T m1) hq e41 e51 (fun _ _ _ s2 m2 => ?_) (fun z => absurd d (by rw [qq] at z; exact z)) (fun _ z => absurd c (by rw [qq] at z; exact z))
          rw [qq] at m2 ⊢
          have e52 : s2 69 5 = 0 := by rw [m2.2.1 5 (by omega)]; exact e51
          refine ⟨fun z => absurd e52 z, fun _ => ⟨fun z => absurd (by rw [cx]) z, fun _ => ?_⟩⟩
          refine m_wrong0 (kd := 2) (n := n) e52 m2.2.2 e1.2 (fun s3 f3 _ => k0 2 q rfl _ (frm_u ((frm_mv (m1.trans m2)).trans (frm_fl f3)) dm m69) ?_ ?_ ?_)
          · rw [u_ne (Ne.symm m69)]; exact f3.2.2.1
          · rw [u_ne (Ne.symm m69)]; exact f3.2.2.2.1
          · rw [u_ne (Ne.symm m69)]; exact f3.2.2.2.2
      · refine ⟨.inr (skb t n (nmE t n q), nmV t n q), ?_, ?_, fun q' x e => ?_, fun _ _ e => (by cases e)⟩
        · intro Z Y s p T hp hs e3 a k1 k0
          unfold rcU
          rw [(hC s a).1]
          refine c_into T hp hs e3 hk hn (fun _ _ _ s1 m1 => ⟨fun z => absurd z (by decide), fun _ => ?_⟩) (fun z => absurd d z) (fun _ z => absurd c z)
          refine c_unlike (x := x) (v := nmV t n q) (q := q) hk1 hk hn1 hn ?_ u_eq (by omega) (by omega) ?_ (fun _ => ⟨fun z => absurd z (by decide), fun _ => k1 _ _ rfl _ (frc_u (frc_mv m1) d2 r21) ?_ ⟨_, e1.2, rfl, ?_⟩ (sA s s1 _ _ a m1)⟩) (fun z => absurd z cx)
          · rw [u_ne r12, m1.1 r1 r11]; exact (hC s a).2
          · rw [u_ne (Ne.symm r21)]; exact m1.2.2.2
          · rw [u_ne (Ne.symm r21)]; exact m1.2.1 6 (by omega) (by omega)
          · rw [u_ne (Ne.symm r21)]; exact m1.2.2.1
        · intro Q s p T hp hs e4 e5 m k1 k0
          refine qm T hp hs e4 e5 (fun s1 m1 e41 e51 => ?_)
          rw [(hM s m).1, (hM s m).2]
          refine m_num (MT_mv T m1) hq e41 e51 (fun _ _ _ s2 m2 => ?_) (fun z => absurd d (by rw [qq] at z; exact z)) (fun _ z => absurd c (by rw [qq] at z; exact z))
          rw [qq] at m2 ⊢
          have e52 : s2 69 5 = 0 := by rw [m2.2.1 5 (by omega)]; exact e51
          refine ⟨fun z => absurd e52 z, fun _ => ⟨fun _ => k1 _ _ rfl _ (frm_u (frm_mv (m1.trans m2)) dm m69) ?_ ⟨_, e1.2, rfl, ?_⟩ (sM s s2 _ _ m (m1.trans m2)), fun z => absurd (nI_inj (by omega) (by omega) z) cx⟩⟩
          · rw [u_ne (Ne.symm m69)]; exact e52
          · rw [u_ne (Ne.symm m69)]; exact m2.2.2
        · cases e
          exact ⟨by omega, sk.2.1, skb_0 sk.2.2, by omega, bd, c.2, cx⟩
    · refine ⟨.inl (2, q), ?_, ?_, fun _ _ e => (by cases e), fun a b e => (by cases e; omega)⟩
      · intro Z Y s p T hp hs e3 a k1 k0
        unfold rcU
        rw [(hC s a).1]
        exact c_into T hp hs e3 hk hn (fun _ z1 z2 => absurd ⟨z1, z2⟩ c) (fun z => absurd d z) (fun _ _ s1 f1 => ⟨fun _ => k0 2 q rfl s1 (frc_fl f1) f1.2.2.1 f1.2.2.2, fun z => absurd rfl z⟩)
      · intro Q s p T hp hs e4 e5 m k1 k0
        refine qm T hp hs e4 e5 (fun s1 m1 e41 e51 => ?_)
        rw [(hM s m).1]
        refine m_num (MT_mv T m1) hq e41 e51 (fun _ z1 z2 => (by rw [qq] at z1 z2; exact absurd ⟨z1, z2⟩ c)) (fun z => absurd d (by rw [qq] at z; exact z)) (fun _ _ s2 f2 => ?_)
        rw [qq] at f2
        have g5 : ¬ s2 69 5 = 0 := by rw [f2.2.2.1]; exact nI_k (by omega)
        refine ⟨fun _ => k0 2 q rfl _ (frm_u ((frm_mv m1).trans (frm_fl f2)) dm m69) ?_ ?_ ?_, fun z => absurd z g5⟩
        · rw [u_ne (Ne.symm m69)]; exact f2.2.2.1
        · rw [u_ne (Ne.symm m69)]; exact f2.2.2.2.1
        · rw [u_ne (Ne.symm m69)]; exact f2.2.2.2.2
  · refine ⟨.inl (1, q), ?_, ?_, fun _ _ e => (by cases e), fun a b e => (by cases e; omega)⟩
    · intro Z Y s p T hp hs e3 a k1 k0
      unfold rcU
      rw [(hC s a).1]
      exact c_into T hp hs e3 hk hn (fun z => absurd z d) (fun _ s1 f1 => ⟨fun _ => k0 1 q rfl s1 (frc_fl f1) f1.2.2.1 f1.2.2.2, fun z => absurd rfl z⟩) (fun z => absurd z d)
    · intro Q s p T hp hs e4 e5 m k1 k0
      refine qm T hp hs e4 e5 (fun s1 m1 e41 e51 => ?_)
      rw [(hM s m).1]
      refine m_num (MT_mv T m1) hq e41 e51 (fun z => absurd z (by rw [qq]; exact d)) (fun _ s2 f2 => ?_) (fun z => absurd z (by rw [qq]; exact d))
      rw [qq] at f2
      have g5 : ¬ s2 69 5 = 0 := by rw [f2.2.2.1]; exact nI_k (by omega)
      refine ⟨fun _ => k0 1 q rfl _ (frm_u ((frm_mv m1).trans (frm_fl f2)) dm m69) ?_ ?_ ?_, fun z => absurd z g5⟩
      · rw [u_ne (Ne.symm m69)]; exact f2.2.2.1
      · rw [u_ne (Ne.symm m69)]; exact f2.2.2.2.1
      · rw [u_ne (Ne.symm m69)]; exact f2.2.2.2.2
/-! HILLS: the three kinds of a clause -/
def hDC (y : Nat) : Prop := 14 ≤ y ∧ y ≤ 24
def hDM (y : Nat) : Prop := y = 72 ∨ (75 ≤ y ∧ y ≤ 80) ∨ (89 ≤ y ∧ y ≤ 100) ∨ (116 ≤ y ∧ y ≤ 125)
def hE (j : Nat) : Prop := j = 7
theorem hWW : hxW hDC hDM hE := ⟨by unfold hDC; omega, by unfold hDM; omega, by unfold hE; omega⟩
def up (w : Nat → Nat → Int32) (k i : Nat) (x : Int32) : Nat → Nat → Int32 := fun k' i' => if k' = k ∧ i' = i then x else w k' i'
theorem up_eq {w : Nat → Nat → Int32} {k i : Nat} {x : Int32} : up w k i x k i = x := if_pos ⟨rfl, rfl⟩
theorem up_k {w : Nat → Nat → Int32} {k i k' i' : Nat} {x : Int32} (h : k' ≠ k) : up w k i x k' i' = w k' i' := if_neg (fun z => h z.1)
theorem up_i {w : Nat → Nat → Int32} {k i k' i' : Nat} {x : Int32} (h : i' ≠ i) : up w k i x k' i' = w k' i' := if_neg (fun z => h z.2)
def cR (s : ac_m) (F B A : Nat) (w : Nat → Nat → Int32) : Prop := s 14 10 = nI F ∧ s 14 11 = nI B ∧ s 14 12 = nI A ∧ ∀ k, k < 9 → ∀ i, s (15 + k) i = w k i
theorem cR_fr {s s' : ac_m} {F B A : Nat} {w : Nat → Nat → Int32} (h : cR s F B A w) (f : ∀ y, hDC y → s' y = s y) : cR s' F B A w :=
  ⟨by rw [f 14 (by unfold hDC; omega)]; exact h.1, by rw [f 14 (by unfold hDC; omega)]; exact h.2.1, by rw [f 14 (by unfold hDC; omega)]; exact h.2.2.1, fun k hk i => by rw [f _ (by unfold hDC; omega)]; exact h.2.2.2 k hk i⟩
theorem cR_mv {s s' : ac_m} {F B A p q : Nat} {w : Nat → Nat → Int32} (h : cR s F B A w) (m : mv s s' p q) : cR s' F B A w := cR_fr h (fun y hy => m.1 y (by unfold hDC at hy; omega))
theorem cR_up {s : ac_m} {F B A k i : Nat} {x : Int32} {w : Nat → Nat → Int32} (h : cR s F B A w) (hk : k < 9) : cR (ac_u s (15 + k) i x) F B A (up w k i x) := by
  refine ⟨by rw [u_ne (by omega)]; exact h.1, by rw [u_ne (by omega)]; exact h.2.1, by rw [u_ne (by omega)]; exact h.2.2.1, fun k' hk' i' => ?_⟩
  by_cases c : k' = k
  · subst c
    by_cases d : i' = i
    · subst d; rw [u_eq, up_eq]
    · rw [u_at d, up_i d]; exact h.2.2.2 _ hk' _
  · rw [u_ne (by omega), up_k c]; exact h.2.2.2 _ hk' _
def mR (s : ac_m) (c F B A : Nat) (w : Nat → Nat → Int32) : Prop := s 69 7 = nI c ∧ s 72 0 = nI F ∧ s 72 1 = nI B ∧ s 72 2 = nI A ∧ (∀ i, i < F → s (75 + i) 0 = w 0 i ∧ s (75 + i) 1 = w 1 i) ∧ (∀ i, i < B → s (89 + i) 0 = w 2 i ∧ s (89 + i) 1 = w 3 i ∧ s (89 + i) 2 = w 4 i ∧ s (89 + i) 3 = w 5 i) ∧ (∀ i, i < A → s (116 + i) 0 = w 6 i ∧ s (116 + i) 1 = w 7 i ∧ s (116 + i) 2 = w 8 i)
theorem mR_mv {s s' : ac_m} {c F B A p : Nat} {w : Nat → Nat → Int32} (h : mR s c F B A w) (hF : F ≤ 6) (hB : B ≤ 12) (hA : A ≤ 10) (m : mvM s s' p) : mR s' c F B A w := by
  obtain ⟨h1, h2, h3, h4, h5, h6, h7⟩ := h
  refine ⟨by rw [m.2.1 7 (by omega)]; exact h1, by rw [m.1 72 (by omega)]; exact h2, by rw [m.1 72 (by omega)]; exact h3, by rw [m.1 72 (by omega)]; exact h4, fun i hi => ?_, fun i hi => ?_, fun i hi => ?_⟩
  · rw [m.1 _ (by omega)]; exact h5 i hi
  · rw [m.1 _ (by omega)]; exact h6 i hi
  · rw [m.1 _ (by omega)]; exact h7 i hi
/-- a slot of the row that is being read -/
theorem mR_u {s : ac_m} {c F B A y j : Nat} {x : Int32} {w : Nat → Nat → Int32} (h : mR s c F B A w) (hF : F ≤ 6) (hB : B ≤ 12) (hA : A ≤ 10) (hy : y ≠ 69 ∧ y ≠ 72 ∧ ¬ (75 ≤ y ∧ y < 75 + F) ∧ ¬ (89 ≤ y ∧ y < 89 + B) ∧ ¬ (116 ≤ y ∧ y < 116 + A)) : mR (ac_u s y j x) c F B A w := by
  obtain ⟨h1, h2, h3, h4, h5, h6, h7⟩ := h
  refine ⟨by rw [u_ne (by omega)]; exact h1, by rw [u_ne (by omega)]; exact h2, by rw [u_ne (by omega)]; exact h3, by rw [u_ne (by omega)]; exact h4, fun i hi => ?_, fun i hi => ?_, fun i hi => ?_⟩
  · rw [u_ne (by omega)]; exact h5 i hi
  · rw [u_ne (by omega)]; exact h6 i hi
  · rw [u_ne (by omega)]; exact h7 i hi
theorem mR_w {s : ac_m} {c F B A : Nat} {w w' : Nat → Nat → Int32} (h : mR s c F B A w) (e : ∀ k i, (k < 2 → i < F) → (2 ≤ k → k < 6 → i < B) → (6 ≤ k → i < A) → w' k i = w k i) : mR s c F B A w' := by
  obtain ⟨h1, h2, h3, h4, h5, h6, h7⟩ := h
  refine ⟨h1, h2, h3, h4, fun i hi => ?_, fun i hi => ?_, fun i hi => ?_⟩
  · rw [e 0 i (by omega) (by omega) (by omega), e 1 i (by omega) (by omega) (by omega)]; exact h5 i hi
  · rw [e 2 i (by omega) (by omega) (by omega), e 3 i (by omega) (by omega) (by omega), e 4 i (by omega) (by omega) (by omega), e 5 i (by omega) (by omega) (by omega)]; exact h6 i hi
  · rw [e 6 i (by omega) (by omega) (by omega), e 7 i (by omega) (by omega) (by omega), e 8 i (by omega) (by omega) (by omega)]; exact h7 i hi
def gR (F B A : Nat) (w : Nat → Nat → Int32) : Prop := F ≤ 6 ∧ B ≤ 12 ∧ A ≤ 10 ∧ (∀ i, i < F → 0 ≤ w 0 i ∧ w 0 i ≤ 99 ∧ 0 ≤ w 1 i ∧ w 1 i ≤ 9)
  ∧ (∀ i, i < B → 0 ≤ w 2 i ∧ w 2 i < nI F ∧ 0 ≤ w 3 i ∧ w 3 i < nI F ∧ w 2 i ≠ w 3 i ∧ 0 ≤ w 4 i ∧ w 4 i ≤ 5 ∧ 1 ≤ w 5 i ∧ w 5 i ≤ 30)
  ∧ (∀ i, i < A → 0 ≤ w 6 i ∧ w 6 i ≤ 5 ∧ 0 ≤ w 7 i ∧ w 7 i ≤ 5 ∧ w 6 i ≠ w 7 i ∧ 1 ≤ w 8 i ∧ w 8 i ≤ 9)
  ∧ (∀ i, F ≤ i → i < 6 → w 0 i = 0 ∧ w 1 i = 0) ∧ (∀ i, B ≤ i → i < 13 → w 2 i = 0 ∧ w 3 i = 0 ∧ w 4 i = 0 ∧ w 5 i = 0)
abbrev hlT : Type := Nat × Nat × Nat × (Nat → Nat → Int32)
def hlC (x : hlT) (s : ac_m) : Prop := cR s x.1 x.2.1 x.2.2.1 x.2.2.2
def hlM (x : hlT) (s : ac_m) : Prop := mR s (x.1 + x.2.1 + x.2.2.1) x.1 x.2.1 x.2.2.1 x.2.2.2
def hlG (x : hlT) : Prop := gR x.1 x.2.1 x.2.2.1 x.2.2.2
/-- the end of a clause -/
def rmE (k : Nat) (Q : ac_m → Prop) (s : ac_m) : Prop := vp_in (nI k) 3 ∧ ((¬ (s 69 5) = 0 → (vp_in (nI k) 3 ∧ (Q (ac_u s 72 k ((s 72 k) + (0 : Int32)))))) ∧ ((s 69 5) = 0 → (vp_in (nI k) 3 ∧ (Q (ac_u s 72 k ((s 72 k) + (1 : Int32)))))))
theorem PF_end {t : Nat → Nat} {n k : Nat} (hk : k < 3) : PFx hDM hE t n (rmE k) := by
  intro Q s T f5 r4 K
  have v := vp_in_nI hk (show 3 < 2147483648 by omega)
  refine ⟨v, fun _ => ⟨v, K _ (frm_u frm.rf (.inl rfl) (by omega)) (by rw [u_ne (by omega)]) (by rw [u_ne (by omega)]) (by rw [u_ne (by omega)]; exact r4)⟩, fun z => absurd z f5⟩
theorem HX_end {t : Nat → Nat} {n q k : Nat} {A M : ac_m → Prop} (x : hlT) (hk : k < 3) (hq : q ≤ n) (qq : skb t n q = q) (sA : ∀ s, A s → hlC x s) (sM : ∀ s, M s → hlM x (ac_u s 72 k (s 72 k + 1))) (g : hlG x) : HX hDC hDM hE t n (fun _ Y s => Y s) (rmE k) q A M hlC hlM (fun _ x => hlG x) := by
  have v := vp_in_nI hk (show 3 < 2147483648 by omega)
  refine ⟨.inr (q, x), ?_, ?_, fun q' x e => ?_, fun _ _ e => (by cases e)⟩
  · intro Z Y s p T hp hs e3 a k1 k0
    exact k1 _ _ rfl s frc.rf rfl ⟨p, hp, hs, e3⟩ (sA s a)
  · intro Q s p T hp hs e4 e5 m k1 k0
    refine ⟨v, fun z => absurd e5 z, fun _ => ⟨v, k1 _ _ rfl _ (frm_u frm.rf (.inl rfl) (by omega)) ?_ ⟨p, hp, hs, ?_⟩ (sM s m)⟩⟩
    · rw [u_ne (by omega)]; exact e5
    · rw [u_ne (by omega)]; exact e4
  · cases e
    exact ⟨Nat.le_refl _, hq, qq, g⟩
theorem gR_folk {F B A a b : Nat} {w : Nat → Nat → Int32} (g : gR F B A w) (hF : F < 6) (a0 : 0 ≤ nI a) (a1 : nI a ≤ 99) (b0 : 0 ≤ nI b) (b1 : nI b ≤ 9) : gR (F + 1) B A (up (up w 0 F (nI a)) 1 F (nI b)) := by
  obtain ⟨g1, g2, g3, g4, g5, g6, g7, g8⟩ := g
  refine ⟨by omega, g2, g3, fun i hi => ?_, fun i hi => ?_, fun i hi => ?_, fun i h1 h2 => ?_, fun i h1 h2 => ?_⟩
  · by_cases c : i = F
    · subst c
      rw [up_eq, up_k (by omega), up_eq]
      exact ⟨a0, a1, b0, b1⟩
    · rw [up_i c, up_i c, up_i c, up_i c]
      exact g4 i (by omega)
  · rw [up_k (by omega), up_k (by omega), up_k (by omega), up_k (by omega), up_k (by omega), up_k (by omega), up_k (by omega), up_k (by omega)]
    have h := g5 i hi
    have l := nI_lt (a := F) (b := F + 1) (by omega) (by omega)
    exact ⟨h.1, Int32.lt_trans h.2.1 l, h.2.2.1, Int32.lt_trans h.2.2.2.1 l, h.2.2.2.2⟩
  · rw [up_k (by omega), up_k (by omega), up_k (by omega), up_k (by omega), up_k (by omega), up_k (by omega)]
    exact g6 i hi
  · rw [up_i (by omega), up_i (by omega), up_i (by omega), up_i (by omega)]
    exact g7 i (by omega) h2
  · rw [up_k (by omega), up_k (by omega), up_k (by omega), up_k (by omega), up_k (by omega), up_k (by omega), up_k (by omega), up_k (by omega)]
    exact g8 i h1 h2
theorem mR_folk {s : ac_m} {F B A : Nat} {x y : Int32} {w : Nat → Nat → Int32} (h : mR s (F + B + A + 1) F B A w) (hF : F < 6) (hB : B ≤ 12) (hA : A ≤ 10) (e0 : s (75 + F) 0 = x) (e1 : s (75 + F) 1 = y) : mR (ac_u s 72 0 (s 72 0 + 1)) (F + 1 + B + A) (F + 1) B A (up (up w 0 F x) 1 F y) := by
  obtain ⟨h1, h2, h3, h4, h5, h6, h7⟩ := h
  refine ⟨?_, ?_, ?_, ?_, fun i hi => ?_, fun i hi => ?_, fun i hi => ?_⟩
  · rw [u_ne (by omega), h1, show F + B + A + 1 = F + 1 + B + A by omega]
  · rw [u_eq, h2, nI_1]
  · rw [u_at (by omega)]; exact h3
  · rw [u_at (by omega)]; exact h4
  · rw [u_ne (by omega)]
    by_cases c : i = F
    · subst c
      rw [up_eq, up_k (by omega), up_eq]
      exact ⟨e0, e1⟩
    · rw [up_i c, up_i c, up_i c, up_i c]
      exact h5 i (by omega)
  · rw [u_ne (by omega), up_k (by omega), up_k (by omega), up_k (by omega), up_k (by omega), up_k (by omega), up_k (by omega), up_k (by omega), up_k (by omega)]; exact h6 i hi
  · rw [u_ne (by omega), up_k (by omega), up_k (by omega), up_k (by omega), up_k (by omega), up_k (by omega), up_k (by omega)]; exact h7 i hi
theorem HX_folk {t : Nat → Nat} {n q F B A : Nat} {w : Nat → Nat → Int32} (hq : q ≤ n) (qq : skb t n q = q) (g : gR F B A w) (hF : F < 6) :
    HX hDC hDM hE t n (fun Z Y s => rcI 15 6 F 0 (fun _ => 99) Z (fun s => rcI 16 6 F 0 (fun _ => 9) Z (fun s => rcS 59 Z (fun s => Y s) s) s) s)
      (fun Q s => rmN 0 (fun _ => 99) (75 + F) 0 (fun s => rmN 0 (fun _ => 9) (75 + F) 1 (fun s => w_X12_sign (nI 59) (fun s => rmE 0 Q s) s) s) s) q (fun s => cR s (F + 1) B A w) (fun s => mR s (F + B + A + 1) F B A w) hlC hlM (fun _ x => hlG x) := by
  have hB := g.2.1
  have hA := g.2.2.1
  have dm : hDM (75 + F) := .inr (.inl (by omega))
  have pe : PFx hDM hE t n (fun Q s => w_X12_sign (nI 59) (fun s => rmE 0 Q s) s) := PFx_seq (RM2 := rmE 0) hWW.2.1 hWW.2.2 PF_sg (PF_end (by omega))
  refine HX_seq (RC1 := rcI 15 6 F 0 (fun _ => 99)) (RM1 := rmN 0 (fun _ => 99) (75 + F) 0) hWW (HX_num (hi := 99) (A' := fun a s => cR s (F + 1) B A (up w 0 F (nI a))) (M' := fun a s => mR s (F + B + A + 1) F B A w ∧ s (75 + F) 0 = nI a) hq qq hF (by omega) (by unfold hDC; omega) (by omega) dm (by omega) (fun _ _ => rfl) (fun _ _ => rfl) (fun s s1 a e h m => cR_up (k := 0) (cR_mv h m) (by omega)) (fun s s1 a e h m => ⟨mR_u (mR_mv h (by omega) hB hA m) (by omega) hB hA (by omega), u_eq⟩)) ?_ (fun q1 a l1 l2 l3 P1 => ?_)
  · exact PFx_seq (RM1 := rmN 0 (fun _ => 9) (75 + F) 1) hWW.2.1 hWW.2.2 (PF_num dm (by omega)) pe
  refine HX_seq (RC1 := rcI 16 6 F 0 (fun _ => 9)) (RM1 := rmN 0 (fun _ => 9) (75 + F) 1) hWW (HX_num (hi := 9) (A' := fun b s => cR s (F + 1) B A (up (up w 0 F (nI a)) 1 F (nI b))) (M' := fun b s => mR s (F + B + A + 1) F B A w ∧ s (75 + F) 0 = nI a ∧ s (75 + F) 1 = nI b) l2 l3 hF (by omega) (by unfold hDC; omega) (by omega) dm (by omega) (fun _ _ => rfl) (fun _ _ => rfl) (fun s s1 b e h m => cR_up (k := 1) (cR_mv h m) (by omega)) (fun s s1 b e h m => ⟨mR_u (mR_mv h.1 (by omega) hB hA m) (by omega) hB hA (by omega), by rw [u_at (by omega), m.1 _ (by omega)]; exact h.2, u_eq⟩)) pe (fun q2 b k1 k2 k3 P2 => ?_)
  refine HX_seq (RC1 := rcS 59) (RM1 := w_X12_sign (nI 59)) (RC2 := fun _ Y s => Y s) (RM2 := rmE 0) hWW (HX_sg (A' := fun _ s => cR s (F + 1) B A (up (up w 0 F (nI a)) 1 F (nI b))) (M' := fun _ s => mR s (F + B + A + 1) F B A w ∧ s (75 + F) 0 = nI a ∧ s (75 + F) 1 = nI b) k2 k3 (by omega) (fun s s1 e f h m => cR_mv h m) (fun s s1 e h m => ⟨mR_mv h.1 (by omega) hB hA m, by rw [m.1 _ (by omega)]; exact h.2.1, by rw [m.1 _ (by omega)]; exact h.2.2⟩)) (PF_end (by omega)) (fun q3 _ j1 j2 j3 P3 => ?_)
  exact HX_end (F + 1, B, A, up (up w 0 F (nI a)) 1 F (nI b)) (by omega) j2 j3 (fun s h => h) (fun s h => mR_folk h.1 hF hB hA h.2.1 h.2.2) (gR_folk g hF (nI_pos' (by omega)) P1.2.2.2 (nI_pos' (by omega)) P2.2.2.2)
theorem lt_of_dec {a F : Nat} (h : nI a ≤ nI F - 1) (ha : a ≤ 100000) (hF : F ≤ 6) : a < F := by
  rcases F with _ | f
  · have p := nI_pos' (n := a) (by omega)
    exact absurd (Int32.le_trans p h) (by decide)
  · rw [nI_dec] at h
    have := (nI_leI (by omega) (by omega)).1 h
    omega
theorem gR_beast {F B A a b c d : Nat} {w : Nat → Nat → Int32} (g : gR F B A w) (hB : B < 12) (a1 : a < F) (b1 : b < F) (ab : a ≠ b) (c1 : nI c ≤ 5) (c0 : 0 ≤ nI c) (d0 : 1 ≤ nI d) (d1 : nI d ≤ 30) : gR F (B + 1) A (up (up (up (up w 2 B (nI a)) 3 B (nI b)) 4 B (nI c)) 5 B (nI d)) := by
  obtain ⟨g1, g2, g3, g4, g5, g6, g7, g8⟩ := g
  refine ⟨g1, by omega, g3, fun i hi => ?_, fun i hi => ?_, fun i hi => ?_, fun i h1 h2 => ?_, fun i h1 h2 => ?_⟩
  · rw [up_k (by omega), up_k (by omega), up_k (by omega), up_k (by omega), up_k (by omega), up_k (by omega), up_k (by omega), up_k (by omega)]; exact g4 i hi
  · by_cases cc : i = B
    · subst cc
      have e2 : (up (up (up (up w 2 i (nI a)) 3 i (nI b)) 4 i (nI c)) 5 i (nI d)) 2 i = nI a := by rw [up_k (by omega), up_k (by omega), up_k (by omega), up_eq]
      have e3 : (up (up (up (up w 2 i (nI a)) 3 i (nI b)) 4 i (nI c)) 5 i (nI d)) 3 i = nI b := by rw [up_k (by omega), up_k (by omega), up_eq]
      have e4 : (up (up (up (up w 2 i (nI a)) 3 i (nI b)) 4 i (nI c)) 5 i (nI d)) 4 i = nI c := by rw [up_k (by omega), up_eq]
      have e5 : (up (up (up (up w 2 i (nI a)) 3 i (nI b)) 4 i (nI c)) 5 i (nI d)) 5 i = nI d := up_eq
      rw [e2, e3, e4, e5]
      exact ⟨nI_pos' (by omega), nI_lt a1 (by omega), nI_pos' (by omega), nI_lt b1 (by omega), fun z => ab (nI_inj (by omega) (by omega) z), c0, c1, d0, d1⟩
    · rw [up_i (by omega), up_i (by omega), up_i (by omega), up_i (by omega), up_i (by omega), up_i (by omega), up_i (by omega), up_i (by omega), up_i (by omega), up_i (by omega), up_i (by omega), up_i (by omega), up_i (by omega), up_i (by omega), up_i (by omega), up_i (by omega)]; exact g5 i (by omega)
  · rw [up_k (by omega), up_k (by omega), up_k (by omega), up_k (by omega), up_k (by omega), up_k (by omega), up_k (by omega), up_k (by omega), up_k (by omega), up_k (by omega), up_k (by omega), up_k (by omega)]; exact g6 i hi
  · rw [up_k (by omega), up_k (by omega), up_k (by omega), up_k (by omega), up_k (by omega), up_k (by omega), up_k (by omega), up_k (by omega)]; exact g7 i h1 h2
  · rw [up_i (by omega), up_i (by omega), up_i (by omega), up_i (by omega), up_i (by omega), up_i (by omega), up_i (by omega), up_i (by omega), up_i (by omega), up_i (by omega), up_i (by omega), up_i (by omega), up_i (by omega), up_i (by omega), up_i (by omega), up_i (by omega)]; exact g8 i (by omega) h2
theorem mR_beast {s : ac_m} {F B A : Nat} {x y z v : Int32} {w : Nat → Nat → Int32} (h : mR s (F + B + A + 1) F B A w) (hF : F ≤ 6) (hB : B < 12) (hA : A ≤ 10) (e0 : s (89 + B) 0 = x) (e1 : s (89 + B) 1 = y) (e2 : s (89 + B) 2 = z) (e3 : s (89 + B) 3 = v) : mR (ac_u s 72 1 (s 72 1 + 1)) (F + (B + 1) + A) F (B + 1) A (up (up (up (up w 2 B x) 3 B y) 4 B z) 5 B v) := by
  obtain ⟨h1, h2, h3, h4, h5, h6, h7⟩ := h
  refine ⟨?_, ?_, ?_, ?_, fun i hi => ?_, fun i hi => ?_, fun i hi => ?_⟩
  · rw [u_ne (by omega), h1, show F + B + A + 1 = F + (B + 1) + A by omega]
  · rw [u_at (by omega)]; exact h2
  · rw [u_eq, h3, nI_1]
  · rw [u_at (by omega)]; exact h4
  · rw [u_ne (by omega)]; rw [up_k (by omega), up_k (by omega), up_k (by omega), up_k (by omega), up_k (by omega), up_k (by omega), up_k (by omega), up_k (by omega)]; exact h5 i hi
  · rw [u_ne (by omega)]
    by_cases cc : i = B
    · subst cc
      rw [up_k (show 2 ≠ 5 by omega), up_k (show 2 ≠ 4 by omega), up_k (show 2 ≠ 3 by omega), up_eq, up_k (show 3 ≠ 5 by omega), up_k (show 3 ≠ 4 by omega), up_eq, up_k (show 4 ≠ 5 by omega), up_eq, up_eq]
      exact ⟨e0, e1, e2, e3⟩
    · rw [up_i (by omega), up_i (by omega), up_i (by omega), up_i (by omega), up_i (by omega), up_i (by omega), up_i (by omega), up_i (by omega), up_i (by omega), up_i (by omega), up_i (by omega), up_i (by omega), up_i (by omega), up_i (by omega), up_i (by omega), up_i (by omega)]; exact h6 i (by omega)
  · rw [u_ne (by omega)]; rw [up_k (by omega), up_k (by omega), up_k (by omega), up_k (by omega), up_k (by omega), up_k (by omega), up_k (by omega), up_k (by omega), up_k (by omega), up_k (by omega), up_k (by omega), up_k (by omega)]; exact h7 i hi
theorem HX_beast {t : Nat → Nat} {n q F B A : Nat} {w : Nat → Nat → Int32} (hq : q ≤ n) (qq : skb t n q = q) (g : gR F B A w) (hB2 : B < 12) :
    HX hDC hDM hE t n (fun Z Y s => rcI 17 13 B 0 (fun s => s 14 10 - 1) Z (fun s => rcU 17 13 18 13 B 0 (fun s => s 14 10 - 1) Z (fun s => rcI 19 13 B 0 (fun _ => 5) Z (fun s => rcI 20 13 B 1 (fun _ => 30) Z (fun s => rcS 59 Z (fun s => Y s) s) s) s) s) s)
      (fun Q s => rmN 0 (fun s => s 72 0 - 1) (89 + B) 0 (fun s => rmU (fun s => s 72 0) (89 + B) 0 1 (fun s => rmN 0 (fun _ => 5) (89 + B) 2 (fun s => rmN 1 (fun _ => 30) (89 + B) 3 (fun s => w_X12_sign (nI 59) (fun s => rmE 1 Q s) s) s) s) s) s) q (fun s => cR s F (B + 1) A w) (fun s => mR s (F + B + A + 1) F B A w) hlC hlM (fun _ x => hlG x) := by
  have hF := g.1
  have hA := g.2.2.1
  have hB : B ≤ 12 := by omega
  have k13 : B < 13 := by omega
  have dm : hDM (89 + B) := .inr (.inr (.inl (by omega)))
  have pe : PFx hDM hE t n (fun Q s => w_X12_sign (nI 59) (fun s => rmE 1 Q s) s) := PFx_seq (RM2 := rmE 1) hWW.2.1 hWW.2.2 PF_sg (PF_end (by omega))
  have pe3 : PFx hDM hE t n (fun Q s => rmN 1 (fun _ => 30) (89 + B) 3 (fun s => w_X12_sign (nI 59) (fun s => rmE 1 Q s) s) s) := PFx_seq (RM1 := rmN 1 (fun _ => 30) (89 + B) 3) hWW.2.1 hWW.2.2 (PF_num dm (by omega)) pe
  have pe2 : PFx hDM hE t n (fun Q s => rmN 0 (fun _ => 5) (89 + B) 2 (fun s => rmN 1 (fun _ => 30) (89 + B) 3 (fun s => w_X12_sign (nI 59) (fun s => rmE 1 Q s) s) s) s) := PFx_seq (RM1 := rmN 0 (fun _ => 5) (89 + B) 2) hWW.2.1 hWW.2.2 (PF_num dm (by omega)) pe3
  have pe1 : PFx hDM hE t n (fun Q s => rmU (fun s => s 72 0) (89 + B) 0 1 (fun s => rmN 0 (fun _ => 5) (89 + B) 2 (fun s => rmN 1 (fun _ => 30) (89 + B) 3 (fun s => w_X12_sign (nI 59) (fun s => rmE 1 Q s) s) s) s) s) := PFx_seq (RM1 := rmU (fun s => s 72 0) (89 + B) 0 1) hWW.2.1 hWW.2.2 (PF_an dm (by omega)) pe2
  refine HX_seq (RC1 := rcI 17 13 B 0 (fun s => s 14 10 - 1)) (RM1 := rmN 0 (fun s => s 72 0 - 1) (89 + B) 0) hWW (HX_num (hi := nI F - 1) (A' := fun a s => cR s F (B + 1) A (up w 2 B (nI a))) (M' := fun a s => mR s (F + B + A + 1) F B A w ∧ s (89 + B) 0 = nI a) hq qq k13 (by omega) (by unfold hDC; omega) (by omega) dm (by omega) (fun s h => by rw [h.1]) (fun s h => by rw [h.2.1]) (fun s s1 a e h m => cR_up (k := 2) (cR_mv h m) (by omega)) (fun s s1 a e h m => ⟨mR_u (mR_mv h hF hB hA m) hF hB hA (by omega), u_eq⟩)) pe1 (fun q0 a l0 m0 n0 P0 => ?_)
  refine HX_seq (RC1 := rcU 17 13 18 13 B 0 (fun s => s 14 10 - 1)) (RM1 := rmU (fun s => s 72 0) (89 + B) 0 1) hWW (HX_an (hi := nI F - 1) (A' := fun b s => cR s F (B + 1) A (up (up w 2 B (nI a)) 3 B (nI b))) (M' := fun b s => mR s (F + B + A + 1) F B A w ∧ s (89 + B) 0 = nI a ∧ s (89 + B) 1 = nI b) m0 n0 k13 (by omega) k13 (by omega) (by unfold hDC; omega) (by omega) (by omega) (by omega) dm (by omega) P0.2.1 (fun s h => ⟨by rw [h.1], by have := h.2.2.2 2 (by omega) B; rw [up_eq] at this; exact this⟩) (fun s h => ⟨by rw [h.1.2.1], h.2⟩) (fun s s1 b e h m => cR_up (k := 3) (cR_mv h m) (by omega)) (fun s s1 b e h m => ⟨mR_u (mR_mv h.1 hF hB hA m) hF hB hA (by omega), by rw [u_at (by omega), m.1 _ (by omega)]; exact h.2, u_eq⟩)) pe2 (fun q1 b l1 m1 n1 P1 => ?_)
  refine HX_seq (RC1 := rcI 19 13 B 0 (fun _ => 5)) (RM1 := rmN 0 (fun _ => 5) (89 + B) 2) hWW (HX_num (hi := 5) (A' := fun c s => cR s F (B + 1) A (up (up (up w 2 B (nI a)) 3 B (nI b)) 4 B (nI c))) (M' := fun c s => mR s (F + B + A + 1) F B A w ∧ s (89 + B) 0 = nI a ∧ s (89 + B) 1 = nI b ∧ s (89 + B) 2 = nI c) m1 n1 k13 (by omega) (by unfold hDC; omega) (by omega) dm (by omega) (fun _ _ => rfl) (fun _ _ => rfl) (fun s s1 c e h m => cR_up (k := 4) (cR_mv h m) (by omega)) (fun s s1 c e h m => ⟨mR_u (mR_mv h.1 hF hB hA m) hF hB hA (by omega), by rw [u_at (by omega), m.1 _ (by omega)]; exact h.2.1, by rw [u_at (by omega), m.1 _ (by omega)]; exact h.2.2, u_eq⟩)) pe3 (fun q2 c l2 m2 n2 P2 => ?_)
  refine HX_seq (RC1 := rcI 20 13 B 1 (fun _ => 30)) (RM1 := rmN 1 (fun _ => 30) (89 + B) 3) hWW (HX_num (hi := 30) (A' := fun d s => cR s F (B + 1) A (up (up (up (up w 2 B (nI a)) 3 B (nI b)) 4 B (nI c)) 5 B (nI d))) (M' := fun d s => mR s (F + B + A + 1) F B A w ∧ s (89 + B) 0 = nI a ∧ s (89 + B) 1 = nI b ∧ s (89 + B) 2 = nI c ∧ s (89 + B) 3 = nI d) m2 n2 k13 (by omega) (by unfold hDC; omega) (by omega) dm (by omega) (fun _ _ => rfl) (fun _ _ => rfl) (fun s s1 d e h m => cR_up (k := 5) (cR_mv h m) (by omega)) (fun s s1 d e h m => ⟨mR_u (mR_mv h.1 hF hB hA m) hF hB hA (by omega), by rw [u_at (by omega), m.1 _ (by omega)]; exact h.2.1, by rw [u_at (by omega), m.1 _ (by omega)]; exact h.2.2.1, by rw [u_at (by omega), m.1 _ (by omega)]; exact h.2.2.2, u_eq⟩)) pe (fun q3 d l3 m3 n3 P3 => ?_)
  refine HX_seq (RC1 := rcS 59) (RM1 := w_X12_sign (nI 59)) (RC2 := fun _ Y s => Y s) (RM2 := rmE 1) hWW (HX_sg (A' := fun _ s => cR s F (B + 1) A (up (up (up (up w 2 B (nI a)) 3 B (nI b)) 4 B (nI c)) 5 B (nI d))) (M' := fun _ s => mR s (F + B + A + 1) F B A w ∧ s (89 + B) 0 = nI a ∧ s (89 + B) 1 = nI b ∧ s (89 + B) 2 = nI c ∧ s (89 + B) 3 = nI d) m3 n3 (by omega) (fun s s1 e f h m => cR_mv h m) (fun s s1 e h m => ⟨mR_mv h.1 hF hB hA m, by rw [m.1 _ (by omega)]; exact h.2.1, by rw [m.1 _ (by omega)]; exact h.2.2.1, by rw [m.1 _ (by omega)]; exact h.2.2.2.1, by rw [m.1 _ (by omega)]; exact h.2.2.2.2⟩)) (PF_end (by omega)) (fun q9 _ j1 j2 j3 P9 => ?_)
  exact HX_end (F, B + 1, A, (up (up (up (up w 2 B (nI a)) 3 B (nI b)) 4 B (nI c)) 5 B (nI d))) (by omega) j2 j3 (fun s h => h) (fun s h => mR_beast h.1 hF hB2 hA h.2.1 h.2.2.1 h.2.2.2.1 h.2.2.2.2) (gR_beast g hB2 (lt_of_dec P0.2.2.2 P0.2.1 hF) (lt_of_dec P1.2.2.1 P1.2.1 hF) P1.2.2.2 P2.2.2.2 (nI_pos' (by omega)) (Int32.not_lt.1 P3.2.2.1) P3.2.2.2)
theorem gR_fair {F B A a b c : Nat} {w : Nat → Nat → Int32} (g : gR F B A w) (hA : A < 10) (a1 : nI a ≤ 5) (a0 : 0 ≤ nI a) (b1 : nI b ≤ 5) (b0 : 0 ≤ nI b) (ab : a ≠ b) (ha : a ≤ 100000) (hb : b ≤ 100000) (c0 : 1 ≤ nI c) (c1 : nI c ≤ 9) : gR F B (A + 1) (up (up (up w 6 A (nI a)) 7 A (nI b)) 8 A (nI c)) := by
  obtain ⟨g1, g2, g3, g4, g5, g6, g7, g8⟩ := g
  refine ⟨g1, g2, by omega, fun i hi => ?_, fun i hi => ?_, fun i hi => ?_, fun i h1 h2 => ?_, fun i h1 h2 => ?_⟩
  · rw [up_k (by omega), up_k (by omega), up_k (by omega), up_k (by omega), up_k (by omega), up_k (by omega)]; exact g4 i hi
  · rw [up_k (by omega), up_k (by omega), up_k (by omega), up_k (by omega), up_k (by omega), up_k (by omega), up_k (by omega), up_k (by omega), up_k (by omega), up_k (by omega), up_k (by omega), up_k (by omega)]; exact g5 i hi
  · by_cases cc : i = A
    · subst cc
      have e2 : (up (up (up w 6 i (nI a)) 7 i (nI b)) 8 i (nI c)) 6 i = nI a := by rw [up_k (by omega), up_k (by omega), up_eq]
      have e3 : (up (up (up w 6 i (nI a)) 7 i (nI b)) 8 i (nI c)) 7 i = nI b := by rw [up_k (by omega), up_eq]
      have e4 : (up (up (up w 6 i (nI a)) 7 i (nI b)) 8 i (nI c)) 8 i = nI c := up_eq
      rw [e2, e3, e4]
      exact ⟨a0, a1, b0, b1, fun z => ab (nI_inj (by omega) (by omega) z), c0, c1⟩
    · rw [up_i (by omega), up_i (by omega), up_i (by omega), up_i (by omega), up_i (by omega), up_i (by omega), up_i (by omega), up_i (by omega), up_i (by omega)]; exact g6 i (by omega)
  · rw [up_k (by omega), up_k (by omega), up_k (by omega), up_k (by omega), up_k (by omega), up_k (by omega)]; exact g7 i h1 h2
  · rw [up_k (by omega), up_k (by omega), up_k (by omega), up_k (by omega), up_k (by omega), up_k (by omega), up_k (by omega), up_k (by omega), up_k (by omega), up_k (by omega), up_k (by omega), up_k (by omega)]; exact g8 i h1 h2
theorem mR_fair {s : ac_m} {F B A : Nat} {x y z : Int32} {w : Nat → Nat → Int32} (h : mR s (F + B + A + 1) F B A w) (hF : F ≤ 6) (hB : B ≤ 12) (hA : A < 10) (e0 : s (116 + A) 0 = x) (e1 : s (116 + A) 1 = y) (e2 : s (116 + A) 2 = z) : mR (ac_u s 72 2 (s 72 2 + 1)) (F + B + (A + 1)) F B (A + 1) (up (up (up w 6 A x) 7 A y) 8 A z) := by
  obtain ⟨h1, h2, h3, h4, h5, h6, h7⟩ := h
  refine ⟨?_, ?_, ?_, ?_, fun i hi => ?_, fun i hi => ?_, fun i hi => ?_⟩
  · rw [u_ne (by omega), h1, show F + B + A + 1 = F + B + (A + 1) by omega]
  · rw [u_at (by omega)]; exact h2
  · rw [u_at (by omega)]; exact h3
  · rw [u_eq, h4, nI_1]
  · rw [u_ne (by omega)]; rw [up_k (by omega), up_k (by omega), up_k (by omega), up_k (by omega), up_k (by omega), up_k (by omega)]; exact h5 i hi
  · rw [u_ne (by omega)]; rw [up_k (by omega), up_k (by omega), up_k (by omega), up_k (by omega), up_k (by omega), up_k (by omega), up_k (by omega), up_k (by omega), up_k (by omega), up_k (by omega), up_k (by omega), up_k (by omega)]; exact h6 i hi
  · rw [u_ne (by omega)]
    by_cases cc : i = A
    · subst cc
      rw [up_k (show 6 ≠ 8 by omega), up_k (show 6 ≠ 7 by omega), up_eq, up_k (show 7 ≠ 8 by omega), up_eq, up_eq]
      exact ⟨e0, e1, e2⟩
    · rw [up_i (by omega), up_i (by omega), up_i (by omega), up_i (by omega), up_i (by omega), up_i (by omega), up_i (by omega), up_i (by omega), up_i (by omega)]; exact h7 i (by omega)
theorem HX_fair {t : Nat → Nat} {n q F B A : Nat} {w : Nat → Nat → Int32} (hq : q ≤ n) (qq : skb t n q = q) (g : gR F B A w) (hA2 : A < 10) :
    HX hDC hDM hE t n (fun Z Y s => rcI 21 10 A 0 (fun _ => 5) Z (fun s => rcU 21 10 22 10 A 0 (fun _ => 5) Z (fun s => rcI 23 10 A 1 (fun _ => 9) Z (fun s => rcS 59 Z (fun s => Y s) s) s) s) s)
      (fun Q s => rmN 0 (fun _ => 5) (116 + A) 0 (fun s => rmU (fun _ => 6) (116 + A) 0 1 (fun s => rmN 1 (fun _ => 9) (116 + A) 2 (fun s => w_X12_sign (nI 59) (fun s => rmE 2 Q s) s) s) s) s) q (fun s => cR s F B (A + 1) w) (fun s => mR s (F + B + A + 1) F B A w) hlC hlM (fun _ x => hlG x) := by
  have hF := g.1
  have hB := g.2.1
  have hA : A ≤ 10 := by omega
  have dm : hDM (116 + A) := .inr (.inr (.inr (by omega)))
  have pe : PFx hDM hE t n (fun Q s => w_X12_sign (nI 59) (fun s => rmE 2 Q s) s) := PFx_seq (RM2 := rmE 2) hWW.2.1 hWW.2.2 PF_sg (PF_end (by omega))
  have pe2 : PFx hDM hE t n (fun Q s => rmN 1 (fun _ => 9) (116 + A) 2 (fun s => w_X12_sign (nI 59) (fun s => rmE 2 Q s) s) s) := PFx_seq (RM1 := rmN 1 (fun _ => 9) (116 + A) 2) hWW.2.1 hWW.2.2 (PF_num dm (by omega)) pe
  have pe1 : PFx hDM hE t n (fun Q s => rmU (fun _ => 6) (116 + A) 0 1 (fun s => rmN 1 (fun _ => 9) (116 + A) 2 (fun s => w_X12_sign (nI 59) (fun s => rmE 2 Q s) s) s) s) := PFx_seq (RM1 := rmU (fun _ => 6) (116 + A) 0 1) hWW.2.1 hWW.2.2 (PF_an dm (by omega)) pe2
  refine HX_seq (RC1 := rcI 21 10 A 0 (fun _ => 5)) (RM1 := rmN 0 (fun _ => 5) (116 + A) 0) hWW (HX_num (hi := 5) (A' := fun a s => cR s F B (A + 1) (up w 6 A (nI a))) (M' := fun a s => mR s (F + B + A + 1) F B A w ∧ s (116 + A) 0 = nI a) hq qq hA2 (by omega) (by unfold hDC; omega) (by omega) dm (by omega) (fun _ _ => rfl) (fun _ _ => rfl) (fun s s1 a e h m => cR_up (k := 6) (cR_mv h m) (by omega)) (fun s s1 a e h m => ⟨mR_u (mR_mv h hF hB hA m) hF hB hA (by omega), u_eq⟩)) pe1 (fun q0 a l0 m0 n0 P0 => ?_)
  refine HX_seq (RC1 := rcU 21 10 22 10 A 0 (fun _ => 5)) (RM1 := rmU (fun _ => 6) (116 + A) 0 1) hWW (HX_an (hi := 5) (A' := fun b s => cR s F B (A + 1) (up (up w 6 A (nI a)) 7 A (nI b))) (M' := fun b s => mR s (F + B + A + 1) F B A w ∧ s (116 + A) 0 = nI a ∧ s (116 + A) 1 = nI b) m0 n0 hA2 (by omega) hA2 (by omega) (by unfold hDC; omega) (by omega) (by omega) (by omega) dm (by omega) P0.2.1 (fun s h => ⟨rfl, by have := h.2.2.2 6 (by omega) A; rw [up_eq] at this; exact this⟩) (fun s h => ⟨rfl, h.2⟩) (fun s s1 b e h m => cR_up (k := 7) (cR_mv h m) (by omega)) (fun s s1 b e h m => ⟨mR_u (mR_mv h.1 hF hB hA m) hF hB hA (by omega), by rw [u_at (by omega), m.1 _ (by omega)]; exact h.2, u_eq⟩)) pe2 (fun q1 b l1 m1 n1 P1 => ?_)
  refine HX_seq (RC1 := rcI 23 10 A 1 (fun _ => 9)) (RM1 := rmN 1 (fun _ => 9) (116 + A) 2) hWW (HX_num (hi := 9) (A' := fun c s => cR s F B (A + 1) (up (up (up w 6 A (nI a)) 7 A (nI b)) 8 A (nI c))) (M' := fun c s => mR s (F + B + A + 1) F B A w ∧ s (116 + A) 0 = nI a ∧ s (116 + A) 1 = nI b ∧ s (116 + A) 2 = nI c) m1 n1 hA2 (by omega) (by unfold hDC; omega) (by omega) dm (by omega) (fun _ _ => rfl) (fun _ _ => rfl) (fun s s1 c e h m => cR_up (k := 8) (cR_mv h m) (by omega)) (fun s s1 c e h m => ⟨mR_u (mR_mv h.1 hF hB hA m) hF hB hA (by omega), by rw [u_at (by omega), m.1 _ (by omega)]; exact h.2.1, by rw [u_at (by omega), m.1 _ (by omega)]; exact h.2.2, u_eq⟩)) pe (fun q2 c l2 m2 n2 P2 => ?_)
  refine HX_seq (RC1 := rcS 59) (RM1 := w_X12_sign (nI 59)) (RC2 := fun _ Y s => Y s) (RM2 := rmE 2) hWW (HX_sg (A' := fun _ s => cR s F B (A + 1) (up (up (up w 6 A (nI a)) 7 A (nI b)) 8 A (nI c))) (M' := fun _ s => mR s (F + B + A + 1) F B A w ∧ s (116 + A) 0 = nI a ∧ s (116 + A) 1 = nI b ∧ s (116 + A) 2 = nI c) m2 n2 (by omega) (fun s s1 e f h m => cR_mv h m) (fun s s1 e h m => ⟨mR_mv h.1 hF hB hA m, by rw [m.1 _ (by omega)]; exact h.2.1, by rw [m.1 _ (by omega)]; exact h.2.2.1, by rw [m.1 _ (by omega)]; exact h.2.2.2⟩)) (PF_end (by omega)) (fun q9 _ j1 j2 j3 P9 => ?_)
  exact HX_end (F, B, A + 1, (up (up (up w 6 A (nI a)) 7 A (nI b)) 8 A (nI c))) (by omega) j2 j3 (fun s h => h) (fun s h => mR_fair h.1 hF hB hA2 h.2.1 h.2.2.1 h.2.2.2) (gR_fair g hA2 P0.2.2.2 (nI_pos' (by omega)) P1.2.2.1 (nI_pos' (by omega)) P1.2.2.2 P0.2.1 P1.2.1 (Int32.not_lt.1 P2.2.2.1) P2.2.2.2)
