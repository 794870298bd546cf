theorem HXb {t : Nat → Nat} {n q F B d K c : Nat} {w : Nat → Nat → Int32} (TT : okT t n) (n150 : n ≤ 150) (d1 : 1 ≤ d) (d6 : d ≤ 6) (U : ∀ q c w, q ≤ n → skb t n q = q → 2 * c ≤ q → HXu F B d K t n q c w) (hq : q ≤ n) (qq : skb t n q = q) (h2c : 2 * c ≤ q) :
    HXv wDC (wDM c) wE t n (rcB d (K + 1)) (rmB (tk_X12_readsStep (K + 1))) q (cW F B (c, w)) (wM F B d c) (cW F B) (mB F B d c) (fun q' x => q < q' ∧ ext F B d (c, w) x ∧ 2 * x.1 ≤ q') := by
  obtain ⟨o, hC, hM, hG⟩ := bl_loop TT n150 d1 d6 U (n + 1) q c w (by omega) hq qq h2c
  refine ⟨o, ?_, ?_, hG⟩
  · intro Z Y s p T hp hs e3 a k1 k0 Q hZ hY
    rw [tk_X7_readSteps]
    unfold w_X7_readSteps l_X7_readSteps_3
    intro P hP
    exact hC Q P hP s p 0 T hp hs e3 (Nat.zero_le _) a (fun q' x e s' f g pp ax => hY x s' (k1 q' x e s' f g pp ax)) (fun kd pl e s' f g5 g6 => hZ s' (k0 kd pl e s' f g5 g6))
  · intro X s p T hp hs e4 e5 m k1 k0
    unfold rmB
    refine m_blanks T hp e4 (fun s1 m1 => ?_)
    rw [hs] at m1
    unfold rsL
    intro P hP
    exact hM X P hP s1 (MT_mv T m1) m1.2.2 (by rw [m1.2.1 5 (by omega)]; exact e5) (wM_mv m m1) (fun q' x e s' f g5 pp mx => k1 q' x e s' ((frm_mv m1).trans f) g5 pp mx) (fun kd pl e s' f g5 g6 r4 => k0 kd pl e s' ((frm_mv m1).trans f) g5 g6 r4)
theorem PF_B {D E : Nat → Prop} {t : Nat → Nat} {n : Nat} {Rr : (ac_m → Prop) → ac_m → Prop} : PFx D E t n (rmB Rr) := by
  intro Q s T f5 r4 k
  obtain ⟨r, hr, er⟩ := r4
  unfold rmB
  refine m_blanks T hr er (fun s1 m1 => ?_)
  unfold rsL
  intro P hP
  have g5 : ¬ s1 69 5 = 0 := by rw [m1.2.1 5 (by omega)]; exact f5
  refine hP _ ⟨fun _ => ?_, fun z => absurd z g5⟩
  unfold w_X12_sign
  exact ⟨fun z => absurd z g5, fun _ => k s1 (frm_mv m1) (m1.2.1 5 (by omega)) (m1.2.1 6 (by omega)) ⟨_, (skb_le' (t := t) hr).2.1, m1.2.2⟩⟩
theorem PF_P {D E : Nat → Prop} {t : Nat → Nat} {n row : Nat} (d : D row) (m69 : row ≠ 69) (e8 : E 8) : PFx D E t n (rmP row) := by
  intro Q s T f5 r4 k
  unfold rmP
  refine k _ (frm_u (frm_u69 frm.rf e8) d m69) ?_ ?_ ?_
  · rw [u_ne (Ne.symm m69), u_at (by omega)]
  · rw [u_ne (Ne.symm m69), u_at (by omega)]
  · rw [u_ne (Ne.symm m69), u_at (by omega)]; exact r4
theorem wf_nil {w : Nat → Nat → Int32} : ∀ (f d lo : Nat), wf w f d lo lo
  | 0, _, _ => rfl
  | _ + 1, _, _ => .inl rfl
/-- the table behind a closing bracket -/
def x3 (c : Nat) (x : wT) : wT := (x.1, up x.2 3 c (nI x.1))
theorem x3_k {c k i : Nat} {x : wT} (h : k ≠ 3) : (x3 c x).2 k i = x.2 k i := up_k (w := x.2) h
theorem x3_i {c k i : Nat} {x : wT} (h : i ≠ c) : (x3 c x).2 k i = x.2 k i := up_i (w := x.2) h
theorem x3_e {c : Nat} {x : wT} : (x3 c x).2 3 c = nI x.1 := up_eq (w := x.2)
theorem ext_ag {F B d c u : Nat} {w : Nat → Nat → Int32} {x : wT} (hd : d < 6) (hu : u ≤ 60) (e : ext F B (d + 1) (c + 1, pt c w 6 (nI u) 0) x) : ext F B d (c, w) (x3 c x) ∧ c < (x3 c x).1 := by
  obtain ⟨e1, e2, e3, f, e4⟩ := e
  have p := pt_0 (c := c) (w := w) (k := 6) (a := nI u) (b := 0)
  have e1' : c + 1 ≤ x.1 := e1
  have q : ∀ k, k ≠ 3 → (x3 c x).2 k c = pt c w 6 (nI u) 0 k c := fun k hk => (up_k hk).trans (e2 k c (Nat.lt_succ_self c))
  refine ⟨⟨Nat.le_of_succ_le e1', fun k i hi => ?_, fun i h1 h2 => ?_, f + 1, .inr ⟨x.1, e1', Nat.le_refl _, up_eq, fun _ => ⟨hd, ?_⟩, wf_nil f d x.1⟩⟩, e1'⟩
  · have hi' : i < c := hi
    exact (up_i (show i ≠ c by omega)).trans ((e2 k i (show i < c + 1 by omega)).trans (pt_o (by omega)))
  · have h1' : c ≤ i := h1
    have h2' : i < x.1 := h2
    by_cases z : i = c
    · subst z
      rw [q 0 (by omega), q 1 (by omega), q 2 (by omega), p.1, p.2.1, p.2.2.1]
      exact .inr (.inr (.inr (.inr ⟨rfl, u, hu, rfl⟩)))
    · rw [x3_i z, x3_i z, x3_i z]
      exact e3 i (show c + 1 ≤ i by omega) h2
  · exact wf_fr f (d + 1) (c + 1) x.1 e4 (fun k i h1 h2 => up_i (show i ≠ c by omega))
theorem HXv_6 {t : Nat → Nat} {n q F B d K c : Nat} {w : Nat → Nat → Int32} {Rr : (ac_m → Prop) → ac_m → Prop} (hd : d < 6) (n150 : n ≤ 150)
    (Bk : ∀ q c w, q ≤ n → skb t n q = q → 2 * c ≤ q → HXv wDC (wDM c) wE t n (rcB (d + 1) K) (rmB Rr) q (cW F B (c, w)) (wM F B (d + 1) c) (cW F B) (mB F B (d + 1) c) (fun q' x => q < q' ∧ ext F B (d + 1) (c, w) x ∧ 2 * x.1 ≤ q'))
    (hq : q ≤ n) (qq : skb t n q = q) (hc : c < 80) (h2c : 2 * (c + 1) ≤ q) :
    HXv wDC (wDM c) wE t n (fun Z Y s => rcV 0 (fun _ => 60) Z (fun u s => rcG 91 () Z (fun _ s => rcA c 6 (nI u) 0 Z (fun _ s => rcB (d + 1) K Z (fun x2 s => rcG 59 (x3 c x2) Z Y (ac_u s 41 c (s 37 4))) s) s) s) s)
      (fun Q s => rmN 0 (fun _ => 60) (476 + c) 1 (fun s => w_X12_sign (nI 91) (fun s => rmB Rr (fun s => rmP (476 + c) (fun s => w_X12_sign (nI 59) Q s) s) s) s) s) q (cW F B (c, w)) (fun s => wM F B (d + 1) (c + 1) s ∧ s (476 + c) 0 = 6) (cW F B) (mB F B d c) (wPP F B d c w) := by
  have dm : wDM c (476 + c) := by unfold wDM; omega
  have W2 : ¬ wE 2 := (wWW (c := 0)).2.2
  have W1 : ¬ wDM c 70 := wWW.2.1
  have pf3 : PFx (wDM c) wE t n (fun Q s => rmP (476 + c) (fun s => w_X12_sign (nI 59) Q s) s) := PFx_seq (RM1 := rmP (476 + c)) (RM2 := w_X12_sign (nI 59)) W1 W2 (PF_P dm (by omega) (.inl rfl)) PF_sg
  have pf2 : PFx (wDM c) wE t n (fun Q s => rmB Rr (fun s => rmP (476 + c) (fun s => w_X12_sign (nI 59) Q s) s) s) := PFx_seq (RM1 := rmB Rr) (RM2 := fun Q s => rmP (476 + c) (fun s => w_X12_sign (nI 59) Q s) s) W1 W2 PF_B pf3
  have pf1 : PFx (wDM c) wE t n (fun Q s => w_X12_sign (nI 91) (fun s => rmB Rr (fun s => rmP (476 + c) (fun s => w_X12_sign (nI 59) Q s) s) s) s) := PFx_seq (RM1 := w_X12_sign (nI 91)) (RM2 := fun Q s => rmB Rr (fun s => rmP (476 + c) (fun s => w_X12_sign (nI 59) Q s) s) s) W1 W2 PF_sg pf2
  refine HXv_seq (RC1 := rcV 0 (fun _ => 60)) (RM1 := rmN 0 (fun _ => 60) (476 + c) 1) (RM2 := fun Q s => w_X12_sign (nI 91) (fun s => rmB Rr (fun s => rmP (476 + c) (fun s => w_X12_sign (nI 59) Q s) s) s) s) (RC2 := fun u Z Y s => rcG 91 () Z (fun _ s => rcA c 6 (nI u) 0 Z (fun _ s => rcB (d + 1) K Z (fun x2 s => rcG 59 (x3 c x2) Z Y (ac_u s 41 c (s 37 4))) s) s) s) wWW (HXv_num (hi := 60) (A' := fun _ => cW F B (c, w)) (M' := fun u s => wM F B (d + 1) (c + 1) s ∧ s (476 + c) 0 = 6 ∧ s (476 + c) 1 = nI u) hq qq dm (by omega) (fun _ _ => rfl) (fun _ _ => rfl) (fun s s1 a e A m => cW_mv A m) (fun s s1 a e M m => ⟨wM_u (wM_mv M.1 m) (by omega) (by omega), by rw [u_at (by omega), m.1 _ (by omega)]; exact M.2, u_eq⟩)) pf1 (fun q1 u l1 l2 l3 P1 => ?_)
  have hu : u ≤ 60 := (nI_leI (b := 60) (by have := P1.2.1; omega) (by omega)).1 P1.2.2.2
  have q1l := P1.1
  refine HXv_seq (RC1 := rcG 91 ()) (RM1 := w_X12_sign (nI 91)) (RM2 := fun Q s => rmB Rr (fun s => rmP (476 + c) (fun s => w_X12_sign (nI 59) Q s) s) s) (RC2 := fun _ Z Y s => rcA c 6 (nI u) 0 Z (fun _ s => rcB (d + 1) K Z (fun x2 s => rcG 59 (x3 c x2) Z Y (ac_u s 41 c (s 37 4))) s) s) wWW (HXv_sg (A' := fun _ => cW F B (c, w)) (M' := fun _ s => wM F B (d + 1) (c + 1) s ∧ s (476 + c) 0 = 6 ∧ s (476 + c) 1 = nI u) () l2 l3 (by omega) (fun s s1 e f A m => cW_mv A m) (fun s s1 e M m => ⟨wM_mv M.1 m, by rw [m.1 _ (by omega)]; exact M.2.1, by rw [m.1 _ (by omega)]; exact M.2.2⟩)) pf2 (fun q2 _ k1 k2 k3 P2 => ?_)
  have q2l := P2.1
  refine HXv_seq (RC1 := rcA c 6 (nI u) 0) (RM1 := fun Q s => Q s) (RM2 := fun Q s => rmB Rr (fun s => rmP (476 + c) (fun s => w_X12_sign (nI 59) Q s) s) s) (RC2 := fun _ Z Y s => rcB (d + 1) K Z (fun x2 s => rcG 59 (x3 c x2) Z Y (ac_u s 41 c (s 37 4))) s) wWW (HXv_id (P := fun q' _ => q' = q2) (A' := fun _ => cW F B (c + 1, pt c w 6 (nI u) 0)) (M' := fun _ s => wM F B (d + 1) (c + 1) s ∧ s (476 + c) 0 = 6 ∧ s (476 + c) 1 = nI u) () k2 k3 rfl (fun Z Y s A h => ⟨A.2.2.1, fun Q hQ => c_put7 (by omega) A (fun s' f e A' => hQ s' (h s' f e A'))⟩) (fun Q s e5 M h => h s frm.rf rfl e5 M)) pf2 (fun q3 _ j1 j2 j3 e3 => ?_)
  subst e3
  obtain ⟨o, hC, hM, hG⟩ := Bk q3 (c + 1) (pt c w 6 (nI u) 0) j2 j3 (by omega)
  have mo : ∀ y, wDM (c + 1) y → wDM c y := fun y hy => by unfold wDM at hy ⊢; omega
  have hb : HXv wDC (wDM c) wE t n (rcB (d + 1) K) (rmB Rr) q3 (cW F B (c + 1, pt c w 6 (nI u) 0)) (fun s => wM F B (d + 1) (c + 1) s ∧ s (476 + c) 0 = 6 ∧ s (476 + c) 1 = nI u) (cW F B) (fun x2 s => mB F B (d + 1) (c + 1) x2 s ∧ s (476 + c) 0 = 6 ∧ s (476 + c) 1 = nI u) (fun q' x => q3 < q' ∧ ext F B (d + 1) (c + 1, pt c w 6 (nI u) 0) x ∧ 2 * x.1 ≤ q') := by
    refine ⟨o, hC, ?_, hG⟩
    intro Q s p T hp hs e4 e5 m k1 k0
    exact hM Q s p T hp hs e4 e5 m.1 (fun q' x e s' f g5 pp mx => k1 q' x e s' (frm_mo mo f) g5 pp ⟨mx, by rw [f.1 (476 + c) (by omega) (by unfold wDM; omega)]; exact m.2⟩) (fun kd pl e s' f g5 g6 r4 => k0 kd pl e s' (frm_mo mo f) g5 g6 r4)
  refine HXv_seq (RC1 := rcB (d + 1) K) (RM1 := rmB Rr) (RM2 := fun Q s => rmP (476 + c) (fun s => w_X12_sign (nI 59) Q s) s) (RC2 := fun x2 Z Y s => rcG 59 (x3 c x2) Z Y (ac_u s 41 c (s 37 4))) wWW hb pf3 (fun q4 x2 i1 i2 i3 P4 => ?_)
  obtain ⟨P41, P42, P43⟩ := P4
  obtain ⟨ea, eb⟩ := ext_ag hd hu P42
  have c2 : c + 1 ≤ x2.1 := P42.1
  have p := pt_0 (c := c) (w := w) (k := 6) (a := nI u) (b := 0)
  have w20 : x2.2 0 c = 6 := (P42.2.1 0 c (Nat.lt_succ_self c)).trans p.1
  have w21 : x2.2 1 c = nI u := (P42.2.1 1 c (Nat.lt_succ_self c)).trans p.2.1
  refine HXv_seq (RC1 := fun _ Y s => Y () (ac_u s 41 c (s 37 4))) (RM1 := rmP (476 + c)) (RM2 := w_X12_sign (nI 59)) (RC2 := fun _ => rcG 59 (x3 c x2)) wWW (HXv_id (P := fun q' _ => q' = q4) (A' := fun _ => cW F B (x3 c x2)) (M' := fun _ => mB F B d c (x3 c x2)) () i2 i3 rfl (fun Z Y s A h => ?_) (fun Q s e5 M h => ?_)) PF_sg (fun q5 _ h1 h2 h3 e5 => ?_)
  · obtain ⟨A1, A2, A3, A4, A5⟩ := A
    refine h _ (frc_u frc.rf (by unfold wDC; omega) (by omega)) (by rw [u_ne (by omega)]) ⟨by rw [u_ne (by omega)]; exact A1, by rw [u_ne (by omega)]; exact A2, by rw [u_ne (by omega)]; exact A3, by rw [u_ne (by omega)]; exact A4, fun k hk i => ?_⟩
    show _ = up x2.2 3 c (nI x2.1) k i
    by_cases z : k = 3
    · subst z
      by_cases z2 : i = c
      · rw [z2, up_eq]; exact u_eq.trans A3
      · rw [up_i z2]; exact (u_at z2).trans (A5 3 (by omega) i)
    · rw [up_k z, u_ne (by omega)]; exact A5 k hk i
  · obtain ⟨⟨⟨M1, M2, M3, M4⟩, MR⟩, r0, r1⟩ := M
    unfold rmP
    have e8 : s 69 8 - 1 = nI d := by rw [M3]; exact nI_dec d
    rw [e8]
    refine h _ (frm_u (frm_u69 frm.rf (.inl rfl)) dm (by omega)) (by rw [u_ne (by omega), u_at (by omega)]) (by rw [u_ne (by omega), u_at (by omega)]; exact e5) ⟨⟨?_, ?_, ?_, ?_⟩, fun i a b => ?_⟩
    · rw [u_ne (by omega), u_ne (by omega)]; exact M1
    · rw [u_ne (by omega), u_ne (by omega)]; exact M2
    · rw [u_ne (by omega), u_eq]
    · rw [u_ne (by omega), u_at (by omega)]; exact M4
    · have b' : i < x2.1 := b
      by_cases z : i = c
      · subst z
        refine ⟨?_, fun _ => ?_, fun y => ?_, ?_⟩
        · rw [u_at (by omega), u_ne (by omega)]; exact r0.trans (w20.symm.trans (x3_k (by omega)).symm)
        · rw [u_at (by omega), u_ne (by omega)]; exact r1.trans (w21.symm.trans (x3_k (by omega)).symm)
        · have : (x3 i x2).2 0 i = 6 := (x3_k (by omega)).trans w20
          rw [this] at y
          exact absurd y (by decide)
        · rw [u_eq, u_at (by omega)]; exact M4.trans x3_e.symm
      · have q := MR i (show c + 1 ≤ i by omega) b'
        refine rw_w (w := x2.2) (fun k => x3_i z) ?_
        unfold rwS at q ⊢
        rw [u_ne (by omega), u_ne (by omega)]; exact q
  · subst e5
    obtain ⟨o9, hC9, hM9, hG9⟩ := HXv_sg (DC := wDC) (DM := wDM c) (E := wE) (A := cW F B (x3 c x2)) (M := mB F B d c (x3 c x2)) (A' := cW F B) (M' := mB F B d c) (x3 c x2) h2 h3 (show 59 < 128 by omega) (fun s s1 e f A m => cW_mv A m) (fun s s1 e M m => ⟨wM_mv M.1 m, fun i a b => by
      have b' : i < x2.1 := b
      have r := M.2 i a b
      unfold rwS at r ⊢
      rw [m.1 _ (by omega)]; exact r⟩)
    refine ⟨o9, hC9, hM9, fun q' x e => ?_, hG9.2⟩
    obtain ⟨y1, y2, y3, y4⟩ := hG9.1 q' x e
    refine ⟨y1, y2, y3, ?_⟩
    rw [y4.2]
    exact ⟨ea, by show 2 * x2.1 ≤ q'; omega, eb⟩
theorem HXu_6 {t : Nat → Nat} {n q F B d K c : Nat} {w : Nat → Nat → Int32} (TT : okT t n) (n150 : n ≤ 150) (hd : d < 6) (Bk : ∀ q c w, q ≤ n → skb t n q = q → 2 * c ≤ q → HXv wDC (wDM c) wE t n (rcB (d + 1) K) (rmB (tk_X12_readsStep K)) q (cW F B (c, w)) (wM F B (d + 1) c) (cW F B) (mB F B (d + 1) c) (fun q' x => q < q' ∧ ext F B (d + 1) (c, w) x ∧ 2 * x.1 ≤ q')) (hq : q ≤ n) (qq : skb t n q = q) (h2c : 2 * c ≤ q) (w0 : ¬ wdA t n q 14) (w1 : ¬ wdA t n q 15) (w2 : ¬ wdA t n q 16) (w3 : ¬ wdA t n q 17) (w4 : ¬ wdA t n q 18) (w5 : ¬ wdA t n q 19) (w6 : wdA t n q 20) : HXu F B d K t n q c w := by
  have hl : rl t n q = 5 := wd_len TT wd20 w6
  have hle : q + 5 ≤ n := wd_le TT wd20 hq w6
  have sk := skb_le' (t := t) hle
  obtain ⟨o, hC, hM, hG⟩ := HXv_6 (q := skb t n (q + 5)) (w := w) hd n150 Bk sk.2.1 (skb_0 sk.2.2) (show c < 80 by omega) (by omega)
  refine ⟨o, ?_, ?_, fun q' x e => ?_, hG.2⟩
  · intro Z Y s p T hp hs e3 a k1 k0
    unfold rcT
    refine c_disp7 T hp hs e3 (fun z => absurd z w0) (fun _ z => absurd z w1) (fun _ _ z => absurd z w2) (fun _ _ _ z => absurd z w3) (fun _ _ _ _ z => absurd z w4) (fun _ _ _ _ _ z => absurd z w5) (fun _ _ _ _ _ _ _ s1 m1 => ?_) (fun _ _ _ _ _ _ z => absurd w6 z)
    exact c_again7 (x := fun _ => x3 c) hd (by omega) (hC Z (fun _ => Y) s1 (q + 5) (CT_mv T m1) hle rfl m1.2.2.1 (cW_mv a m1) (fun q' x e s' f g6 pp ax => k1 q' x e s' ((frc_mv m1).trans f) (g6.trans (m1.2.1 6 (by omega) (by omega))) pp ax) (fun kd pl e s' f g5 g6 => k0 kd pl e s' ((frc_mv m1).trans f) g5 g6))
  · intro Q s p T hp hs e4 e5 m k1 k0
    rw [tk_X12_readsStep, reads_eq]
    refine m_disp7 T hp hs e4 e5 (fun z => absurd z w0) (fun _ z => absurd z w1) (fun _ _ z => absurd z w2) (fun _ _ _ z => absurd z w3) (fun _ _ _ _ z => absurd z w4) (fun _ _ _ _ _ z => absurd z w5) (fun _ _ _ _ _ _ _ s1 m1 => ?_) (fun _ _ _ _ _ _ z => absurd w6 z)
    have f5 : s1 69 5 = 0 := by rw [m1.2.1 5 (by omega)]; exact e5
    have m1' := wM_mv m m1
    refine ⟨fun _ => ⟨fun z => absurd rfl z, fun _ => m_opensL (d := d) f5 m1'.2.2.1 (by omega) m1.2.2 hq (fun _ => m_if1A ?_) (fun z => absurd z (by omega))⟩, fun z => absurd z (by decide)⟩
    have F1 : frm (wDM c) wE s (ac_u s1 69 8 (nI (d + 1))) := frm_u69 (frm_mv m1) (.inl rfl)
    refine rsT_6 (MT_frm wWW.2.1 (wWW (c := 0)).2.2 T F1) hq (by rw [u_at (by omega)]; exact m1.2.2) (by rw [u_at (by omega)]; exact f5) hl (by rw [u_at (by omega)]; exact m1'.2.2.2) (by omega) (fun s2 m2 => ?_)
    have FR : frm (wDM c) wE s (ac_u (ac_u s2 69 28 (nI (c + 1))) (476 + c) 0 6) := frm_u (frm_u69 (F1.trans (frm_mv m2)) (.inr rfl)) (by unfold wDM; omega) (by omega)
    refine hM Q _ (q + 5) (MT_frm wWW.2.1 (wWW (c := 0)).2.2 T FR) hle rfl (by rw [u_ne (by omega), u_at (by omega)]; exact m2.2.2) (by rw [u_ne (by omega), u_at (by omega), m2.2.1 5 (by omega), u_at (by omega)]; exact f5) ⟨⟨?_, ?_, ?_, ?_⟩, u_eq⟩ (fun q' x e s' f g5 pp mx => k1 q' x e s' (FR.trans f) g5 pp mx) (fun kd pl e s' f g5 g6 r4 => k0 kd pl e s' (FR.trans f) g5 g6 r4)
    · rw [u_ne (by omega), u_ne (by omega), m2.1 73 (by omega), u_ne (by omega)]; exact m1'.1
    · rw [u_ne (by omega), u_ne (by omega), m2.1 73 (by omega), u_ne (by omega)]; exact m1'.2.1
    · rw [u_ne (by omega), u_at (by omega), m2.2.1 8 (by omega), u_eq]
    · rw [u_ne (by omega), u_eq]
  · obtain ⟨b1, b2, b3, b4⟩ := hG.1 q' x e
    exact ⟨by omega, b2, b3, by omega, b4⟩
theorem HXu_all {t : Nat → Nat} {n F B : Nat} (TT : okT t n) (n150 : n ≤ 150) (hF : F ≤ 6) (hB : B ≤ 12) : ∀ (e d : Nat), d + e = 6 → ∀ q c w, q ≤ n → skb t n q = q → 2 * c ≤ q → HXu F B d (e + 1) t n q c w := by
  intro e
  induction e with
  | zero =>
    intro d hd q c w hq qq h2c
    have e6 : d = 6 := by omega
    subst e6
    by_cases w0 : wdA t n q 14
    · exact HXu_0 TT n150 hF hB hq qq h2c w0
    by_cases w1 : wdA t n q 15
    · exact HXu_1 TT n150 hF hB hq qq h2c w0 w1
    by_cases w2 : wdA t n q 16
    · exact HXu_2 TT n150 hF hB hq qq h2c w0 w1 w2
    by_cases w3 : wdA t n q 17
    · exact HXu_3 TT n150 hF hB hq qq h2c w0 w1 w2 w3
    by_cases w4 : wdA t n q 18
    · exact HXu_4 TT n150 hF hB hq qq h2c w0 w1 w2 w3 w4
    by_cases w5 : wdA t n q 19
    · exact HXu_5 TT n150 hF hB hq qq h2c w0 w1 w2 w3 w4 w5
    by_cases w6 : wdA t n q 20
    · exact HXu_6f hq w0 w1 w2 w3 w4 w5 w6
    exact HXu_7 hq w0 w1 w2 w3 w4 w5 w6
  | succ e ih =>
    intro d hd q c w hq qq h2c
    by_cases w0 : wdA t n q 14
    · exact HXu_0 TT n150 hF hB hq qq h2c w0
    by_cases w1 : wdA t n q 15
    · exact HXu_1 TT n150 hF hB hq qq h2c w0 w1
    by_cases w2 : wdA t n q 16
    · exact HXu_2 TT n150 hF hB hq qq h2c w0 w1 w2
    by_cases w3 : wdA t n q 17
    · exact HXu_3 TT n150 hF hB hq qq h2c w0 w1 w2 w3
    by_cases w4 : wdA t n q 18
    · exact HXu_4 TT n150 hF hB hq qq h2c w0 w1 w2 w3 w4
    by_cases w5 : wdA t n q 19
    · exact HXu_5 TT n150 hF hB hq qq h2c w0 w1 w2 w3 w4 w5
    by_cases w6 : wdA t n q 20
    · exact HXu_6 TT n150 (by omega) (fun q c w hq qq h2c => HXb TT n150 (by omega) (by omega) (ih (d + 1) (by omega)) hq qq h2c) hq qq h2c w0 w1 w2 w3 w4 w5 w6
    exact HXu_7 hq w0 w1 w2 w3 w4 w5 w6
