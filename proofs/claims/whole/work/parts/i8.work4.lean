/-! WORK: a step with its sign, on both sides -/
def rcT (d K : Nat) (Z Y : ac_m → Prop) (s : ac_m) : Prop := w_X7_readStep (nI d) (fun r41 s41 => (r41 = 0 → (Z s41)) ∧ (¬ r41 = 0 → (w_X10_expects (59 : Int32) (fun r50 s50 => (¬ r50 = 0 → (Y s50)) ∧ (r50 = 0 → (Z s50))) s41))) (tk_X7_readSteps K) s
def uQ (Z Y : ac_m → Prop) (r : Int32) (s : ac_m) : Prop := ac_bo r ∧ ((r = 0 → (Z s)) ∧ (¬ r = 0 → (w_X10_expects (59 : Int32) (fun r50 s50 => (¬ r50 = 0 → (Y s50)) ∧ (r50 = 0 → (Z s50))) s)))
theorem uQ0 {Z Y : ac_m → Prop} {s : ac_m} (h : Z s) : uQ Z Y 0 s := ⟨bo_0, fun _ => h, fun z => absurd rfl z⟩
theorem uQ1 {α : Type} {x : α} {Z Y : ac_m → Prop} {s : ac_m} (h : rcG 59 x Z (fun _ => Y) s) : uQ Z Y 1 s := ⟨bo_1, fun z => absurd z (by decide), fun _ => h _ (fun s z => ⟨fun w => absurd rfl w, fun _ => z⟩) (fun s y => ⟨fun _ => y, fun w => absurd w (by decide)⟩)⟩
theorem c_beast7 {α : Type} {k : Int32} {x : Nat → α} {Z Y : ac_m → Prop} {s : ac_m} (h : rcV 0 (fun s => s 3 11 - 1) Z (fun a s => rcP k (nI a) 0 Z (fun _ s => rcG 59 (x a) Z (fun _ => Y) s) s) s) : w_X7_readBeast k (uQ Z Y) s := by
  unfold w_X7_readBeast
  exact h _ (fun s z => ⟨fun _ => uQ0 z, fun w => absurd rfl w⟩) (fun a s ha hp => ⟨fun w => absurd w ha, fun _ => hp _ (fun s hg => ⟨fun w => absurd w (by decide), fun _ => uQ1 hg⟩)⟩)
theorem c_drive7 {α : Type} {x : Nat → Nat → α} {Z Y : ac_m → Prop} {s : ac_m} (h : rcV 0 (fun s => s 3 11 - 1) Z (fun a s => rcV 0 (fun s => s 3 10 - 1) Z (fun b s => rcP 1 (nI a) (nI b) Z (fun _ s => rcG 59 (x a b) Z (fun _ => Y) s) s) s) s) : w_X7_readDrive (uQ Z Y) s := by
  unfold w_X7_readDrive
  exact h _ (fun s z => ⟨fun w => absurd rfl w, fun _ => uQ0 z⟩) (fun a s ha hp => ⟨fun _ => hp _ (fun s z => ⟨fun _ => uQ0 z, fun w => absurd rfl w⟩) (fun b s hb hq => ⟨fun w => absurd w hb, fun _ => hq _ (fun s hg => ⟨fun w => absurd w (by decide), fun _ => uQ1 hg⟩)⟩), fun w => absurd w ha⟩)
theorem c_hay7 {α : Type} {x : Nat → Nat → α} {Z Y : ac_m → Prop} {s : ac_m} (h : rcV 0 (fun s => s 3 10 - 1) Z (fun a s => rcV 1 (fun _ => 60) Z (fun b s => rcP 4 (nI a) (nI b) Z (fun _ s => rcG 59 (x a b) Z (fun _ => Y) s) s) s) s) : w_X7_readHay (uQ Z Y) s := by
  unfold w_X7_readHay
  exact h _ (fun s z => ⟨fun w => absurd rfl w, fun _ => uQ0 z⟩) (fun a s ha hp => ⟨fun _ => hp _ (fun s z => ⟨fun _ => uQ0 z, fun w => absurd rfl w⟩) (fun b s hb hq => ⟨fun w => absurd w hb, fun _ => hq _ (fun s hg => ⟨fun w => absurd w (by decide), fun _ => uQ1 hg⟩)⟩), fun w => absurd w ha⟩)
theorem c_day7 {α : Type} {x : α} {Z Y : ac_m → Prop} {s : ac_m} (h : rcP 5 0 0 Z (fun _ s => rcG 59 x Z (fun _ => Y) s) s) : w_X7_put 5 0 0 (uQ Z Y) s := h _ (fun _ hg => uQ1 hg)
def rcB (d K : Nat) (Z : ac_m → Prop) (Y : wT → ac_m → Prop) (s : ac_m) : Prop := ∀ Q : Int32 → ac_m → Prop, (∀ s, Z s → Q 0 s) → (∀ x s, Y x s → Q 1 s) → tk_X7_readSteps K (nI d) Q s
def rcA (c : Nat) (k a b : Int32) (Z : ac_m → Prop) (Y : Unit → ac_m → Prop) (s : ac_m) : Prop := s 37 4 = nI c ∧ rcP k a b Z Y s
theorem c_again7 {d K c : Nat} {x : Nat → wT → wT} {Z Y : ac_m → Prop} {s : ac_m} (hd : d < 6) (hc : c < 150) (h : rcV 0 (fun _ => 60) Z (fun t s => rcG 91 () Z (fun _ s => rcA c 6 (nI t) 0 Z (fun _ s => rcB (d + 1) K Z (fun x2 s => rcG 59 (x t x2) Z (fun _ => Y) (ac_u s 41 c (s 37 4))) s) s) s) s) : w_X7_readAgain (nI d) (uQ Z Y) (tk_X7_readSteps K) s := by
  unfold w_X7_readAgain
  refine ⟨fun _ => ?_, fun z => absurd (nI_lt (b := 6) hd (by omega)) z⟩
  refine h _ (fun s z => ⟨fun _ => uQ0 z, fun w => absurd rfl w⟩) (fun t s ht hg => ⟨fun w => absurd w ht, fun _ => hg _ (fun s z => ⟨fun w => absurd rfl w, fun _ => uQ0 z⟩) (fun s ha => ⟨fun _ => ha.2 _ (fun s2 hb => ?_), fun w => absurd w (by decide)⟩)⟩)
  rw [ha.1, nI_1]
  refine hb _ (fun s z => ⟨fun w => absurd rfl w, fun _ => uQ0 z⟩) (fun x2 s3 hy => ⟨fun _ => ⟨fun w => absurd w (nI_pos (by omega)), fun _ => ⟨fun w => absurd w (nI_ge (b := 150) hc (by omega)), fun _ => ⟨vp_in_nI hc (by omega), ?_⟩⟩⟩, fun w => absurd w (by decide)⟩)
  rw [cl_nI (by omega)]
  exact uQ1 hy
theorem lt_dec2 {a F : Nat} (h : nI a ≤ nI F - 1) (ha : a ≤ 100000) (hF : F ≤ 12) : a < F := by
  rcases F with _ | f
  · have p := nI_pos' (n := a) (by omega)
    exact absurd (Int32.le_trans p h) (by decide)
  · rw [nI_dec] at h
    have := (nI_leI (by omega) (by omega)).1 h
    omega
def HXu (F B d K : Nat) (t : Nat → Nat) (n q c : Nat) (w : Nat → Nat → Int32) : Prop := HX wDC (wDM c) wE t n (rcT d K) (tk_X12_readsStep (K + 1)) q (cW F B (c, w)) (wM F B d c) (cW F B) (mB F B d c) (fun q' x => q < q' ∧ wPP F B d c w q' x)
theorem HXv_1 {t : Nat → Nat} {n q F B d c : Nat} {w : Nat → Nat → Int32} {k : Int32} (hk : k = 0 ∨ k = 2 ∨ k = 3) (hB : B ≤ 12) (hq : q ≤ n) (qq : skb t n q = q) (hc : c < 80) (h2c : 2 * (c + 1) ≤ q) :
    HXv wDC (wDM c) wE t n (fun Z Y s => rcV 0 (fun s => s 3 11 - 1) Z (fun a s => rcP k (nI a) 0 Z (fun _ s => rcG 59 (c + 1, pt c w k (nI a) 0) Z Y s) s) s) (fun Q s => rmN 0 (fun s => s 73 1 - 1) (476 + c) 1 (fun s => rmF (476 + c) Q s) s) q (cW F B (c, w)) (fun s => wM F B d (c + 1) s ∧ s (476 + c) 0 = k) (cW F B) (mB F B d c) (wPP F B d c w) := by
  have dm : wDM c (476 + c) := by unfold wDM; omega
  have n14 : ¬ (k = 1 ∨ k = 4) := by rcases hk with rfl | rfl | rfl <;> decide
  refine HXv_seq (RC1 := rcV 0 (fun s => s 3 11 - 1)) (RM1 := rmN 0 (fun s => s 73 1 - 1) (476 + c) 1) (RM2 := rmF (476 + c)) (RC2 := fun a Z Y s => rcP k (nI a) 0 Z (fun _ s => rcG 59 (c + 1, pt c w k (nI a) 0) Z Y s) s) wWW (HXv_num (hi := nI B - 1) (A' := fun _ => cW F B (c, w)) (M' := fun a s => wM F B d (c + 1) s ∧ s (476 + c) 0 = k ∧ (k ≠ 5 → s (476 + c) 1 = nI a) ∧ ((k = 1 ∨ k = 4) → s (476 + c) 2 = 0)) hq qq dm (by omega) (fun s A => by rw [A.2.1]) (fun s M => by rw [M.1.2.1]) (fun s s1 a e A m => cW_mv A m) (fun s s1 a e M m => ⟨wM_u (wM_mv M.1 m) (by omega) (by omega), by rw [u_at (by omega), m.1 _ (by omega)]; exact M.2, fun _ => u_eq, fun z => absurd z n14⟩)) (PF_F dm (by omega)) (fun q1 a l1 l2 l3 P1 => ?_)
  exact HXv_PS l2 l3 hc (by omega) (.inl ⟨hk, a, lt_dec2 P1.2.2.2 P1.2.1 hB, rfl⟩) (by rcases hk with rfl | rfl | rfl <;> decide)
theorem HXv_2 {t : Nat → Nat} {n q F B d c : Nat} {w : Nat → Nat → Int32} (hF : F ≤ 6) (hB : B ≤ 12) (hq : q ≤ n) (qq : skb t n q = q) (hc : c < 80) (h2c : 2 * (c + 1) ≤ q) :
    HXv wDC (wDM c) wE t n (fun Z Y s => rcV 0 (fun s => s 3 11 - 1) Z (fun a s => rcV 0 (fun s => s 3 10 - 1) Z (fun b s => rcP 1 (nI a) (nI b) Z (fun _ s => rcG 59 (c + 1, pt c w 1 (nI a) (nI b)) Z Y s) s) s) s) (fun Q s => rmN 0 (fun s => s 73 1 - 1) (476 + c) 1 (fun s => rmN 0 (fun s => s 73 0 - 1) (476 + c) 2 (fun s => rmF (476 + c) Q s) s) s) q (cW F B (c, w)) (fun s => wM F B d (c + 1) s ∧ s (476 + c) 0 = 1) (cW F B) (mB F B d c) (wPP F B d c w) := by
  have dm : wDM c (476 + c) := by unfold wDM; omega
  refine HXv_seq (RC1 := rcV 0 (fun s => s 3 11 - 1)) (RM1 := rmN 0 (fun s => s 73 1 - 1) (476 + c) 1) (RM2 := fun Q s => rmN 0 (fun s => s 73 0 - 1) (476 + c) 2 (fun s => rmF (476 + c) Q s) s) (RC2 := fun a Z Y s => rcV 0 (fun s => s 3 10 - 1) Z (fun b s => rcP 1 (nI a) (nI b) Z (fun _ s => rcG 59 (c + 1, pt c w 1 (nI a) (nI b)) Z Y s) s) s) wWW (HXv_num (hi := nI B - 1) (A' := fun _ => cW F B (c, w)) (M' := fun a s => wM F B d (c + 1) s ∧ s (476 + c) 0 = 1 ∧ s (476 + c) 1 = nI a) hq qq dm (by omega) (fun s A => by rw [A.2.1]) (fun s M => by rw [M.1.2.1]) (fun s s1 a e A m => cW_mv A m) (fun s s1 a e M m => ⟨wM_u (wM_mv M.1 m) (by omega) (by omega), by rw [u_at (by omega), m.1 _ (by omega)]; exact M.2, u_eq⟩)) (PFx_seq (RM1 := rmN 0 (fun s => s 73 0 - 1) (476 + c) 2) (RM2 := rmF (476 + c)) wWW.2.1 (wWW (c := 0)).2.2 (PF_num dm (by omega)) (PF_F dm (by omega))) (fun q1 a l1 l2 l3 P1 => ?_)
  refine HXv_seq (RC1 := rcV 0 (fun s => s 3 10 - 1)) (RM1 := rmN 0 (fun s => s 73 0 - 1) (476 + c) 2) (RM2 := rmF (476 + c)) (RC2 := fun b Z Y s => rcP 1 (nI a) (nI b) Z (fun _ s => rcG 59 (c + 1, pt c w 1 (nI a) (nI b)) Z Y s) s) wWW (HXv_num (hi := nI F - 1) (A' := fun _ => cW F B (c, w)) (M' := fun b s => wM F B d (c + 1) s ∧ s (476 + c) 0 = 1 ∧ ((1 : Int32) ≠ 5 → s (476 + c) 1 = nI a) ∧ (((1 : Int32) = 1 ∨ (1 : Int32) = 4) → s (476 + c) 2 = nI b)) l2 l3 dm (by omega) (fun s A => by rw [A.1]) (fun s M => by rw [M.1.1]) (fun s s1 a e A m => cW_mv A m) (fun s s1 a e M m => ⟨wM_u (wM_mv M.1 m) (by omega) (by omega), by rw [u_at (by omega), m.1 _ (by omega)]; exact M.2.1, fun _ => by rw [u_at (by omega), m.1 _ (by omega)]; exact M.2.2, fun _ => u_eq⟩)) (PF_F dm (by omega)) (fun q2 b k1 k2 k3 P2 => ?_)
  exact HXv_PS k2 k3 hc (by omega) (.inr (.inl ⟨rfl, ⟨a, lt_dec2 P1.2.2.2 P1.2.1 hB, rfl⟩, b, lt_dec2 P2.2.2.2 P2.2.1 (by omega), rfl⟩)) (by decide)
theorem HXv_4 {t : Nat → Nat} {n q F B d c : Nat} {w : Nat → Nat → Int32} (hF : F ≤ 6) (hq : q ≤ n) (qq : skb t n q = q) (hc : c < 80) (h2c : 2 * (c + 1) ≤ q) :
    HXv wDC (wDM c) wE t n (fun Z Y s => rcV 0 (fun s => s 3 10 - 1) Z (fun a s => rcV 1 (fun _ => 60) Z (fun b s => rcP 4 (nI a) (nI b) Z (fun _ s => rcG 59 (c + 1, pt c w 4 (nI a) (nI b)) Z Y s) s) s) s) (fun Q s => rmN 0 (fun s => s 73 0 - 1) (476 + c) 1 (fun s => rmN 1 (fun _ => 60) (476 + c) 2 (fun s => rmF (476 + c) Q s) s) s) q (cW F B (c, w)) (fun s => wM F B d (c + 1) s ∧ s (476 + c) 0 = 4) (cW F B) (mB F B d c) (wPP F B d c w) := by
  have dm : wDM c (476 + c) := by unfold wDM; omega
  refine HXv_seq (RC1 := rcV 0 (fun s => s 3 10 - 1)) (RM1 := rmN 0 (fun s => s 73 0 - 1) (476 + c) 1) (RM2 := fun Q s => rmN 1 (fun _ => 60) (476 + c) 2 (fun s => rmF (476 + c) Q s) s) (RC2 := fun a Z Y s => rcV 1 (fun _ => 60) Z (fun b s => rcP 4 (nI a) (nI b) Z (fun _ s => rcG 59 (c + 1, pt c w 4 (nI a) (nI b)) Z Y s) s) s) wWW (HXv_num (hi := nI F - 1) (A' := fun _ => cW F B (c, w)) (M' := fun a s => wM F B d (c + 1) s ∧ s (476 + c) 0 = 4 ∧ s (476 + c) 1 = nI a) hq qq dm (by omega) (fun s A => by rw [A.1]) (fun s M => by rw [M.1.1]) (fun s s1 a e A m => cW_mv A m) (fun s s1 a e M m => ⟨wM_u (wM_mv M.1 m) (by omega) (by omega), by rw [u_at (by omega), m.1 _ (by omega)]; exact M.2, u_eq⟩)) (PFx_seq (RM1 := rmN 1 (fun _ => 60) (476 + c) 2) (RM2 := rmF (476 + c)) wWW.2.1 (wWW (c := 0)).2.2 (PF_num dm (by omega)) (PF_F dm (by omega))) (fun q1 a l1 l2 l3 P1 => ?_)
  refine HXv_seq (RC1 := rcV 1 (fun _ => 60)) (RM1 := rmN 1 (fun _ => 60) (476 + c) 2) (RM2 := rmF (476 + c)) (RC2 := fun b Z Y s => rcP 4 (nI a) (nI b) Z (fun _ s => rcG 59 (c + 1, pt c w 4 (nI a) (nI b)) Z Y s) s) wWW (HXv_num (hi := 60) (A' := fun _ => cW F B (c, w)) (M' := fun b s => wM F B d (c + 1) s ∧ s (476 + c) 0 = 4 ∧ ((4 : Int32) ≠ 5 → s (476 + c) 1 = nI a) ∧ (((4 : Int32) = 1 ∨ (4 : Int32) = 4) → s (476 + c) 2 = nI b)) l2 l3 dm (by omega) (fun _ _ => rfl) (fun _ _ => rfl) (fun s s1 a e A m => cW_mv A m) (fun s s1 a e M m => ⟨wM_u (wM_mv M.1 m) (by omega) (by omega), by rw [u_at (by omega), m.1 _ (by omega)]; exact M.2.1, fun _ => by rw [u_at (by omega), m.1 _ (by omega)]; exact M.2.2, fun _ => u_eq⟩)) (PF_F dm (by omega)) (fun q2 b k1 k2 k3 P2 => ?_)
  exact HXv_PS k2 k3 hc (by omega) (.inr (.inr (.inl ⟨rfl, ⟨a, lt_dec2 P1.2.2.2 P1.2.1 (by omega), rfl⟩, b, (nI_leI (b := 60) (by have := P2.2.1; omega) (by omega)).1 P2.2.2.2, rfl⟩))) (by decide)
theorem HXv_5 {t : Nat → Nat} {n q F B d c : Nat} {w : Nat → Nat → Int32} (hq : q ≤ n) (qq : skb t n q = q) (hc : c < 80) (h2c : 2 * (c + 1) ≤ q) :
    HXv wDC (wDM c) wE t n (fun Z Y s => rcP 5 0 0 Z (fun _ s => rcG 59 (c + 1, pt c w 5 0 0) Z Y s) s) (rmF (476 + c)) q (cW F B (c, w)) (fun s => wM F B d (c + 1) s ∧ s (476 + c) 0 = 5) (cW F B) (mB F B d c) (wPP F B d c w) := by
  obtain ⟨o, hC, hM, hG⟩ := HXv_PS (F := F) (B := B) (d := d) (w := w) (a := 0) (b := 0) hq qq hc h2c (.inr (.inr (.inr (.inl rfl)))) (show (5 : Int32) ≠ 6 by decide)
  refine ⟨o, hC, ?_, hG⟩
  intro Q s p T hp hs e4 e5 m k1 k0
  exact hM Q s p T hp hs e4 e5 ⟨m.1, m.2, fun z => absurd rfl z, fun z => absurd z (by decide)⟩ k1 k0
theorem HXu_0 {t : Nat → Nat} {n q F B d K c : Nat} {w : Nat → Nat → Int32} (TT : okT t n) (n150 : n ≤ 150) (hF : F ≤ 6) (hB : B ≤ 12) (hq : q ≤ n) (qq : skb t n q = q) (h2c : 2 * c ≤ q) (w0 : wdA t n q 14) : HXu F B d K t n q c w := by
  have hl : rl t n q = 3 := wd_len TT wd14 w0
  have hle : q + 3 ≤ n := wd_le TT wd14 hq w0
  have sk := skb_le' (t := t) hle
  obtain ⟨o, hC, hM, hG⟩ := HXv_1 (k := 0) (.inl rfl) hB (t := t) (n := n) (q := skb t n (q + 3)) (F := F) (B := B) (d := d) (c := c) (w := w) sk.2.1 (skb_0 sk.2.2) (by omega) (by omega)
  refine ⟨o, ?_, ?_, fun q' x e => ?_, hG.2⟩
  · intro Z Y s p T hp hs e3 a k1 k0
    unfold rcT
    refine c_disp7 T hp hs e3 (fun _ s1 m1 => ?_) (fun z => absurd w0 z) (fun z => absurd w0 z) (fun z => absurd w0 z) (fun z => absurd w0 z) (fun z => absurd w0 z) (fun z => absurd w0 z) (fun z => absurd w0 z)
    exact c_beast7 (hC Z (fun _ => Y) s1 (q + 3) (CT_mv T m1) hle rfl m1.2.2.1 (cW_mv a m1) (fun q' x e s' f g6 pp ax => k1 q' x e s' ((frc_mv m1).trans f) (g6.trans (m1.2.1 6 (by omega) (by omega))) pp ax) (fun kd pl e s' f g5 g6 => k0 kd pl e s' ((frc_mv m1).trans f) g5 g6))
  · intro Q s p T hp hs e4 e5 m k1 k0
    rw [tk_X12_readsStep, reads_eq]
    refine m_disp7 T hp hs e4 e5 (fun _ s1 m1 => ?_) (fun z => absurd w0 z) (fun z => absurd w0 z) (fun z => absurd w0 z) (fun z => absurd w0 z) (fun z => absurd w0 z) (fun z => absurd w0 z) (fun z => absurd w0 z)
    have f5 : s1 69 5 = 0 := by rw [m1.2.1 5 (by omega)]; exact e5
    have m1' := wM_mv m m1
    refine ⟨fun _ => ⟨fun _ => rsT_0 (MT_mv T m1) hq m1.2.2 f5 hl m1'.2.2.2 (by omega) (fun s2 m2 => ?_), fun z => absurd z (by decide)⟩, fun z => absurd z (by decide)⟩
    have m2' := wM_mv m1' m2
    have FR : frm (wDM c) wE s (ac_u (ac_u s2 69 28 (nI (c + 1))) (476 + c) 0 0) := frm_u (frm_u69 (frm_mv (m1.trans m2)) (.inr rfl)) (by unfold wDM; omega) (by omega)
    refine hM Q _ (q + 3) (MT_frm wWW.2.1 (wWW (c := 0)).2.2 T FR) hle rfl (by rw [u_ne (by omega), u_at (by omega)]; exact m2.2.2) (by rw [u_ne (by omega), u_at (by omega), m2.2.1 5 (by omega)]; exact f5) ⟨⟨?_, ?_, ?_, ?_⟩, u_eq⟩ (fun q' x e s' f g5 pp mx => k1 q' x e s' (FR.trans f) g5 pp mx) (fun kd pl e s' f g5 g6 r4 => k0 kd pl e s' (FR.trans f) g5 g6 r4)
    · rw [u_ne (by omega), u_ne (by omega)]; exact m2'.1
    · rw [u_ne (by omega), u_ne (by omega)]; exact m2'.2.1
    · rw [u_ne (by omega), u_at (by omega)]; exact m2'.2.2.1
    · rw [u_ne (by omega), u_eq]
  · obtain ⟨b1, b2, b3, b4⟩ := hG.1 q' x e
    exact ⟨by omega, b2, b3, by omega, b4⟩
theorem HXu_1 {t : Nat → Nat} {n q F B d K c : Nat} {w : Nat → Nat → Int32} (TT : okT t n) (n150 : n ≤ 150) (hF : F ≤ 6) (hB : B ≤ 12) (hq : q ≤ n) (qq : skb t n q = q) (h2c : 2 * c ≤ q) (w0 : ¬ wdA t n q 14) (w1 : wdA t n q 15) : HXu F B d K t n q c w := by
  have hl : rl t n q = 5 := wd_len TT wd15 w1
  have hle : q + 5 ≤ n := wd_le TT wd15 hq w1
  have sk := skb_le' (t := t) hle
  obtain ⟨o, hC, hM, hG⟩ := HXv_2 hF hB (t := t) (n := n) (q := skb t n (q + 5)) (F := F) (B := B) (d := d) (c := c) (w := w) sk.2.1 (skb_0 sk.2.2) (by omega) (by omega)
  refine ⟨o, ?_, ?_, fun q' x e => ?_, hG.2⟩
  · intro Z Y s p T hp hs e3 a k1 k0
    unfold rcT
    refine c_disp7 T hp hs e3 (fun z => absurd z w0) (fun _ _ s1 m1 => ?_) (fun _ z => absurd w1 z) (fun _ z => absurd w1 z) (fun _ z => absurd w1 z) (fun _ z => absurd w1 z) (fun _ z => absurd w1 z) (fun _ z => absurd w1 z)
    exact c_drive7 (hC Z (fun _ => Y) s1 (q + 5) (CT_mv T m1) hle rfl m1.2.2.1 (cW_mv a m1) (fun q' x e s' f g6 pp ax => k1 q' x e s' ((frc_mv m1).trans f) (g6.trans (m1.2.1 6 (by omega) (by omega))) pp ax) (fun kd pl e s' f g5 g6 => k0 kd pl e s' ((frc_mv m1).trans f) g5 g6))
  · intro Q s p T hp hs e4 e5 m k1 k0
    rw [tk_X12_readsStep, reads_eq]
    refine m_disp7 T hp hs e4 e5 (fun z => absurd z w0) (fun _ _ s1 m1 => ?_) (fun _ z => absurd w1 z) (fun _ z => absurd w1 z) (fun _ z => absurd w1 z) (fun _ z => absurd w1 z) (fun _ z => absurd w1 z) (fun _ z => absurd w1 z)
    have f5 : s1 69 5 = 0 := by rw [m1.2.1 5 (by omega)]; exact e5
    have m1' := wM_mv m m1
    refine ⟨fun _ => ⟨fun _ => rsT_1 (MT_mv T m1) hq m1.2.2 f5 hl m1'.2.2.2 (by omega) (fun s2 m2 => ?_), fun z => absurd z (by decide)⟩, fun z => absurd z (by decide)⟩
    have m2' := wM_mv m1' m2
    have FR : frm (wDM c) wE s (ac_u (ac_u s2 69 28 (nI (c + 1))) (476 + c) 0 1) := frm_u (frm_u69 (frm_mv (m1.trans m2)) (.inr rfl)) (by unfold wDM; omega) (by omega)
    refine hM Q _ (q + 5) (MT_frm wWW.2.1 (wWW (c := 0)).2.2 T FR) hle rfl (by rw [u_ne (by omega), u_at (by omega)]; exact m2.2.2) (by rw [u_ne (by omega), u_at (by omega), m2.2.1 5 (by omega)]; exact f5) ⟨⟨?_, ?_, ?_, ?_⟩, u_eq⟩ (fun q' x e s' f g5 pp mx => k1 q' x e s' (FR.trans f) g5 pp mx) (fun kd pl e s' f g5 g6 r4 => k0 kd pl e s' (FR.trans f) g5 g6 r4)
    · rw [u_ne (by omega), u_ne (by omega)]; exact m2'.1
    · rw [u_ne (by omega), u_ne (by omega)]; exact m2'.2.1
    · rw [u_ne (by omega), u_at (by omega)]; exact m2'.2.2.1
    · rw [u_ne (by omega), u_eq]
  · obtain ⟨b1, b2, b3, b4⟩ := hG.1 q' x e
    exact ⟨by omega, b2, b3, by omega, b4⟩
theorem HXu_2 {t : Nat → Nat} {n q F B d K c : Nat} {w : Nat → Nat → Int32} (TT : okT t n) (n150 : n ≤ 150) (hF : F ≤ 6) (hB : B ≤ 12) (hq : q ≤ n) (qq : skb t n q = q) (h2c : 2 * c ≤ q) (w0 : ¬ wdA t n q 14) (w1 : ¬ wdA t n q 15) (w2 : wdA t n q 16) : HXu F B d K t n q c w := by
  have hl : rl t n q = 4 := wd_len TT wd16 w2
  have hle : q + 4 ≤ n := wd_le TT wd16 hq w2
  have sk := skb_le' (t := t) hle
  obtain ⟨o, hC, hM, hG⟩ := HXv_1 (k := 2) (.inr (.inl rfl)) hB (t := t) (n := n) (q := skb t n (q + 4)) (F := F) (B := B) (d := d) (c := c) (w := w) sk.2.1 (skb_0 sk.2.2) (by omega) (by omega)
  refine ⟨o, ?_, ?_, fun q' x e => ?_, hG.2⟩
  · intro Z Y s p T hp hs e3 a k1 k0
    unfold rcT
    refine c_disp7 T hp hs e3 (fun z => absurd z w0) (fun _ z => absurd z w1) (fun _ _ _ s1 m1 => ?_) (fun _ _ z => absurd w2 z) (fun _ _ z => absurd w2 z) (fun _ _ z => absurd w2 z) (fun _ _ z => absurd w2 z) (fun _ _ z => absurd w2 z)
    exact c_beast7 (hC Z (fun _ => Y) s1 (q + 4) (CT_mv T m1) hle rfl m1.2.2.1 (cW_mv a m1) (fun q' x e s' f g6 pp ax => k1 q' x e s' ((frc_mv m1).trans f) (g6.trans (m1.2.1 6 (by omega) (by omega))) pp ax) (fun kd pl e s' f g5 g6 => k0 kd pl e s' ((frc_mv m1).trans f) g5 g6))
  · intro Q s p T hp hs e4 e5 m k1 k0
    rw [tk_X12_readsStep, reads_eq]
    refine m_disp7 T hp hs e4 e5 (fun z => absurd z w0) (fun _ z => absurd z w1) (fun _ _ _ s1 m1 => ?_) (fun _ _ z => absurd w2 z) (fun _ _ z => absurd w2 z) (fun _ _ z => absurd w2 z) (fun _ _ z => absurd w2 z) (fun _ _ z => absurd w2 z)
    have f5 : s1 69 5 = 0 := by rw [m1.2.1 5 (by omega)]; exact e5
    have m1' := wM_mv m m1
    refine ⟨fun _ => ⟨fun _ => rsT_2 (MT_mv T m1) hq m1.2.2 f5 hl m1'.2.2.2 (by omega) (fun s2 m2 => ?_), fun z => absurd z (by decide)⟩, fun z => absurd z (by decide)⟩
    have m2' := wM_mv m1' m2
    have FR : frm (wDM c) wE s (ac_u (ac_u s2 69 28 (nI (c + 1))) (476 + c) 0 2) := frm_u (frm_u69 (frm_mv (m1.trans m2)) (.inr rfl)) (by unfold wDM; omega) (by omega)
    refine hM Q _ (q + 4) (MT_frm wWW.2.1 (wWW (c := 0)).2.2 T FR) hle rfl (by rw [u_ne (by omega), u_at (by omega)]; exact m2.2.2) (by rw [u_ne (by omega), u_at (by omega), m2.2.1 5 (by omega)]; exact f5) ⟨⟨?_, ?_, ?_, ?_⟩, u_eq⟩ (fun q' x e s' f g5 pp mx => k1 q' x e s' (FR.trans f) g5 pp mx) (fun kd pl e s' f g5 g6 r4 => k0 kd pl e s' (FR.trans f) g5 g6 r4)
    · rw [u_ne (by omega), u_ne (by omega)]; exact m2'.1
    · rw [u_ne (by omega), u_ne (by omega)]; exact m2'.2.1
    · rw [u_ne (by omega), u_at (by omega)]; exact m2'.2.2.1
    · rw [u_ne (by omega), u_eq]
  · obtain ⟨b1, b2, b3, b4⟩ := hG.1 q' x e
    exact ⟨by omega, b2, b3, by omega, b4⟩
theorem HXu_3 {t : Nat → Nat} {n q F B d K c : Nat} {w : Nat → Nat → Int32} (TT : okT t n) (n150 : n ≤ 150) (hF : F ≤ 6) (hB : B ≤ 12) (hq : q ≤ n) (qq : skb t n q = q) (h2c : 2 * c ≤ q) (w0 : ¬ wdA t n q 14) (w1 : ¬ wdA t n q 15) (w2 : ¬ wdA t n q 16) (w3 : wdA t n q 17) : HXu F B d K t n q c w := by
  have hl : rl t n q = 2 := wd_len TT wd17 w3
  have hle : q + 2 ≤ n := wd_le TT wd17 hq w3
  have sk := skb_le' (t := t) hle
  obtain ⟨o, hC, hM, hG⟩ := HXv_1 (k := 3) (.inr (.inr rfl)) hB (t := t) (n := n) (q := skb t n (q + 2)) (F := F) (B := B) (d := d) (c := c) (w := w) sk.2.1 (skb_0 sk.2.2) (by omega) (by omega)
  refine ⟨o, ?_, ?_, fun q' x e => ?_, hG.2⟩
  · intro Z Y s p T hp hs e3 a k1 k0
    unfold rcT
    refine c_disp7 T hp hs e3 (fun z => absurd z w0) (fun _ z => absurd z w1) (fun _ _ z => absurd z w2) (fun _ _ _ _ s1 m1 => ?_) (fun _ _ _ z => absurd w3 z) (fun _ _ _ z => absurd w3 z) (fun _ _ _ z => absurd w3 z) (fun _ _ _ z => absurd w3 z)
    exact c_beast7 (hC Z (fun _ => Y) s1 (q + 2) (CT_mv T m1) hle rfl m1.2.2.1 (cW_mv a m1) (fun q' x e s' f g6 pp ax => k1 q' x e s' ((frc_mv m1).trans f) (g6.trans (m1.2.1 6 (by omega) (by omega))) pp ax) (fun kd pl e s' f g5 g6 => k0 kd pl e s' ((frc_mv m1).trans f) g5 g6))
  · intro Q s p T hp hs e4 e5 m k1 k0
    rw [tk_X12_readsStep, reads_eq]
    refine m_disp7 T hp hs e4 e5 (fun z => absurd z w0) (fun _ z => absurd z w1) (fun _ _ z => absurd z w2) (fun _ _ _ _ s1 m1 => ?_) (fun _ _ _ z => absurd w3 z) (fun _ _ _ z => absurd w3 z) (fun _ _ _ z => absurd w3 z) (fun _ _ _ z => absurd w3 z)
    have f5 : s1 69 5 = 0 := by rw [m1.2.1 5 (by omega)]; exact e5
    have m1' := wM_mv m m1
    refine ⟨fun _ => ⟨fun _ => rsT_3 (MT_mv T m1) hq m1.2.2 f5 hl m1'.2.2.2 (by omega) (fun s2 m2 => ?_), fun z => absurd z (by decide)⟩, fun z => absurd z (by decide)⟩
    have m2' := wM_mv m1' m2
    have FR : frm (wDM c) wE s (ac_u (ac_u s2 69 28 (nI (c + 1))) (476 + c) 0 3) := frm_u (frm_u69 (frm_mv (m1.trans m2)) (.inr rfl)) (by unfold wDM; omega) (by omega)
    refine hM Q _ (q + 2) (MT_frm wWW.2.1 (wWW (c := 0)).2.2 T FR) hle rfl (by rw [u_ne (by omega), u_at (by omega)]; exact m2.2.2) (by rw [u_ne (by omega), u_at (by omega), m2.2.1 5 (by omega)]; exact f5) ⟨⟨?_, ?_, ?_, ?_⟩, u_eq⟩ (fun q' x e s' f g5 pp mx => k1 q' x e s' (FR.trans f) g5 pp mx) (fun kd pl e s' f g5 g6 r4 => k0 kd pl e s' (FR.trans f) g5 g6 r4)
    · rw [u_ne (by omega), u_ne (by omega)]; exact m2'.1
    · rw [u_ne (by omega), u_ne (by omega)]; exact m2'.2.1
    · rw [u_ne (by omega), u_at (by omega)]; exact m2'.2.2.1
    · rw [u_ne (by omega), u_eq]
  · obtain ⟨b1, b2, b3, b4⟩ := hG.1 q' x e
    exact ⟨by omega, b2, b3, by omega, b4⟩
theorem HXu_4 {t : Nat → Nat} {n q F B d K c : Nat} {w : Nat → Nat → Int32} (TT : okT t n) (n150 : n ≤ 150) (hF : F ≤ 6) (hB : B ≤ 12) (hq : q ≤ n) (qq : skb t n q = q) (h2c : 2 * c ≤ q) (w0 : ¬ wdA t n q 14) (w1 : ¬ wdA t n q 15) (w2 : ¬ wdA t n q 16) (w3 : ¬ wdA t n q 17) (w4 : wdA t n q 18) : HXu F B d K t n q c w := by
  have hl : rl t n q = 3 := wd_len TT wd18 w4
  have hle : q + 3 ≤ n := wd_le TT wd18 hq w4
  have sk := skb_le' (t := t) hle
  obtain ⟨o, hC, hM, hG⟩ := HXv_4 hF (t := t) (n := n) (q := skb t n (q + 3)) (F := F) (B := B) (d := d) (c := c) (w := w) sk.2.1 (skb_0 sk.2.2) (by omega) (by omega)
  refine ⟨o, ?_, ?_, fun q' x e => ?_, hG.2⟩
  · intro Z Y s p T hp hs e3 a k1 k0
    unfold rcT
    refine c_disp7 T hp hs e3 (fun z => absurd z w0) (fun _ z => absurd z w1) (fun _ _ z => absurd z w2) (fun _ _ _ z => absurd z w3) (fun _ _ _ _ _ s1 m1 => ?_) (fun _ _ _ _ z => absurd w4 z) (fun _ _ _ _ z => absurd w4 z) (fun _ _ _ _ z => absurd w4 z)
    exact c_hay7 (hC Z (fun _ => Y) s1 (q + 3) (CT_mv T m1) hle rfl m1.2.2.1 (cW_mv a m1) (fun q' x e s' f g6 pp ax => k1 q' x e s' ((frc_mv m1).trans f) (g6.trans (m1.2.1 6 (by omega) (by omega))) pp ax) (fun kd pl e s' f g5 g6 => k0 kd pl e s' ((frc_mv m1).trans f) g5 g6))
  · intro Q s p T hp hs e4 e5 m k1 k0
    rw [tk_X12_readsStep, reads_eq]
    refine m_disp7 T hp hs e4 e5 (fun z => absurd z w0) (fun _ z => absurd z w1) (fun _ _ z => absurd z w2) (fun _ _ _ z => absurd z w3) (fun _ _ _ _ _ s1 m1 => ?_) (fun _ _ _ _ z => absurd w4 z) (fun _ _ _ _ z => absurd w4 z) (fun _ _ _ _ z => absurd w4 z)
    have f5 : s1 69 5 = 0 := by rw [m1.2.1 5 (by omega)]; exact e5
    have m1' := wM_mv m m1
    refine ⟨fun _ => ⟨fun _ => rsT_4 (MT_mv T m1) hq m1.2.2 f5 hl m1'.2.2.2 (by omega) (fun s2 m2 => ?_), fun z => absurd z (by decide)⟩, fun z => absurd z (by decide)⟩
    have m2' := wM_mv m1' m2
    have FR : frm (wDM c) wE s (ac_u (ac_u s2 69 28 (nI (c + 1))) (476 + c) 0 4) := frm_u (frm_u69 (frm_mv (m1.trans m2)) (.inr rfl)) (by unfold wDM; omega) (by omega)
    refine hM Q _ (q + 3) (MT_frm wWW.2.1 (wWW (c := 0)).2.2 T FR) hle rfl (by rw [u_ne (by omega), u_at (by omega)]; exact m2.2.2) (by rw [u_ne (by omega), u_at (by omega), m2.2.1 5 (by omega)]; exact f5) ⟨⟨?_, ?_, ?_, ?_⟩, u_eq⟩ (fun q' x e s' f g5 pp mx => k1 q' x e s' (FR.trans f) g5 pp mx) (fun kd pl e s' f g5 g6 r4 => k0 kd pl e s' (FR.trans f) g5 g6 r4)
    · rw [u_ne (by omega), u_ne (by omega)]; exact m2'.1
    · rw [u_ne (by omega), u_ne (by omega)]; exact m2'.2.1
    · rw [u_ne (by omega), u_at (by omega)]; exact m2'.2.2.1
    · rw [u_ne (by omega), u_eq]
  · obtain ⟨b1, b2, b3, b4⟩ := hG.1 q' x e
    exact ⟨by omega, b2, b3, by omega, b4⟩
theorem HXu_5 {t : Nat → Nat} {n q F B d K c : Nat} {w : Nat → Nat → Int32} (TT : okT t n) (n150 : n ≤ 150) (hF : F ≤ 6) (hB : B ≤ 12) (hq : q ≤ n) (qq : skb t n q = q) (h2c : 2 * c ≤ q) (w0 : ¬ wdA t n q 14) (w1 : ¬ wdA t n q 15) (w2 : ¬ wdA t n q 16) (w3 : ¬ wdA t n q 17) (w4 : ¬ wdA t n q 18) (w5 : wdA t n q 19) : HXu F B d K t n q c w := by
  have hl : rl t n q = 3 := wd_len TT wd19 w5
  have hle : q + 3 ≤ n := wd_le TT wd19 hq w5
  have sk := skb_le' (t := t) hle
  obtain ⟨o, hC, hM, hG⟩ := HXv_5 (t := t) (n := n) (q := skb t n (q + 3)) (F := F) (B := B) (d := d) (c := c) (w := w) sk.2.1 (skb_0 sk.2.2) (by omega) (by omega)
  refine ⟨o, ?_, ?_, fun q' x e => ?_, hG.2⟩
  · intro Z Y s p T hp hs e3 a k1 k0
    unfold rcT
    refine c_disp7 T hp hs e3 (fun z => absurd z w0) (fun _ z => absurd z w1) (fun _ _ z => absurd z w2) (fun _ _ _ z => absurd z w3) (fun _ _ _ _ z => absurd z w4) (fun _ _ _ _ _ _ s1 m1 => ?_) (fun _ _ _ _ _ z => absurd w5 z) (fun _ _ _ _ _ z => absurd w5 z)
    exact c_day7 (hC Z (fun _ => Y) s1 (q + 3) (CT_mv T m1) hle rfl m1.2.2.1 (cW_mv a m1) (fun q' x e s' f g6 pp ax => k1 q' x e s' ((frc_mv m1).trans f) (g6.trans (m1.2.1 6 (by omega) (by omega))) pp ax) (fun kd pl e s' f g5 g6 => k0 kd pl e s' ((frc_mv m1).trans f) g5 g6))
  · intro Q s p T hp hs e4 e5 m k1 k0
    rw [tk_X12_readsStep, reads_eq]
    refine m_disp7 T hp hs e4 e5 (fun z => absurd z w0) (fun _ z => absurd z w1) (fun _ _ z => absurd z w2) (fun _ _ _ z => absurd z w3) (fun _ _ _ _ z => absurd z w4) (fun _ _ _ _ _ _ s1 m1 => ?_) (fun _ _ _ _ _ z => absurd w5 z) (fun _ _ _ _ _ z => absurd w5 z)
    have f5 : s1 69 5 = 0 := by rw [m1.2.1 5 (by omega)]; exact e5
    have m1' := wM_mv m m1
    refine ⟨fun _ => ⟨fun _ => rsT_5 (MT_mv T m1) hq m1.2.2 f5 hl m1'.2.2.2 (by omega) (fun s2 m2 => ?_), fun z => absurd z (by decide)⟩, fun z => absurd z (by decide)⟩
    have m2' := wM_mv m1' m2
    have FR : frm (wDM c) wE s (ac_u (ac_u s2 69 28 (nI (c + 1))) (476 + c) 0 5) := frm_u (frm_u69 (frm_mv (m1.trans m2)) (.inr rfl)) (by unfold wDM; omega) (by omega)
    refine hM Q _ (q + 3) (MT_frm wWW.2.1 (wWW (c := 0)).2.2 T FR) hle rfl (by rw [u_ne (by omega), u_at (by omega)]; exact m2.2.2) (by rw [u_ne (by omega), u_at (by omega), m2.2.1 5 (by omega)]; exact f5) ⟨⟨?_, ?_, ?_, ?_⟩, u_eq⟩ (fun q' x e s' f g5 pp mx => k1 q' x e s' (FR.trans f) g5 pp mx) (fun kd pl e s' f g5 g6 r4 => k0 kd pl e s' (FR.trans f) g5 g6 r4)
    · rw [u_ne (by omega), u_ne (by omega)]; exact m2'.1
    · rw [u_ne (by omega), u_ne (by omega)]; exact m2'.2.1
    · rw [u_ne (by omega), u_at (by omega)]; exact m2'.2.2.1
    · rw [u_ne (by omega), u_eq]
  · obtain ⟨b1, b2, b3, b4⟩ := hG.1 q' x e
    exact ⟨by omega, b2, b3, by omega, b4⟩
theorem rsT_f {Q : ac_m → Prop} {Rr : (ac_m → Prop) → ac_m → Prop} {r1 : Int32} {s : ac_m} (e : ¬ s 69 5 = 0) (h : Q s) : rsT Q Rr r1 s := by
  unfold rsT
  exact ⟨fun z => absurd z e, fun _ => h⟩
theorem HXu_7 {t : Nat → Nat} {n q F B d K c : Nat} {w : Nat → Nat → Int32} (hq : q ≤ n) (w0 : ¬ wdA t n q 14) (w1 : ¬ wdA t n q 15) (w2 : ¬ wdA t n q 16) (w3 : ¬ wdA t n q 17) (w4 : ¬ wdA t n q 18) (w5 : ¬ wdA t n q 19) (w6 : ¬ wdA t n q 20) : HXu F B d K t n q c w := by
  refine ⟨.inl (1, q), ?_, ?_, fun _ _ e => (by cases e), fun a b e => (by cases e; omega)⟩
  · intro Z Y s p T hp hs e3 a k1 k0
    unfold rcT
    exact c_disp7 T hp hs e3 (fun z => absurd z w0) (fun _ z => absurd z w1) (fun _ _ z => absurd z w2) (fun _ _ _ z => absurd z w3) (fun _ _ _ _ z => absurd z w4) (fun _ _ _ _ _ z => absurd z w5) (fun _ _ _ _ _ _ z => absurd z w6) (fun _ _ _ _ _ _ _ s1 f1 => ⟨fun _ => k0 1 q rfl s1 (frc_fl f1) f1.2.2.1 f1.2.2.2, fun z => absurd rfl z⟩)
  · intro Q s p T hp hs e4 e5 m k1 k0
    rw [tk_X12_readsStep, reads_eq]
    refine m_disp7 T hp hs e4 e5 (fun z => absurd z w0) (fun _ z => absurd z w1) (fun _ _ z => absurd z w2) (fun _ _ _ z => absurd z w3) (fun _ _ _ _ z => absurd z w4) (fun _ _ _ _ _ z => absurd z w5) (fun _ _ _ _ _ _ z => absurd z w6) (fun _ _ _ _ _ _ _ s1 m1 => ?_)
    have f5 : s1 69 5 = 0 := by rw [m1.2.1 5 (by omega)]; exact e5
    refine ⟨fun z => absurd rfl z, fun _ => ?_⟩
    rw [m1.2.2]
    exact m_wrong0 (kd := 1) (n := n) f5 m1.2.2 hq (fun s2 f2 _ => ⟨fun _ => rsT_f (by rw [f2.2.2.1]; exact nI_k (by omega)) (k0 1 q rfl s2 ((frm_mv m1).trans (frm_fl f2)) f2.2.2.1 f2.2.2.2.1 f2.2.2.2.2), fun z => absurd z (by decide)⟩)
theorem HXu_6f {t : Nat → Nat} {n q F B K c : Nat} {w : Nat → Nat → Int32} (hq : q ≤ n) (w0 : ¬ wdA t n q 14) (w1 : ¬ wdA t n q 15) (w2 : ¬ wdA t n q 16) (w3 : ¬ wdA t n q 17) (w4 : ¬ wdA t n q 18) (w5 : ¬ wdA t n q 19) (w6 : wdA t n q 20) : HXu F B 6 K t n q c w := by
  refine ⟨.inl (3, q), ?_, ?_, fun _ _ e => (by cases e), fun a b e => (by cases e; omega)⟩
  · intro Z Y s p T hp hs e3 a k1 k0
    unfold rcT
    refine c_disp7 T hp hs e3 (fun z => absurd z w0) (fun _ z => absurd z w1) (fun _ _ z => absurd z w2) (fun _ _ _ z => absurd z w3) (fun _ _ _ _ z => absurd z w4) (fun _ _ _ _ _ z => absurd z w5) (fun _ _ _ _ _ _ _ s1 m1 => ?_) (fun _ _ _ _ _ _ z => absurd w6 z)
    unfold w_X7_readAgain
    exact ⟨fun z => absurd z (by decide), fun _ => c_fail (kd := 3) m1.2.2.2 (fun s' f => ⟨bo_0, bo_0, fun _ => k0 3 q rfl s' ((frc_mv m1).trans (frc_fl f)) f.2.2.1 f.2.2.2, fun z => absurd rfl z⟩)⟩
  · intro Q s p T hp hs e4 e5 m k1 k0
    rw [tk_X12_readsStep, reads_eq]
    refine m_disp7 T hp hs e4 e5 (fun z => absurd z w0) (fun _ z => absurd z w1) (fun _ _ z => absurd z w2) (fun _ _ _ z => absurd z w3) (fun _ _ _ _ z => absurd z w4) (fun _ _ _ _ _ z => absurd z w5) (fun _ _ _ _ _ _ _ s1 m1 => ?_) (fun _ _ _ _ _ _ z => absurd w6 z)
    have f5 : s1 69 5 = 0 := by rw [m1.2.1 5 (by omega)]; exact e5
    have m1' := wM_mv m m1
    refine ⟨fun _ => ⟨fun z => absurd rfl z, fun _ => m_opensL (d := 6) f5 m1'.2.2.1 (by omega) m1.2.2 hq (fun z => absurd z (by omega)) (fun _ s2 f2 => ?_)⟩, fun z => absurd z (by decide)⟩
    exact ⟨fun z => absurd rfl z, fun _ => k0 3 q rfl s2 ((frm_mv m1).trans (frm_fl f2)) f2.2.2.1 f2.2.2.2.1 f2.2.2.2.2⟩
/-! WORK: the steps between brackets -/
def blP (f3 : Int32) (Q : Int32 → ac_m → Prop) (Rp : Int32 → (Int32 → ac_m → Prop) → ac_m → Prop) (P : Int32 → ac_m → Prop) : Prop := ∀ (x4 : Int32) (s : ac_m), (((s 1 2) < x4 → (Q (1 : Int32) s)) ∧ (¬ (s 1 2) < x4 → ((¬ f3 = 0 → (w_X10_passes (93 : Int32) (fun r29 s29 => (r29 = 0 → (w_X7_readStep f3 (fun r41 s41 => (r41 = 0 → (Q (0 : Int32) s41)) ∧ (¬ r41 = 0 → (w_X10_expects (59 : Int32) (fun r50 s50 => (¬ r50 = 0 → (P (x4 + (1 : Int32)) s50)) ∧ (r50 = 0 → (Q (0 : Int32) s50))) s41))) Rp s29)) ∧ (¬ r29 = 0 → (Q (1 : Int32) s29))) s)) ∧ (f3 = 0 → (w_X10_ended  (fun r17 s17 => (r17 = 0 → (w_X7_readStep f3 (fun r41 s41 => (r41 = 0 → (Q (0 : Int32) s41)) ∧ (¬ r41 = 0 → (w_X10_expects (59 : Int32) (fun r50 s50 => (¬ r50 = 0 → (P (x4 + (1 : Int32)) s50)) ∧ (r50 = 0 → (Q (0 : Int32) s50))) s41))) Rp s17)) ∧ (¬ r17 = 0 → (Q (1 : Int32) s17))) s))))) → P x4 s
def blQ (Rr : (ac_m → Prop) → ac_m → Prop) (X : ac_m → Prop) (P : ac_m → Prop) : Prop := ∀ (s : ac_m), ((¬ (s 69 5) = 0 → (w_X12_sign (93 : Int32) X s)) ∧ ((s 69 5) = 0 → (w_X12_byteAt (s 69 4) (fun r180 s180 => (r180 = (93 : Int32) → (w_X12_sign (93 : Int32) X s180)) ∧ (¬ r180 = (93 : Int32) → (Rr (fun s189 => w_X12_blanks (fun s193 => P s193) s189) s180))) s))) → P s
theorem frm_mo {D D' E : Nat → Prop} {s s' : ac_m} (h : ∀ y, D' y → D y) (f : frm D' E s s') : frm D E s s' := ⟨fun y y1 y2 => f.1 y y1 (fun z => y2 (h y z)), f.2⟩
theorem rw_fr {c : Nat} {s s' : ac_m} {w : Nat → Nat → Int32} {i : Nat} (f : frm (wDM c) wE s s') (hi : i < c) (hc : c ≤ 79) (h : rwS s w i) : rwS s' w i := by
  unfold rwS at h ⊢
  rw [f.1 (476 + i) (by omega) (by unfold wDM; omega)]; exact h
theorem rw_w {s : ac_m} {w w' : Nat → Nat → Int32} {i : Nat} (e : ∀ k, w' k i = w k i) (h : rwS s w i) : rwS s w' i := by
  unfold rwS at h ⊢
  rw [e 0, e 1, e 2, e 3]; exact h
theorem mB_tr {F B d c : Nat} {x1 x2 : wT} {s1 s2 : ac_m} (h1 : mB F B d c x1 s1) (f : frm (wDM x1.1) wE s1 s2) (hc : x1.1 ≤ 79) (e : ext F B d x1 x2) (h2 : mB F B d x1.1 x2 s2) : mB F B d c x2 s2 := by
  refine ⟨h2.1, fun i a b => ?_⟩
  rcases Nat.lt_or_ge i x1.1 with z | z
  · exact rw_w (fun k => e.2.1 k i z) (rw_fr f z hc (h1.2 i a z))
  · exact h2.2 i z b
theorem bl_loop {t : Nat → Nat} {n F B d K : Nat} (TT : okT t n) (n150 : n ≤ 150) (d1 : 1 ≤ d) (d6 : d ≤ 6) (U : ∀ q c w, q ≤ n → skb t n q = q → 2 * c ≤ q → HXu F B d K t n q c w) : ∀ (f q c : Nat) (w : Nat → Nat → Int32), n - q < f → q ≤ n → skb t n q = q → 2 * c ≤ q → ∃ o : (Nat × Nat) ⊕ (Nat × wT),
    (∀ (Q P : Int32 → ac_m → Prop), blP (nI d) Q (tk_X7_readSteps K) P → ∀ (s : ac_m) (p k : Nat), CT s t n → p ≤ n → skb t n p = q → s 1 3 = nI p → k ≤ q → cW F B (c, w) s → (∀ q' x, o = .inr (q', x) → ∀ s', frc wDC s s' → s' 1 6 = s 1 6 → (∃ p', p' ≤ n ∧ skb t n p' = q' ∧ s' 1 3 = nI p') → cW F B x s' → Q 1 s') → (∀ kd pl, o = .inl (kd, pl) → ∀ s', frc wDC s s' → s' 1 5 = nI kd → s' 1 6 = nI pl → Q 0 s') → P (nI k) s) ∧
    (∀ (X P : ac_m → Prop), blQ (tk_X12_readsStep (K + 1)) X P → ∀ (s : ac_m), MT s t n → s 69 4 = nI q → s 69 5 = 0 → wM F B d c s → (∀ q' x, o = .inr (q', x) → ∀ s', frm (wDM c) wE s s' → s' 69 5 = 0 → (∃ p', p' ≤ n ∧ skb t n p' = q' ∧ s' 69 4 = nI p') → mB F B d c x s' → X s') → (∀ kd pl, o = .inl (kd, pl) → ∀ s', frm (wDM c) wE s s' → s' 69 5 = nI kd → s' 69 6 = nI pl → (∃ r, r ≤ n ∧ s' 69 4 = nI r) → X s') → P s) ∧
    hxG t n q (fun q' x => q < q' ∧ ext F B d (c, w) x ∧ 2 * x.1 ≤ q') o := by
  have h6 := TT.1
  have nd : ¬ nI d = 0 := nI_ne0 (by omega) (by omega)
  intro f
  induction f with
  | zero => intro q c w h; exact absurd h (Nat.not_lt_zero _)
  | succ f ih =>
    intro q c w hf hq qq h2c
    by_cases c93 : ch t n q = 93
    · have e1 : q + 1 ≤ n := by
        rcases Nat.lt_or_ge q n with z | z
        · exact z
        · rw [ch_end z] at c93; omega
      have sk := skb_le' (t := t) e1
      refine ⟨.inr (skb t n (q + 1), (c, w)), fun Q P hP s p k T hp hs e3 hk a k1 k0 => ?_, fun X P hP s T e4 e5 m k1 k0 => ?_, fun q' x e => ?_, fun _ _ e => (by cases e)⟩
      · refine hP _ _ ⟨fun z => absurd z (by rw [T.1]; exact nI_nlt (by omega) (by omega)), fun _ => ⟨fun _ => c_passes (c := 93) T hp e3 (by omega) (fun _ s1 m1 => m_if1B ?_) (fun z => absurd (by rw [hs]; exact c93) z), fun z => absurd z nd⟩⟩
        rw [hs] at m1
        exact k1 _ _ rfl s1 (frc_mv m1) (m1.2.1 6 (by omega) (by omega)) ⟨_, e1, rfl, m1.2.2.1⟩ (cW_mv a m1)
      · refine hP _ ⟨fun z => absurd e5 z, fun _ => ?_⟩
        rw [e4]
        refine m_byte T (by omega) ⟨fun _ => ?_, fun z => absurd ((kM_eq _ (ch_lt TT q) 93 (by omega)).2 c93) z⟩
        refine m_sign (c := 93) T hq e4 e5 (by omega) (fun _ s1 m1 => ?_) (fun z => absurd (by rw [qq]; exact c93) z)
        rw [qq] at m1
        exact k1 _ _ rfl s1 (frm_mv m1) (by rw [m1.2.1 5 (by omega)]; exact e5) ⟨_, e1, rfl, m1.2.2⟩ ⟨wM_mv m m1, fun i h1 h2 => absurd h1 (by have : i < c := h2; omega)⟩
      · cases e
        exact ⟨by omega, sk.2.1, skb_0 sk.2.2, by omega, ext_rf, by show 2 * c ≤ _; omega⟩
    · obtain ⟨o, hC, hM, hG⟩ := U q c w hq qq h2c
      have go : ∀ (Q P : Int32 → ac_m → Prop), blP (nI d) Q (tk_X7_readSteps K) P → ∀ (s : ac_m) (p k : Nat), CT s t n → p ≤ n → skb t n p = q → s 1 3 = nI p → k ≤ q → (∀ s1, mv s s1 q q → rcT d K (Q 0) (P (nI (k + 1))) s1) → P (nI k) s := by
        intro Q P hP s p k T hp hs e3 hk h
        refine hP _ _ ⟨fun z => absurd z (by rw [T.1]; exact nI_nlt (by omega) (by omega)), fun _ => ⟨fun _ => c_passes (c := 93) T hp e3 (by omega) (fun z => absurd (by rw [hs] at z; exact z) c93) (fun _ s1 m1 => m_if0B ?_), fun z => absurd z nd⟩⟩
        rw [hs] at m1
        rw [nI_1]
        exact h s1 m1
      have goM : ∀ (X P : ac_m → Prop), blQ (tk_X12_readsStep (K + 1)) X P → ∀ (s : ac_m), MT s t n → s 69 4 = nI q → s 69 5 = 0 → tk_X12_readsStep (K + 1) (fun s189 => w_X12_blanks (fun s193 => P s193) s189) s → P s := by
        intro X P hP s T e4 e5 h
        refine hP _ ⟨fun z => absurd e5 z, fun _ => ?_⟩
        rw [e4]
        exact m_byte T (by omega) ⟨fun z => absurd ((kM_eq _ (ch_lt TT q) 93 (by omega)).1 z) c93, fun _ => h⟩
      rcases o with ⟨kd, pl⟩ | ⟨q1, x1⟩
      · refine ⟨.inl (kd, pl), fun Q P hP s p k T hp hs e3 hk a k1 k0 => ?_, fun X P hP s T e4 e5 m k1 k0 => ?_, fun _ _ e => (by cases e), fun a b e => hG.2 a b (by cases e; rfl)⟩
        · refine go Q P hP s p k T hp hs e3 hk (fun s1 m1 => ?_)
          exact hC (Q 0) (P (nI (k + 1))) s1 q (CT_mv T m1) hq qq m1.2.2.1 (cW_mv a m1) (fun _ _ e => (by cases e)) (fun a b e s' f g5 g6 => k0 a b (by cases e; rfl) s' ((frc_mv m1).trans f) g5 g6)
        · refine goM X P hP s T e4 e5 ?_
          refine hM _ s q T hq qq e4 e5 m (fun _ _ e => (by cases e)) (fun a b e s' f g5 g6 r4 => ?_)
          cases e
          obtain ⟨r, hr, er⟩ := r4
          refine m_blanks (MT_frm wWW.2.1 (wWW (c := 0)).2.2 T f) hr er (fun s2 m2 => ?_)
          have f5 : s2 69 5 = nI kd := by rw [m2.2.1 5 (by omega)]; exact g5
          have n5 : ¬ s2 69 5 = 0 := by rw [f5]; exact nI_k (hG.2 kd pl rfl)
          refine hP _ ⟨fun _ => ?_, fun z => absurd z n5⟩
          unfold w_X12_sign
          exact ⟨fun z => absurd z n5, fun _ => k0 kd pl rfl s2 (f.trans (frm_mv m2)) f5 (by rw [m2.2.1 6 (by omega)]; exact g6) ⟨_, (skb_le' (t := t) hr).2.1, m2.2.2⟩⟩
      · obtain ⟨b1, b2, b3, b4, b5, b6, b7⟩ := hG.1 q1 x1 rfl
        obtain ⟨c1, w1⟩ := x1
        have c1' : 2 * c1 ≤ q1 := b6
        obtain ⟨o2, hC2, hM2, hG2⟩ := ih q1 c1 w1 (by omega) b2 b3 b6
        refine ⟨o2, fun Q P hP s p k T hp hs e3 hk a k1 k0 => ?_, fun X P hP s T e4 e5 m k1 k0 => ?_, fun q' x e => ?_, hG2.2⟩
        · refine go Q P hP s p k T hp hs e3 hk (fun s1 m1 => ?_)
          refine hC (Q 0) (P (nI (k + 1))) s1 q (CT_mv T m1) hq qq m1.2.2.1 (cW_mv a m1) (fun q' x' e s2 f2 g6 pp a2 => ?_) (fun _ _ e => (by cases e))
          cases e
          obtain ⟨p2, hp2, sp2, ep2⟩ := pp
          exact hC2 Q P hP s2 p2 (k + 1) (CT_frc (wWW (c := 0)).1 (CT_mv T m1) f2) hp2 sp2 ep2 (by omega) a2 (fun q' x' e s' f g pp a => k1 q' x' e s' ((frc_mv m1).trans (f2.trans f)) (g.trans (g6.trans (m1.2.1 6 (by omega) (by omega)))) pp a) (fun kd pl e s' f g5 g6 => k0 kd pl e s' ((frc_mv m1).trans (f2.trans f)) g5 g6)
        · refine goM X P hP s T e4 e5 ?_
          refine hM _ s q T hq qq e4 e5 m (fun q' x' e s2 f2 g5 pp a2 => ?_) (fun _ _ e => (by cases e))
          cases e
          obtain ⟨p2, hp2, sp2, ep2⟩ := pp
          have T2 := MT_frm wWW.2.1 (wWW (c := 0)).2.2 T f2
          refine m_blanks T2 hp2 ep2 (fun s3 m3 => ?_)
          rw [sp2] at m3
          have mo : ∀ y, wDM c1 y → wDM c y := fun y hy => by unfold wDM at hy ⊢; have : c < c1 := b7; omega
          have a3 : mB F B d c (c1, w1) s3 := ⟨wM_mv a2.1 m3, fun i h1 h2 => by
            have h2' : i < c1 := h2
            have r := a2.2 i h1 h2
            unfold rwS at r ⊢
            rw [m3.1 _ (by omega)]; exact r⟩
          refine hM2 X P hP s3 (MT_mv T2 m3) m3.2.2 (by rw [m3.2.1 5 (by omega)]; exact g5) a3.1 (fun q' x' e s' f g5 pp a => k1 q' x' e s' (f2.trans ((frm_mv m3).trans (frm_mo mo f))) g5 pp ?_) (fun kd pl e s' f g5 g6 r4 => k0 kd pl e s' (f2.trans ((frm_mv m3).trans (frm_mo mo f))) g5 g6 r4)
          exact mB_tr (x1 := (c1, w1)) a3 f (by show c1 ≤ 79; omega) (hG2.1 q' x' e).2.2.2.2.1 a
        · obtain ⟨j1, j2, j3, j4, j5, j6⟩ := hG2.1 q' x e
          exact ⟨by omega, j2, j3, by omega, ext_tr b5 j5, j6⟩
