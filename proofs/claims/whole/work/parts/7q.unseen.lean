/-! WHAT GRAZES UNSEEN -/
def xK (s : ac_m) (f w : Nat) : ro := upd (upd (cpx s) 12 (nI w)) 38 (nI f)
def yK (s : ac_m) (f w : Nat) : ro := upd (upd (upd (kO f (cpx s) 13) 12 (nI w)) 25 0) 38 (nI f)
/-- the grass there after so many days, with the unseen beast -/
def gK (s : ac_m) (F f k w d : Nat) : Int32 := dys (ac_u s 114 2 (nI k)) F (xK s f w) d (39 + f)
/-- whether the book allows it -/
def okA (s : ac_m) (F f k w : Nat) : Prop := ∀ d, d < 12 → (s 34 (d + 1) = -1 ∨ s 34 (d + 1) = gK s F f k w (d + 1))
theorem xK_pt {s : ac_m} {f w : Nat} (j : Nat) : xK s f w j = if j = 38 then nI f else if j = 12 then nI w else cpx s j := rfl
theorem yK_pt {s : ac_m} {f w : Nat} (j : Nat) : yK s f w j = if j = 38 then nI f else if j = 25 then 0 else if j = 12 then nI w else kO f (cpx s) 13 j := rfl
theorem vN_12 {F : Nat} {x y : ro} {f w : Nat} (v : vN (nI F) x) (hF : F ≤ 6) (hf : f < F) (w1 : 1 ≤ w) (w2 : w ≤ 30) (h0 : ∀ j, j ≠ 12 → j ≠ 25 → j ≠ 38 → y j = x j) (h1 : y 12 = nI w) (h2 : y 38 = nI f) : vN (nI F) y := by
  refine ⟨fun b hb => ?_, fun g hg => ?_, fun i j hi hj => ?_⟩
  · by_cases e : b = 12
    · subst e
      show (y 12 = 0 ∧ y 25 = 0 ∧ y 38 = -1) ∨ (1 ≤ y 12 ∧ y 12 ≤ 30 ∧ 0 ≤ y 38 ∧ y 38 < nI F)
      rw [h1, h2]
      exact .inr ⟨nI_le (a := 1) w1 (by omega), nI_le (b := 30) w2 (by omega), nI_pos' (by omega), nI_lt hf (by omega)⟩
    · rw [h0 b (by omega) (by omega) (by omega), h0 (13 + b) (by omega) (by omega) (by omega), h0 (26 + b) (by omega) (by omega) (by omega)]
      exact v.1 b hb
  · rw [h0 _ (by omega) (by omega) (by omega)]; exact v.2.1 g hg
  · rw [h0 _ (by omega) (by omega) (by omega), h0 _ (by omega) (by omega) (by omega)]; exact v.2.2 i j hi hj
theorem En_xK {s : ac_m} {F f w : Nat} {κ : Int32} (en : En s F (cpx s)) (hf : f < F) (w1 : 1 ≤ w) (w2 : w ≤ 30) : En (ac_u s 114 2 κ) F (xK s f w) := by
  refine En_kp kp_114 ⟨en.1, en.2.1, en.2.2.1, vN_12 en.2.2.2.1 en.2.1 hf w1 w2 (fun j j1 j2 j3 => by rw [xK_pt, if_neg j3, if_neg j1]) rfl rfl, fun b h1 h2 => en.2.2.2.2.1 b h1 ?_, en.2.2.2.2.2⟩
  rw [xK_pt, if_neg (by omega), if_neg (by omega)] at h2
  exact h2
theorem En_yK {s : ac_m} {F f w : Nat} (en : En s F (cpx s)) (hf : f < F) (w1 : 1 ≤ w) (w2 : w ≤ 30) : En s F (yK s f w) := by
  have ek := En_kO (f := f) en
  refine ⟨en.1, en.2.1, en.2.2.1, vN_12 ek.2.2.2.1 en.2.1 hf w1 w2 (fun j j1 j2 j3 => by rw [yK_pt, if_neg j3, if_neg j2, if_neg j1]) rfl rfl, fun b h1 h2 => ek.2.2.2.2.1 b h1 ?_, en.2.2.2.2.2⟩
  rw [yK_pt, if_neg (by omega), if_neg (by omega), if_neg (by omega)] at h2
  exact h2
theorem prj_K {s : ac_m} {F f w : Nat} (en : En s F (cpx s)) (z : cpx s 12 ≤ 0) (hf : f < F) (w1 : 1 ≤ w) (w2 : w ≤ 30) : prj f (xK s f w) (yK s f w) := by
  have hF := en.2.1
  have p := prj_kO (f := f) (by omega) en.2.2.2.1
  have q12 := (en.2.2.2.1.1 12 (by omega)).resolve_right (fun y => absurd y.1 (by grind))
  refine ⟨fun b hb => ?_, ?_, fun k hk => ?_, ?_⟩
  · by_cases e : b = 12
    · subst e
      have wp : ¬ nI w ≤ 0 := nI_nle (by omega) (by omega)
      show (xK s f w 12 ≤ 0 ∨ xK s f w 38 ≠ nI f → _) ∧ (¬ xK s f w 12 ≤ 0 → xK s f w 38 = nI f → yK s f w 12 = xK s f w 12 ∧ yK s f w 25 = xK s f w 25 ∧ yK s f w 38 = nI f)
      have a1 : xK s f w 12 = nI w := rfl
      have a2 : xK s f w 38 = nI f := rfl
      have a3 : xK s f w 25 = cpx s 25 := rfl
      rw [a1, a2, a3]
      refine ⟨fun y => absurd y (fun y => by rcases y with y | y; exact wp y; exact y rfl), fun _ _ => ⟨rfl, ?_, rfl⟩⟩
      exact q12.2.1.symm
    · rw [xK_pt b, if_neg (by omega), if_neg e, xK_pt (13 + b), if_neg (by omega), if_neg (by omega), xK_pt (26 + b), if_neg (by omega), if_neg (by omega), yK_pt b, if_neg (by omega), if_neg (by omega), if_neg e, yK_pt (13 + b), if_neg (by omega), if_neg (by omega), if_neg (by omega), yK_pt (26 + b), if_neg (by omega), if_neg (by omega), if_neg (by omega)]
      exact p.1 b hb
  · rw [xK_pt, if_neg (by omega), if_neg (by omega), yK_pt, if_neg (by omega), if_neg (by omega), if_neg (by omega)]; exact p.2.1
  · rw [xK_pt, if_neg (by omega), if_neg (by omega), yK_pt, if_neg (by omega), if_neg (by omega), if_neg (by omega)]; exact p.2.2.1 k hk
  · rw [xK_pt, if_neg (by omega), if_neg (by omega), yK_pt, if_neg (by omega), if_neg (by omega), if_neg (by omega)]; exact p.2.2.2
theorem gK_y {s : ac_m} {F f w k d : Nat} (en : En s F (cpx s)) (z : cpx s 12 ≤ 0) (hf : f < F) (w1 : 1 ≤ w) (w2 : w ≤ 30) : dys (ac_u s 114 2 (nI k)) F (yK s f w) d (39 + f) = gK s F f k w d :=
  (prj_dys (En_xK en hf w1 w2) hf (prj_K en z hf w1 w2) d).2.1
/-- what a try of the class changes -/
def fz9 (s s' : ac_m) : Prop := ∀ y, y ≠ 27 → y ≠ 28 → y ≠ 66 → (y < 50 ∨ 57 < y) → s' y = s y
theorem fz9_kp {s s' : ac_m} (h : fz9 s s') : kp s s' := by
  refine ⟨fun a ha => ?_, fun k _ => by rw [h 69 (by omega) (by omega) (by omega) (by omega)]⟩
  refine h a (fun e => by subst e; cases ha) (fun e => by subst e; cases ha) (fun e => by subst e; cases ha) ?_
  have : ∀ n, n < 8 → isScr (50 + n) = true := by decide +kernel
  rcases Nat.lt_or_ge a 50 with h1 | h1
  · exact .inl h1
  · rcases Nat.lt_or_ge 57 a with h2 | h2
    · exact .inr h2
    · have := this (a - 50) (by omega)
      rw [show 50 + (a - 50) = a by omega, ha] at this
      cases this
theorem kp_114' {s : ac_m} {κ : Int32} : kp (ac_u s 114 2 κ) s := ⟨fun a ha => (u_ne (fun e => by subst e; cases ha)).symm, fun j _ => by rw [u_ne (by omega)]⟩
theorem c_allows {j : Nat} {v : Int32} {Q : Int32 → ac_m → Prop} {s : ac_m} (hj : j ≤ 12) (h1 : (s 34 j = -1 ∨ s 34 j = v) → Q 1 s) (h0 : ¬ (s 34 j = -1 ∨ s 34 j = v) → Q 0 s) : w_X0_allows (nI j) v Q s := by
  have v13 : vp_in (nI j) 13 := vp_in_nI (by omega) (by omega)
  unfold w_X0_allows
  rw [cl_nI (by omega)]
  exact ⟨fun z => absurd z (nI_pos (by omega)), fun _ => ⟨fun z => absurd z (nI_nlt (a := 12) hj (by omega)), fun _ => ⟨v13, fun c => h1 (.inl c), fun c => ⟨v13, fun c2 => h0 (fun y => y.elim c c2), fun c2 => h1 (.inr c2)⟩⟩⟩⟩
theorem dys_K {s s' : ac_m} {F : Nat} {κ : Int32} {x : ro} (k : kp s s') (i : iL s) (hf : F ≤ 6) : ∀ n, dys (ac_u s' 114 2 κ) F x n = dys (ac_u s 114 2 κ) F x n
  | 0 => rfl
  | n + 1 => by rw [dys, dys, dys_K k i hf n, dyF_K k i hf]
theorem c_fits {F f k w L : Nat} {Q : Int32 → ac_m → Prop} {s0 s : ac_m} (i : Inv s0) (hF : F ≤ 6) (h73 : s0 73 0 = nI F) (hf : f < F) (w1 : 1 ≤ w) (w2 : w ≤ 30) (hL : L ≤ 12) (kp0 : kp s0 s) (e557 : s 557 = s0 557)
    (h1 : (∀ d, d < L → (s0 34 (d + 1) = -1 ∨ s0 34 (d + 1) = gK s0 F f k w (d + 1))) → ∀ s', fz9 s s' → (∀ d, d < L → s' 66 (d + 1) = gK s0 F f k w (d + 1)) → Q 1 s')
    (h0 : ¬ (∀ d, d < L → (s0 34 (d + 1) = -1 ∨ s0 34 (d + 1) = gK s0 F f k w (d + 1))) → ∀ s', fz9 s s' → Q 0 s') : w_X9_fits (nI f) (nI k) (nI w) (nI L) Q s := by
  have E0 := Inv_En i hF h73
  have z12 := cpx_12 i
  have m0 : rM s 42 (cpx s0) := by
    have := Inv_rM (Inv_kp kp0 i)
    have ec : cpx s = cpx s0 := by unfold cpx; rw [kp0.1 556 rfl, e557]
    rw [ec] at this
    exact this
  unfold w_X9_fits
  refine c_copy m0 (fun s1 f1 _ m1 => c_keep (f := f) m1 (fun s2 f2 m2 => ?_))
  unfold w_X5_addStranger
  have t12 : (12 : Int32).toNatClampNeg = 12 := rfl
  rw [t12]
  have mY : rM (ac_u (ac_u (ac_u (ac_u s2 52 12 (nI w)) 53 12 (nI f)) 54 12 0) 50 9 (nI k)) 50 (dys (ac_u s0 114 2 (nI k)) F (yK s0 f w) 0) := by
    have m3 := rM_3 (v0 := nI w) (v1 := 0) (v2 := nI f) (show 12 < 13 by omega) m2
    have e : upd (upd (upd (kO f (cpx s0) 13) 12 (nI w)) (13 + 12) 0) (26 + 12) (nI f) = dys (ac_u s0 114 2 (nI k)) F (yK s0 f w) 0 := rfl
    rw [← e]
    refine ⟨fun b hb => ?_, fun b hb => ?_, fun b hb => ?_, ?_, ?_⟩
    · rw [u_ne (by omega), u_ne (show 50 + 4 ≠ 50 by omega), u_ne (show 50 + 3 ≠ 50 by omega)]; exact m3.1 b hb
    · rw [u_ne (by omega)]; exact m3.2.1 b hb
    · rw [u_ne (by omega)]; exact m3.2.2.1 b hb
    · rw [u_at (by omega)]; exact m3.2.2.2.1
    · rw [u_at (by omega)]; exact m3.2.2.2.2
  have fr : fz9 s (ac_u (ac_u (ac_u (ac_u s2 52 12 (nI w)) 53 12 (nI f)) 54 12 0) 50 9 (nI k)) := by
    intro y y1 y2 y3 y4
    rw [u_ne (by omega), u_ne (by omega), u_ne (by omega), u_ne (by omega), f2 y (by omega) (by omega) (by omega), f1 y y4]
  have Ed : ∀ d, En s0 F (dys (ac_u s0 114 2 (nI k)) F (yK s0 f w) d) := fun d => En_kp kp_114' (En_dys (En_kp kp_114 (En_yK E0 hf w1 w2)) d)
  have day : ∀ (d : Nat) (R1 R0 : ac_m → Prop) (s4 : ac_m), d < 12 → fz9 s s4 → s4 50 9 = nI k → rM s4 50 (dys (ac_u s0 114 2 (nI k)) F (yK s0 f w) d) → (∀ e, e < d → s4 66 (e + 1) = gK s0 F f k w (e + 1)) →
      ((s0 34 (d + 1) = -1 ∨ s0 34 (d + 1) = gK s0 F f k w (d + 1)) → ∀ s', fz9 s s' → s' 50 9 = nI k → rM s' 50 (dys (ac_u s0 114 2 (nI k)) F (yK s0 f w) (d + 1)) → (∀ e, e < d + 1 → s' 66 (e + 1) = gK s0 F f k w (e + 1)) → R1 s') →
      (¬ (s0 34 (d + 1) = -1 ∨ s0 34 (d + 1) = gK s0 F f k w (d + 1)) → ∀ s', fz9 s s' → R0 s') →
      w_X5_passDay 50 (fun s50 => w_X5_grassOf 50 (nI f) (fun r64 s64 => vp_in (nI (d + 1)) 13 ∧ (vp_in (nI (d + 1)) 13 ∧ (w_X0_allows (nI (d + 1)) ((ac_u s64 66 (nI (d + 1)).toNatClampNeg r64) 66 (nI (d + 1)).toNatClampNeg) (fun r81 s81 => (¬ r81 = 0 → R1 s81) ∧ (r81 = 0 → R0 s81)) (ac_u s64 66 (nI (d + 1)).toNatClampNeg r64)))) s50) s4 := by
    intro d R1 R0 s4 hd f4 n4 m4 g4 hy hn
    have k4 := kp0.trans (fz9_kp f4)
    have v13 : vp_in (nI (d + 1)) 13 := vp_in_nI (by omega) (by omega)
    refine c_pdK (κ := nI k) (En_kp k4 (Ed d)) m4 (fun _ => n4) (fun s5 k5 f5 n5 m5 => ?_)
    rw [dyF_K k4 E0.1 hF] at m5
    have m5' : rM s5 50 (dys (ac_u s0 114 2 (nI k)) F (yK s0 f w) (d + 1)) := m5
    refine c_gof m5' (by omega) ⟨v13, v13, ?_⟩
    rw [cl_nI (by omega), u_eq, gK_y E0 z12 hf w1 w2]
    have fr6 : fz9 s (ac_u s5 66 (d + 1) (gK s0 F f k w (d + 1))) := fun y y1 y2 y3 y4 => by rw [u_ne y3, f5 y y1 y2 y4, f4 y y1 y2 y3 y4]
    have e34 : (ac_u s5 66 (d + 1) (gK s0 F f k w (d + 1))) 34 = s0 34 := by rw [u_ne (by omega), f5 34 (by omega) (by omega) (by omega), k4.1 34 rfl]
    refine c_allows (by omega) ?_ ?_
    · rw [e34]
      intro ok
      refine m_if1A (hy ok _ fr6 ?_ ?_ ?_)
      · rw [u_ne (by omega), n5, n4]
      · exact rM_fr (fun j hj => u_ne (by omega)) m5'
      · intro e he
        by_cases c : e = d
        · rw [c, u_eq]
        · rw [u_at (by omega), f5 66 (by omega) (by omega) (by omega)]; exact g4 e (by omega)
    · rw [e34]
      intro ok
      exact m_if0A (hn ok _ fr6)
  obtain ⟨b, hb, b1, b2⟩ := cut0 (p := fun d => ¬ (s0 34 (d + 1) = -1 ∨ s0 34 (d + 1) = gK s0 F f k w (d + 1))) L
  unfold l_X9_fits_32
  intro P hP
  refine loopUp (P := fun d => ∀ s', fz9 s s' → s' 50 9 = nI k → rM s' 50 (dys (ac_u s0 114 2 (nI k)) F (yK s0 f w) d) → (∀ e, e < d → s' 66 (e + 1) = gK s0 F f k w (e + 1)) → P (nI (d + 1)) s') b ?_ ?_ _ fr (by rw [u_eq]) mY (fun e he => absurd he (Nat.not_lt_zero e))
  · intro s4 f4 n4 m4 g4
    rcases Nat.lt_or_ge b L with hbL | hbL
    · have nok := b2 hbL
      refine hP _ _ ⟨fun z => absurd z (nI_nlt (a := L) (by omega) (by omega)), fun _ => ⟨fun z => absurd z (nI_nlt (a := 12) (by omega) (by omega)), fun _ => ?_⟩⟩
      exact day b _ _ s4 (by omega) f4 n4 m4 g4 (fun ok => absurd ok nok) (fun _ s5 f5 => h0 (fun all => nok (all b hbL)) s5 f5)
    · have e : b = L := by omega
      subst e
      refine hP _ _ ⟨fun _ => h1 (fun d hd => ?_) s4 f4 g4, fun z => absurd (nI_lt (by omega) (by omega)) z⟩
      have := b1 d hd
      exact Decidable.not_not.mp this
  · intro d hd ih s4 f4 n4 m4 g4
    refine hP _ _ ⟨fun z => absurd z (nI_nlt (a := L) (by omega) (by omega)), fun _ => ⟨fun z => absurd z (nI_nlt (a := 12) (by omega) (by omega)), fun _ => ?_⟩⟩
    rw [nI_1]
    exact day d _ _ s4 (by omega) f4 n4 m4 g4 (fun _ s5 f5 n5 m5 g5 => ih s5 f5 n5 m5 g5) (fun ok => absurd ok (b1 d hd))
theorem c_last {Q : Int32 → ac_m → Prop} {s : ac_m} (h : ∀ L, L ≤ 12 → (∀ d, L < d → d ≤ 12 → s 34 d = -1) → Q (nI L) s) : w_X0_lastDay Q s := by
  unfold w_X0_lastDay l_X0_lastDay_3
  intro P hP
  have key : ∀ m, m ≤ 12 → (∀ d, m < d → d ≤ 12 → s 34 d = -1) → P (nI m) s := by
    intro m
    induction m with
    | zero => intro h12 hd; exact hP _ _ ⟨fun _ => h 0 h12 hd, fun z => absurd (by decide) z⟩
    | succ m ih =>
      intro h12 hd
      refine hP _ _ ⟨fun z => absurd z (nI_nle (by omega) (by omega)), fun _ => ⟨vp_in_nI (by omega) (by omega), ?_⟩⟩
      rw [cl_nI (by omega), nI_m1 (by omega)]
      refine ⟨fun e => ih (by omega) (fun d d1 d2 => ?_), fun _ => h (m + 1) h12 hd⟩
      by_cases c : d = m + 1
      · rw [c]; exact e
      · exact hd d (by omega) d2
  exact key 12 (Nat.le_refl 12) (fun d d1 d2 => by omega)
