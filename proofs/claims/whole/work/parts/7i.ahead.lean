/-! DAYS ON A COPY -/
theorem cp_ne {s : ac_m} {a0 a sp dp n b : Nat} (h : b ≠ a) : ac_cp s a0 a sp dp n b = s b := if_neg h
theorem cp_in {s : ac_m} {a0 a sp dp n j : Nat} (h1 : dp ≤ j) (h2 : j < dp + n) : ac_cp s a0 a sp dp n a j = s a0 (sp + (j - dp)) := by
  unfold ac_cp va_cpy
  rw [if_pos rfl, if_pos ⟨h1, h2⟩]
theorem cp_out {s : ac_m} {a0 a sp dp n j : Nat} (h : ¬ (dp ≤ j ∧ j < dp + n)) : ac_cp s a0 a sp dp n a j = s a j := by
  unfold ac_cp va_cpy
  rw [if_pos rfl, if_neg h]
theorem c_copy {x : ro} {Q : ac_m → Prop} {s : ac_m} (m : rM s 42 x) (h : ∀ s', (∀ y, (y < 50 ∨ 57 < y) → s' y = s y) → s' 50 9 = s 50 9 → rM s' 50 x → Q s') : w_X5_copy Q s := by
  unfold w_X5_copy
  have t0 : (0 : Int32).toNatClampNeg = 0 := rfl
  have t6 : (6 : Int32).toNatClampNeg = 6 := rfl
  have t13 : (13 : Int32).toNatClampNeg = 13 := rfl
  have t36 : (36 : Int32).toNatClampNeg = 36 := rfl
  rw [t0, t6, t13, t36]
  refine h _ (fun y hy => ?_) ?_ ⟨fun b hb => ?_, fun f hf => ?_, fun k hk => ?_, ?_, ?_⟩
  · rw [u_ne (by omega), u_ne (by omega), cp_ne (by omega), cp_ne (by omega), cp_ne (by omega), cp_ne (by omega), cp_ne (by omega)]
  · rw [u_at (by omega), u_at (by omega), cp_ne (by omega), cp_ne (by omega), cp_ne (by omega), cp_ne (by omega), cp_ne (by omega)]
  · have q := m.1 b hb
    show ac_u _ _ _ _ 52 b = _ ∧ ac_u _ _ _ _ 54 b = _ ∧ ac_u _ _ _ _ 53 b = _
    refine ⟨?_, ?_, ?_⟩
    · rw [u_ne (by omega), u_ne (by omega), cp_ne (by omega), cp_ne (by omega), cp_ne (by omega), cp_in (by omega) (by omega), cp_ne (by omega), show 0 + (b - 0) = b by omega]; exact q.1
    · rw [u_ne (by omega), u_ne (by omega), cp_ne (by omega), cp_in (by omega) (by omega), cp_ne (by omega), cp_ne (by omega), cp_ne (by omega), show 0 + (b - 0) = b by omega]; exact q.2.1
    · rw [u_ne (by omega), u_ne (by omega), cp_ne (by omega), cp_ne (by omega), cp_in (by omega) (by omega), cp_ne (by omega), cp_ne (by omega), show 0 + (b - 0) = b by omega]; exact q.2.2
  · show ac_u _ _ _ _ 51 f = _
    rw [u_ne (by omega), u_ne (by omega), cp_ne (by omega), cp_ne (by omega), cp_ne (by omega), cp_ne (by omega), cp_in (by omega) (by omega), show 0 + (f - 0) = f by omega]; exact m.2.1 f hf
  · show ac_u _ _ _ _ 55 k = _
    rw [u_ne (by omega), u_ne (by omega), cp_in (by omega) (by omega), cp_ne (by omega), cp_ne (by omega), cp_ne (by omega), cp_ne (by omega), show 0 + (k - 0) = k by omega]; exact m.2.2.1 k hk
  · rw [u_eq, u_ne (by omega), cp_ne (by omega), cp_ne (by omega), cp_ne (by omega), cp_ne (by omega), cp_ne (by omega)]; exact m.2.2.2.1
  · rw [u_at (by omega), u_eq, cp_ne (by omega), cp_ne (by omega), cp_ne (by omega), cp_ne (by omega), cp_ne (by omega)]; exact m.2.2.2.2
theorem m_copies {r1 r2 : Nat} {Q : ac_m → Prop} {s : ac_m} (hr : r1 ≠ r2) (h : ∀ s', (∀ y, y ≠ r2 → s' y = s y) → s' r2 = (fun j => if j < 83 then s r1 j else s r2 j) → Q s') : w_X12_copies r1 r2 Q s := by
  unfold w_X12_copies l_X12_copies_2
  intro P hP
  refine loopUp (P := fun k => ∀ s', (∀ y, y ≠ r2 → s' y = s y) → (s' r2 = fun j => if j < k then s r1 j else s r2 j) → P (nI k) s') 83 ?_ ?_ s (fun _ _ => rfl) (by funext j; rw [if_neg (by omega)])
  · intro s' f g
    exact hP _ _ ⟨fun _ => h s' f g, fun z => absurd (by decide) z⟩
  · intro k hk ih s' f g
    refine hP _ _ ⟨fun z => absurd z (nI_ge (b := 83) hk (by omega)), fun _ => ⟨vp_in_nI hk (by omega), vp_in_nI hk (by omega), ?_⟩⟩
    rw [cl_nI (by omega), nI_1]
    refine ih _ (fun y hy => by rw [u_ne hy]; exact f y hy) ?_
    rw [u_row', g, f r1 hr]
    funext j
    unfold upd
    by_cases e : j = k
    · rw [if_pos e, if_pos (by omega), e]
    · rw [if_neg e]
      show (if j < k then s r1 j else s r2 j) = _
      by_cases c : j < k
      · rw [if_pos c, if_pos (by omega)]
      · rw [if_neg c, if_neg (by omega)]
/-- what a day rests on -/
def En (s : ac_m) (F : Nat) (x : ro) : Prop := iL s ∧ F ≤ 6 ∧ s 73 0 = nI F ∧ vN (nI F) x ∧ hB2 s x ∧ hG s F
theorem En_kp {s s' : ac_m} {F : Nat} {x : ro} (k : kp s s') (h : En s F x) : En s' F x := by
  have d2 : ∀ f, f < 12 → isScr (102 + f) = false := by decide +kernel
  have d3 : ∀ f, f < 6 → isScr (82 + f) = false := by decide +kernel
  refine ⟨iL_kq (.of k) h.1, h.2.1, by rw [k.1 73 rfl]; exact h.2.2.1, h.2.2.2.1, fun b hb hz => ?_, fun f hf => ?_⟩
  · rw [k.1 6 rfl, k.1 7 rfl, k.1 8 rfl, k.1 _ (d2 b hb)]; exact h.2.2.2.2.1 b hb hz
  · rw [k.1 5 rfl, k.1 _ (d3 f hf)]; exact h.2.2.2.2.2 f hf
theorem gz_o {e x : ro} {b j : Nat} (hj : j < 13) (h : j ≠ b ∨ x b ≤ 0) : gz e x b j = x j := by
  unfold gz gz1
  by_cases c : x b ≤ 0
  · rw [if_pos c]
  · rw [if_neg c]
    have hne := h.resolve_right c
    by_cases c2 : 0 < x b - (e b - gt e x b)
    · rw [if_pos c2, upd_ne hne, upd_ne (by omega)]
    · rw [if_neg c2, upd_ne (by omega), upd_ne (by omega), upd_ne (by omega), upd_ne hne, upd_ne hne, upd_ne (by omega)]
theorem gzs_o {e x : ro} {j : Nat} (hj : j < 13) (h : x j ≤ 0) : ∀ k, gzs e x k j = x j
  | 0 => rfl
  | k + 1 => by
    rw [gzs, gz_o hj, gzs_o hj h k]
    by_cases c : j = k
    · right; rw [← c, gzs_o hj h j]; exact h
    · left; exact c
theorem dyF_b {s : ac_m} {F : Nat} {x : ro} {b : Nat} (hb : b < 13) : dyF s F x b = gzs (apX s x) x 13 b := by
  unfold dyF
  rw [upd_ne (by omega), gwk_pt, if_neg (by omega), agk_pt b (by omega), if_neg (by omega)]
theorem dyF_gone {s : ac_m} {F : Nat} {x : ro} {b : Nat} (hb : b < 13) (h : x b ≤ 0) : dyF s F x b = x b := by rw [dyF_b hb, gzs_o hb h]
theorem En_day {s : ac_m} {F : Nat} {x : ro} (h : En s F x) : En s F (dyF s F x) := by
  obtain ⟨i, hf, hF, v, hb, hg⟩ := h
  refine ⟨i, hf, hF, ?_, fun b hb' hz => hb b hb' (fun c => hz ?_), hg⟩
  · unfold dyF
    exact vN_82 (vN_gwk hf (vN_agk (vN_gzs hf v (fun b _ => apX_bd s x b) (by omega)) (by omega)) (fun f hf' => ((hg f (by omega)).1 hf').2))
  · rw [dyF_gone (by omega) c]; exact c
theorem gzs_cong {e e' x : ro} : ∀ {k : Nat}, (∀ b, b < k → e b = e' b) → gzs e x k = gzs e' x k
  | 0, _ => rfl
  | k + 1, h => by rw [gzs, gzs, gzs_cong (k := k) (fun b hb => h b (by omega)), gz_cong (h k (by omega))]
theorem gwk_cong {g g' x : ro} : ∀ {k : Nat}, (∀ b, b < k → g b = g' b) → gwk g x k = gwk g' x k
  | 0, _ => rfl
  | k + 1, h => by rw [gwk, gwk, gwk_cong (k := k) (fun b hb => h b (by omega)), h k (by omega)]
theorem dyF_kp {s s' : ac_m} {F : Nat} {x : ro} (k : kp s s') (i : iL s) (hf : F ≤ 6) (h12 : s' 114 2 = s 114 2 ∨ x 12 ≤ 0) : dyF s' F x = dyF s F x := by
  have d1 : ∀ f, f < 160 → isScr (138 + f) = false := by decide +kernel
  have d2 : ∀ f, f < 12 → isScr (102 + f) = false := by decide +kernel
  have d3 : ∀ f, f < 6 → isScr (82 + f) = false := by decide +kernel
  have ea : ∀ b, b < 13 → apX s' x b = apX s x b := by
    intro b hb
    by_cases e : b = 12
    · subst e
      rcases h12 with h | h
      · unfold apX
        rw [lval_kp k i, if_pos rfl, if_pos rfl, show s' (102 + 12) 2 = s (102 + 12) 2 from h]
      · unfold apX
        rw [if_pos h, if_pos h]
    · exact apX_fr (k.2 19 rfl) (fun j hj => k.1 _ (d1 j hj)) (k.1 _ (d2 b (by omega))) i
  unfold dyF
  rw [gzs_cong (fun b hb => ea b hb), gwk_cong (g' := fun f => s (82 + f) 1) (fun f hf' => by rw [k.1 _ (d3 f (by omega))])]
theorem En_vR {s : ac_m} {F r : Nat} (h : En s F (s r)) : vR s r := by
  intro b hb hz
  obtain ⟨i, hf, hF, v, hb', hg⟩ := h
  obtain ⟨-, -, f, hf', e⟩ := vN_on hf v hb hz
  refine ⟨⟨f, by omega, e⟩, fun h12 => ?_⟩
  obtain ⟨h1, h2, -, d, e', hd, he, ed, ee⟩ := hb' b h12 hz
  exact ⟨d, e', hd, he, h1.symm.trans ed, h2.symm.trans ee⟩
theorem kp_50 {s s' : ac_m} (f : ∀ y, y ≠ 27 → y ≠ 28 → (y < 50 ∨ 57 < y) → s' y = s y) : kp s s' := by
  refine ⟨fun a ha => ?_, fun k _ => by rw [f 69 (by omega) (by omega) (by omega)]⟩
  rcases Nat.lt_or_ge a 50 with h | h
  · exact f a (fun e => by subst e; cases ha) (fun e => by subst e; cases ha) (.inl h)
  · rcases Nat.lt_or_ge 57 a with h2 | h2
    · exact f a (by omega) (by omega) (.inr h2)
    · exact absurd ha (by
        have : ∀ n, n < 8 → isScr (50 + n) = true := by decide +kernel
        have := this (a - 50) (by omega)
        rw [show 50 + (a - 50) = a by omega] at this
        rw [this]; decide)
theorem c_pd {F : Nat} {x : ro} {Q : ac_m → Prop} {s : ac_m} (en : En s F x) (m : rM s 50 x) (h12 : ¬ x 12 ≤ 0 → s 50 9 = s 114 2) (h : ∀ s', kp s s' → (∀ y, y ≠ 27 → y ≠ 28 → (y < 50 ∨ 57 < y) → s' y = s y) → s' 50 9 = s 50 9 → rM s' 50 (dyF s F x) → Q s') : w_X5_passDay 50 Q s := by
  obtain ⟨i, hf, hF, v, hb, hg⟩ := en
  exact c_passDay i (by omega) (by omega) hf m v hb hg h12 (fun s' f f9 m' => h s' (kp_50 f) f f9 m')
theorem kp_557 {s s' : ac_m} (f : ∀ y, y ≠ 473 → y ≠ 474 → y ≠ 558 → y ≠ 557 → s' y = s y) : kp s s' := by
  refine ⟨fun a ha => f a ?_ ?_ ?_ ?_, fun k _ => by rw [f 69 (by omega) (by omega) (by omega) (by omega)]⟩ <;> (intro e; subst e; cases ha)
theorem m_de {F : Nat} {x : ro} {Q : ac_m → Prop} {s : ac_m} (en : En s F x) (e : s 557 = x) (h : ∀ s', kp s s' → (∀ y, y ≠ 473 → y ≠ 474 → y ≠ 558 → y ≠ 557 → s' y = s y) → s' 557 = dyF s F x → Q s') : w_X12_dayEnds 557 Q s := by
  subst e
  have vr := En_vR en
  obtain ⟨i, hf, hF, v, hb, hg⟩ := en
  exact m_dayEnds i (.inr rfl) hF hf vr v (fun s' f e => h s' (kp_557 f) f e)
def dys (s : ac_m) (F : Nat) (x : ro) : Nat → ro
  | 0 => x
  | k + 1 => dyF s F (dys s F x k)
theorem En_dys {s : ac_m} {F : Nat} {x : ro} (h : En s F x) : ∀ k, En s F (dys s F x k)
  | 0 => h
  | k + 1 => En_day (En_dys h k)
theorem dys_gone {s : ac_m} {F : Nat} {x : ro} {b : Nat} (hb : b < 13) (h : x b ≤ 0) : ∀ k, dys s F x k b = x b
  | 0 => rfl
  | k + 1 => by rw [dys, dyF_gone hb (by rw [dys_gone hb h k]; exact h), dys_gone hb h k]
/-- the row that the reference's copy becomes -/
def cpx (s : ac_m) : ro := fun j => if j < 83 then s 556 j else s 557 j
theorem Inv_En {s : ac_m} {F : Nat} (i : Inv s) (hf : F ≤ 6) (hF : s 73 0 = nI F) : En s F (cpx s) := by
  obtain ⟨B, hb, hB, hC⟩ := Inv_B i
  have ec : ∀ j, j < 83 → cpx s j = s 556 j := fun j hj => if_pos hj
  have v := vN_of i.2.2.1
  rw [hF] at v
  refine ⟨i.2.2.2.2.1, hf, hF, ⟨fun b hb => ?_, fun f hf => ?_, fun i j hi hj => ?_⟩, fun b h1 h2 => ?_, fun f h1 => ?_⟩
  · rw [ec b (by omega), ec (13 + b) (by omega), ec (26 + b) (by omega)]; exact v.1 b hb
  · rw [ec (39 + f) (by omega)]; exact v.2.1 f hf
  · rw [ec _ (by omega), ec _ (by omega)]; exact v.2.2 i j hi hj
  · rw [ec b (by omega)] at h2
    have g := Inv_b i hB hb (Inv_there i hB hb (by omega) h2)
    rw [hF] at g
    obtain ⟨d, h3, e2⟩ := of_in (by omega) g.2.2.2.2.1 g.2.2.2.2.2.1
    obtain ⟨e, h4, e3⟩ := of_in (by omega) g.2.2.2.2.2.2.1 g.2.2.2.2.2.2.2.1
    exact ⟨g.1, g.2.1, g.2.2.1, d, e, by omega, by omega, e2, e3⟩
  · have g := i.1.2.2.1 f h1
    rw [hF] at g
    refine ⟨fun h => ?_, fun h => ?_⟩
    · have q := g.1 (nI_lt h (by omega))
      exact ⟨q.2.1, q.2.1 ▸ q.2.2.2.2.1, q.2.1 ▸ q.2.2.2.2.2⟩
    · exact (g.2 (nI_le h (by omega))).2
theorem Inv_rM {s : ac_m} (i : Inv s) : rM s 42 (cpx s) := rM_cong (x := s 556) i.2.1 (fun j hj => (if_pos hj).symm)
theorem cpx_12 {s : ac_m} (i : Inv s) : cpx s 12 ≤ 0 := by
  obtain ⟨B, hb, hB, hC⟩ := Inv_B i
  show (if 12 < 83 then s 556 12 else s 557 12) ≤ 0
  rw [if_pos (by omega), Inv_nb i hB (by omega) (by omega)]
  decide
/-- what is asked of a row at the end -/
theorem row_grass {s : ac_m} {F : Nat} {x : ro} (m : rM s 50 x) (v : vN (nI F) x) (hf : F ≤ 6) : sm (fun k => s (50 + 1) k) 6 = sm (fun k => x (39 + k)) F := by
  rw [sm_cong (g := fun k => x (39 + k)) (fun k hk => m.2.1 k hk), sm_more hf (fun k h1 h2 => (v.2.1 k h2).2.2 (nI_le h1 (by omega)))]
theorem row_there {s : ac_m} {x : ro} (m : rM s 50 x) (h12 : x 12 ≤ 0) : bs (fun k => decide (0 < s (50 + 2) k)) 12 = bs (fun k => decide (0 < x k)) 13 := by
  rw [bs_more (m := 12) (n := 13) (by omega) (fun k h1 h2 => ?_)]
  · exact bs_cong (fun k hk => by rw [(m.1 k (by omega)).1])
  · have : k = 12 := by omega
    subst this
    exact decide_eq_false (by grind)
theorem row_weight {s : ac_m} {F : Nat} {x : ro} (m : rM s 50 x) (v : vN (nI F) x) (h12 : x 12 ≤ 0) : sm (fun k => if bt (bs (fun k => decide (0 < s (50 + 2) k)) 12) k = true then s (50 + 2) k else 0) 12 = sm (fun k => x k) 13 := by
  rw [sm_more (f := fun k => x k) (m := 12) (n := 13) (by omega) (fun k h1 h2 => ?_)]
  · refine sm_cong (fun k hk => ?_)
    have q := m.1 k (by omega)
    have w := v.1 k (by omega)
    rw [bs_bt _ 12 (by omega), decide_eq_true hk, q.1]
    grind
  · have : k = 12 := by omega
    subst this
    have := v.1 12 (by omega)
    grind
theorem s_ahead (p q : Int32) (s : ac_m) (i : Inv s) : simX thA (w_X11_ahead p q) (w_X12_ahead p q) s := by
  obtain ⟨F, hf, hF, hD⟩ := Inv_F i
  unfold simX w_X11_ahead
  refine c_within (fun a0 b0 => ?_) (fun h => ?_)
  rotate_left
  · unfold w_X12_ahead
    refine m_inB (fun a b => absurd ⟨a, b⟩ h) (fun _ => ?_)
    exact m_bad1 u_eq (by decide) in2_1 (m_if1B ⟨⟨rfl, bad_69⟩, Inv_bad1 i⟩)
  refine c_within (fun a1 b1 => ?_) (fun h => ?_)
  rotate_left
  · unfold w_X12_ahead
    refine m_inB (fun _ _ => ?_) (fun z => absurd ⟨a0, b0⟩ z)
    refine m_inA (fun a b => absurd ⟨a, b⟩ h) (fun _ => ?_)
    exact m_bad1 u_eq (by decide) in2_1 (m_if1B ⟨⟨rfl, bad_69⟩, Inv_bad1 i⟩)
  obtain ⟨n, hn, en⟩ := nI_of2 (M := 99) (n := 99) rfl (show ¬ p < 0 by grind) b0
  subst en
  have E0 := Inv_En i hf hF
  have z12 := cpx_12 i
  refine c_copy (Inv_rM i) (fun s1 f1 f19 m1 => ?_)
  have fin : ∀ s2, kp s s2 → s2 557 = s 557 → ∀ v, (q = 0 → v = sm (fun k => dys s F (cpx s) n (39 + k)) F) → (q = 1 → v = bs (fun k => decide (0 < dys s F (cpx s) n k)) 13) → (¬ q = 0 → ¬ q = 1 → v = sm (fun k => dys s F (cpx s) n k) 13) → w_X12_ahead (nI n) q (fun b s2 => v = b ∧ s2 69 0 = 0 ∧ Inv s2) s2 := by
    intro s2 k2 e557 v v0 v1 v2
    unfold w_X12_ahead
    refine m_inB (fun _ _ => ?_) (fun z => absurd ⟨a0, b0⟩ z)
    refine m_inA (fun _ _ => ?_) (fun z => absurd ⟨a1, b1⟩ z)
    refine m_bad0 u_eq (m_if0B (m_copies (by omega) (fun s3 f3 e3 => ?_)))
    have k3 : kp s s3 := by
      refine (k2.trans kp_0).trans ⟨fun a ha => f3 a (fun e => by subst e; cases ha), fun k _ => by rw [f3 69 (by omega)]⟩
    have e3' : s3 557 = dys s F (cpx s) 0 := by
      rw [e3, u_ne (by omega), u_ne (by omega), k2.1 556 rfl, e557]; rfl
    have t3 : s3 69 0 = 0 := by rw [f3 69 (by omega), u_eq]
    unfold l_X12_ahead_53
    intro P hP
    refine loopUp (P := fun k => ∀ s', kp s s' → s' 557 = dys s F (cpx s) k → s' 69 0 = 0 → P (nI k) s') n ?_ ?_ s3 k3 e3' t3
    · intro s4 k4 e4 t4
      have i4 := Inv_kp k4 i
      refine hP _ _ ⟨fun _ => ⟨fun q0 => ⟨fun q1 => m_weightIn ⟨?_, t4, i4⟩, fun q1 => m_there ⟨?_, t4, i4⟩⟩, fun q0 => m_grassIn (F := F) (by rw [k4.1 73 rfl]; exact hF) hf ⟨?_, t4, i4⟩⟩, fun z => absurd (Int32.le_refl _) z⟩
      · rw [v2 q0 q1, e4]
      · rw [v1 q1, e4]
      · rw [v0 q0, e4]
    · intro k hk ih s4 k4 e4 t4
      refine hP _ _ ⟨fun z => absurd z (nI_ge hk (by omega)), fun _ => ?_⟩
      refine m_de (En_kp k4 (En_dys E0 k)) e4 (fun s5 k5 f5 e5 => ?_)
      rw [nI_1]
      refine ih s5 (k4.trans k5) ?_ (by rw [f5 69 (by omega) (by omega) (by omega) (by omega)]; exact t4)
      rw [e5, dyF_kp k4 E0.1 hf (.inr (by rw [dys_gone (by omega) z12]; exact z12))]
      rfl
  unfold l_X11_ahead_28
  intro P hP
  refine loopUp (P := fun k => ∀ s', kp s s' → (∀ y, 57 < y → s' y = s y) → rM s' 50 (dys s F (cpx s) k) → P (nI k) s') n ?_ ?_ s1 (kp_50 (fun y _ _ h => f1 y h)) (fun y hy => f1 y (.inr hy)) m1
  · intro s4 k4 f4 m4
    have En4 := En_dys E0 n
    have z4 : dys s F (cpx s) n 12 ≤ 0 := by rw [dys_gone (by omega) z12]; exact z12
    have F4 := fin s4 k4 (f4 557 (by omega))
    refine hP _ _ ⟨fun _ => ⟨fun q0 => c_grass (F4 _ (fun _ => row_grass m4 En4.2.2.2.1 hf) (fun q1 => absurd (q0.symm.trans q1) (by decide)) (fun q1 => absurd q0 q1)), fun q0 => c_there (F4 _ (fun q1 => absurd (q0.symm.trans q1) (by decide)) (fun _ => row_there m4 z4) (fun _ q1 => absurd q0 q1)), fun q0 => c_there (c_weight (F4 _ (fun q1 => absurd q1 q0.1) (fun q1 => absurd q1 q0.2) (fun _ _ => row_weight m4 En4.2.2.2.1 z4)))⟩, fun z => absurd (Int32.le_refl _) z⟩
  · intro k hk ih s4 k4 f4 m4
    have z4 : dys s F (cpx s) k 12 ≤ 0 := by rw [dys_gone (by omega) z12]; exact z12
    refine hP _ _ ⟨fun z => absurd z (nI_ge hk (by omega)), fun _ => ?_⟩
    refine c_pd (En_kp k4 (En_dys E0 k)) m4 (fun z => absurd z4 z) (fun s5 k5 f5 _ m5 => ?_)
    rw [nI_1]
    refine ih s5 (k4.trans k5) (fun y hy => (f5 y (by omega) (by omega) (.inr hy)).trans (f4 y hy)) ?_
    rw [dyF_kp k4 E0.1 hf (.inr z4)] at m5
    exact m5
