/-! LOTS -/
theorem nI_mul (a b : Nat) : nI a * nI b = nI (a * b) := (Int32.ofNat_mul a b).symm
theorem nI_div {n m : Nat} (hn : n < 2147483648) (hm : m < 2147483648) : nI n / nI m = nI (n / m) := by
  have h1 : n / m ≤ n := Nat.div_le_self n m
  apply Int32.toInt_inj.1
  rw [Int32.toInt_div, nI_toInt (by omega), nI_toInt (by omega), nI_toInt (by omega)]
  show (((n / m : Nat) : Int)).bmod (2 ^ 32) = _
  generalize n / m = d at *
  apply Int.bmod_eq_of_le <;> omega
theorem nI_mod {n m : Nat} (hn : n < 2147483648) (hm : m < 2147483648) : nI n - nI n / nI m * nI m = nI (n % m) := by
  rw [nI_div hn hm, nI_mul]
  have h : nI n = nI (n % m) + nI (n / m * m) := by rw [nI_add, Nat.mul_comm, Nat.mod_add_div]
  rw [h]
  grind
def nx (z : Int32) : Int32 := z * 1103515245 + 12345
def dN (z : Int32) (m : Nat) : Nat := ((z >>> ((16 : Int32) &&& 31)) &&& 32767).toNatClampNeg % m
theorem bt_32767 : ∀ i, i < 32 → bt 32767 i = decide (i < 15) := by decide +kernel
theorem dN_eq {z : Int32} {m : Nat} (hm : m < 2147483648) : ((z >>> ((16 : Int32) &&& 31)) &&& 32767) - ((z >>> ((16 : Int32) &&& 31)) &&& 32767) / nI m * nI m = nI (dN z m) := by
  obtain ⟨n, hn, e⟩ := smallF (x := (z >>> ((16 : Int32) &&& 31)) &&& 32767) (F := 15) (fun i h1 h2 => by rw [b_and, bt_32767 i h2, decide_eq_false (by omega), Bool.and_false])
  unfold dN
  rw [e, nI_mod (by omega) hm, cl_nI (by omega)]
theorem dN_lt {z : Int32} {m : Nat} (h : 0 < m) : dN z m < m := Nat.mod_lt _ h
theorem c_draw {m : Nat} {Q : Int32 → ac_m → Prop} {s : ac_m} (h0 : 0 < m) (hm : m < 1000) (h : Q (nI (dN (nx (s 68 3)) m)) (ac_u s 68 3 (nx (s 68 3)))) : w_X1_draw (nI m) Q s := by
  unfold w_X1_draw
  refine ⟨fun z => absurd z (nI_nle h0 (by omega)), fun _ => ⟨nI_ne0 h0 (by omega), ?_⟩⟩
  rw [u_eq]
  show Q (((nx (s 68 3) >>> ((16 : Int32) &&& 31)) &&& 32767) - ((nx (s 68 3) >>> ((16 : Int32) &&& 31)) &&& 32767) / nI m * nI m) (ac_u s 68 3 (nx (s 68 3)))
  rw [dN_eq (by omega)]
  exact h
theorem m_draw {m : Nat} {Q : Int32 → ac_m → Prop} {s : ac_m} (h0 : 0 < m) (hm : m < 1000) (h : Q (nI (dN (nx (s 69 46)) m)) (ac_u s 69 46 (nx (s 69 46)))) : w_X12_draw (nI m) Q s := by
  unfold w_X12_draw
  refine ⟨nI_ne0 h0 (by omega), ?_⟩
  rw [u_eq]
  show Q (((nx (s 69 46) >>> ((16 : Int32) &&& 31)) &&& 32767) - ((nx (s 69 46) >>> ((16 : Int32) &&& 31)) &&& 32767) / nI m * nI m) (ac_u s 69 46 (nx (s 69 46)))
  rw [dN_eq (by omega)]
  exact h
/-! A DAY OF A DECADE -/
def mdA (s : ac_m) (B : Nat) (z : Int32) (x : ro) : ro := if x (dN (nx z) B) ≤ 0 then cm s x (dN (nx z) B) else lv x (dN (nx z) B)
def mdX (F B : Nat) (z : Int32) (x : ro) : ro := if x (dN (nx z) B) ≤ 0 ∨ x (26 + dN (nx z) B) = nI (dN (nx (nx z)) F) then x else dv x (dN (nx z) B) (nI (dN (nx (nx z)) F))
def zB (q z : Int32) : Int32 := if q ≤ nI (dN (nx z) 16) then nx z else nx (nx (nx z))
def zD (B : Nat) (q z : Int32) : Int32 := if B = 0 then z else zB q (nx z)
def zs (B : Nat) (q z : Int32) : Nat → Int32
  | 0 => z
  | k + 1 => zD B q (zs B q z k)
def xB (F B : Nat) (q z : Int32) (x : ro) : ro := if q ≤ nI (dN (nx z) 16) then x else mdX F B (nx z) x
def xD (s : ac_m) (F B : Nat) (q z : Int32) (x : ro) : ro := if B = 0 then dyF s F x else dyF s F (xB F B q (nx z) (mdA s B z x))
def xs (s : ac_m) (F B : Nat) (q z : Int32) (x : ro) : Nat → ro
  | 0 => x
  | k + 1 => xD s F B q (zs B q z k) (xs s F B q z x k)
def hT (s : ac_m) (F B : Nat) : Prop := ∀ b, b < B → (s 6 b = s (102 + b) 0 ∧ s 7 b = s (102 + b) 1 ∧ s 8 b = s (102 + b) 2 ∧ (∃ d e, d < 6 ∧ e < 6 ∧ s 6 b = nI d ∧ s 7 b = nI e)) ∧ s 9 b = s (102 + b) 3 ∧ 1 ≤ s (102 + b) 3 ∧ s (102 + b) 3 ≤ 30 ∧ 0 ≤ s (102 + b) 0 ∧ s (102 + b) 0 < nI F
/-- what the steps of a decade rest on -/
def E2 (s : ac_m) (F B : Nat) : Prop := hT s F B ∧ B ≤ 12 ∧ s 3 11 = nI B ∧ s 3 10 = nI F ∧ s 73 1 = nI B
theorem E2_kp {s s' : ac_m} {F B : Nat} (k : kp s s') (h : E2 s F B) : E2 s' F B := by
  have d2 : ∀ f, f < 12 → isScr (102 + f) = false := by decide +kernel
  obtain ⟨h1, h2, h3, h4, h5⟩ := h
  refine ⟨fun b hb => ?_, h2, by rw [k.1 3 rfl]; exact h3, by rw [k.1 3 rfl]; exact h4, by rw [k.1 73 rfl]; exact h5⟩
  rw [k.1 6 rfl, k.1 7 rfl, k.1 8 rfl, k.1 9 rfl, k.1 _ (d2 b (by omega))]; exact h1 b hb
theorem Inv_E2 {s : ac_m} {F B : Nat} (i : Inv s) (hf : F ≤ 6) (hF : s 73 0 = nI F) (hD : s 3 10 = nI F) (hb : B ≤ 12) (hB : s 73 1 = nI B) (hC : s 3 11 = nI B) : E2 s F B := by
  refine ⟨fun b h => ?_, hb, hC, hD, hB⟩
  have g := Inv_b i hB hb h
  rw [hF] at g
  obtain ⟨d, h3, e2⟩ := of_in (by omega) g.2.2.2.2.1 g.2.2.2.2.2.1
  obtain ⟨e, h4, e3⟩ := of_in (by omega) g.2.2.2.2.2.2.1 g.2.2.2.2.2.2.2.1
  refine ⟨⟨g.1, g.2.1, g.2.2.1, d, e, by omega, by omega, e2, e3⟩, g.2.2.2.1, ?_, ?_, ?_, ?_⟩
  · rw [← g.2.2.2.1]; exact g.2.2.2.2.2.2.2.2.2.2.2.1
  · rw [← g.2.2.2.1]; exact g.2.2.2.2.2.2.2.2.2.2.2.2
  · rw [← g.1]; exact g.2.2.2.2.1
  · rw [← g.1]; exact g.2.2.2.2.2.1
theorem E2_F {s : ac_m} {F B : Nat} (h : E2 s F B) (hf : F ≤ 6) (h0 : 0 < B) : 0 < F := by
  have q := (h.1 0 h0).2.2.2.2
  rcases Nat.eq_zero_or_pos F with e | e
  · subst e
    exact absurd q.2 (fun z => by have := q.1; have e0 : nI 0 = 0 := rfl; rw [e0] at z; grind)
  · exact e
theorem cm_kp {s s' : ac_m} {x : ro} {b : Nat} (hb : b < 12) (k : kp s s') : cm s' x b = cm s x b := by
  have d2 : ∀ f, f < 12 → isScr (102 + f) = false := by decide +kernel
  unfold cm
  rw [k.1 _ (d2 b hb)]
theorem En_A {s : ac_m} {F B : Nat} {z : Int32} {x : ro} (en : En s F x) (h : E2 s F B) (h0 : 0 < B) (h12 : x 12 ≤ 0) : En s F (mdA s B z x) ∧ mdA s B z x 12 ≤ 0 := by
  have hl := dN_lt (z := nx z) h0
  have hB := h.2.1
  unfold mdA
  generalize dN (nx z) B = b at *
  obtain ⟨i, hf, hF, v, hb, hg⟩ := en
  have t := h.1 b hl
  by_cases c : x b ≤ 0
  · rw [if_pos c]
    refine ⟨⟨i, hf, hF, vN_cm (by omega) v t.2.2, fun j hj hz => ?_, hg⟩, ?_⟩
    · by_cases e : j = b
      · subst e; exact t.1
      · rw [cm_pt (by omega), if_neg e, if_neg (by omega), if_neg (by omega)] at hz
        exact hb j hj hz
    · rw [cm_pt (by omega), if_neg (by omega), if_neg (by omega), if_neg (by omega)]; exact h12
  · rw [if_neg c]
    refine ⟨⟨i, hf, hF, vN_lv (by omega) v, fun j hj hz => hb j hj (fun y => hz ?_), hg⟩, ?_⟩
    · rw [lv_pt (by omega)]
      by_cases e : j = b
      · rw [if_pos e]; decide
      · rw [if_neg e, if_neg (by omega), if_neg (by omega)]; exact y
    · rw [lv_pt (by omega), if_neg (by omega), if_neg (by omega), if_neg (by omega)]; exact h12
theorem En_X {s : ac_m} {F B : Nat} {z : Int32} {x : ro} (en : En s F x) (h : E2 s F B) (h0 : 0 < B) (h12 : x 12 ≤ 0) : En s F (mdX F B z x) ∧ mdX F B z x 12 ≤ 0 := by
  have hl := dN_lt (z := nx z) h0
  have hB := h.2.1
  have hF := en.2.1
  have fl := dN_lt (z := nx (nx z)) (E2_F h hF h0)
  unfold mdX
  by_cases c : x (dN (nx z) B) ≤ 0 ∨ x (26 + dN (nx z) B) = nI (dN (nx (nx z)) F)
  · rw [if_pos c]; exact ⟨en, h12⟩
  · rw [if_neg c]
    obtain ⟨i, hf, hF, v, hb, hg⟩ := en
    refine ⟨⟨i, hf, hF, vN_dv (by omega) v (fun y => c (.inl y)) (nI_pos' (by omega)) (nI_lt fl (by omega)), fun j hj hz => hb j hj (fun y => hz ?_), hg⟩, ?_⟩
    · unfold dv; rw [upd_ne (by omega)]; exact y
    · unfold dv; rw [upd_ne (by omega)]; exact h12
theorem En_xB {s : ac_m} {F B : Nat} {q z : Int32} {x : ro} (en : En s F x) (h : E2 s F B) (h0 : 0 < B) (h12 : x 12 ≤ 0) : En s F (xB F B q z x) ∧ xB F B q z x 12 ≤ 0 := by
  unfold xB
  by_cases c : q ≤ nI (dN (nx z) 16)
  · rw [if_pos c]; exact ⟨en, h12⟩
  · rw [if_neg c]; exact En_X en h h0 h12
theorem En_xD {s : ac_m} {F B : Nat} {q z : Int32} {x : ro} (en : En s F x) (h : E2 s F B) (h12 : x 12 ≤ 0) : En s F (xD s F B q z x) ∧ xD s F B q z x 12 ≤ 0 := by
  unfold xD
  by_cases c : B = 0
  · rw [if_pos c]
    exact ⟨En_day en, by rw [dyF_gone (by omega) h12]; exact h12⟩
  · rw [if_neg c]
    have a := En_A (z := z) en h (by omega) h12
    have b := En_xB (q := q) (z := nx z) a.1 h (by omega) a.2
    exact ⟨En_day b.1, by rw [dyF_gone (by omega) b.2]; exact b.2⟩
theorem En_xs {s : ac_m} {F B : Nat} {q z : Int32} {x : ro} (en : En s F x) (h : E2 s F B) (h12 : x 12 ≤ 0) : ∀ k, En s F (xs s F B q z x k) ∧ xs s F B q z x k 12 ≤ 0
  | 0 => ⟨en, h12⟩
  | k + 1 => by rw [xs]; exact En_xD (En_xs en h h12 k).1 h (En_xs en h h12 k).2
theorem rM_fr {s s' : ac_m} {a : Nat} {x : ro} (h : ∀ j, j < 6 → s' (a + j) = s (a + j)) (m : rM s a x) : rM s' a x := by
  have h0 := h 0 (by omega)
  rw [Nat.add_zero] at h0
  unfold rM
  rw [h 1 (by omega), h 2 (by omega), h 3 (by omega), h 4 (by omega), h 5 (by omega), h0]
  exact m
/-- the second half of what chance does, in the class -/
theorem c_rest {F B : Nat} {q : Int32} {x : ro} {Q : ac_m → Prop} {s : ac_m} (hf : F ≤ 6) (e2 : E2 s F B) (h0 : 0 < B) (m : rM s 50 x)
    (h : ∀ s', (∀ y, y ≠ 68 → (y < 50 ∨ 57 < y) → s' y = s y) → s' 68 3 = zB q (s 68 3) → rM s' 50 (xB F B q (s 68 3) x) → Q s') :
    w_X1_draw (16 : Int32) (fun r35 s35 => (q ≤ r35 → (Q s35)) ∧ (¬ q ≤ r35 → (w_X1_draw (s35 3 11) (fun r50 s50 => w_X1_draw (s50 3 10) (fun r62 s62 => w_X5_driveOver 50 r50 r62 (fun r74 s74 => Q s74) s62) s50) s35))) s := by
  have hB := e2.2.1
  have hC := e2.2.2.1
  have hD := e2.2.2.2.1
  have F0 := E2_F e2 hf h0
  refine c_draw (m := 16) (by omega) (by omega) ⟨fun c => ?_, fun c => ?_⟩
  · unfold zB xB at h
    rw [if_pos c, if_pos c] at h
    exact h _ (fun y y1 _ => u_ne y1) u_eq (rM_fr (fun j hj => u_ne (by omega)) m)
  · unfold zB xB at h
    rw [if_neg c, if_neg c] at h
    rw [u_ne (show 3 ≠ 68 by omega), hC]
    refine c_draw h0 (by omega) ?_
    show w_X1_draw (ac_u _ _ _ _ 3 10) _ _
    rw [u_ne (show 3 ≠ 68 by omega), u_ne (show 3 ≠ 68 by omega), hD]
    refine c_draw F0 (by omega) ?_
    simp only [u_eq]
    have hl := dN_lt (z := nx (nx (s 68 3))) h0
    have fl := dN_lt (z := nx (nx (nx (s 68 3)))) F0
    have m3 : rM (ac_u (ac_u (ac_u s 68 3 (nx (s 68 3))) 68 3 (nx (nx (s 68 3)))) 68 3 (nx (nx (nx (s 68 3))))) 50 x := rM_fr (fun j hj => by rw [u_ne (by omega), u_ne (by omega), u_ne (by omega)]) m
    unfold mdX at h
    refine c_drive m3 (by rw [u_ne (by omega), u_ne (by omega), u_ne (by omega)]; exact hD) hf fl (by omega) (fun d => ?_) (fun d s4 f4 m4 => ?_)
    · rw [if_pos d] at h
      exact h _ (fun y y1 _ => by rw [u_ne y1, u_ne y1, u_ne y1]) u_eq m3
    · rw [if_neg d] at h
      refine h s4 (fun y y1 y2 => ?_) ?_ m4
      · rw [f4 y (by omega), u_ne y1, u_ne y1, u_ne y1]
      · rw [f4 68 (by omega), u_eq]
theorem c_meddle {F B : Nat} {q : Int32} {x : ro} {Q : ac_m → Prop} {s : ac_m} (hf : F ≤ 6) (e2 : E2 s F B) (h0 : 0 < B) (m : rM s 50 x)
    (h : ∀ s', (∀ y, y ≠ 68 → (y < 50 ∨ 57 < y) → s' y = s y) → s' 68 3 = zB q (nx (s 68 3)) → rM s' 50 (xB F B q (nx (s 68 3)) (mdA s B (s 68 3) x)) → Q s') : w_X1_meddle q Q s := by
  have hB := e2.2.1
  have hC := e2.2.2.1
  have hl := dN_lt (z := nx (s 68 3)) h0
  unfold w_X1_meddle
  rw [hC]
  refine c_draw h0 (by omega) ?_
  have m1 : rM (ac_u s 68 3 (nx (s 68 3))) 50 x := rM_fr (fun j hj => u_ne (by omega)) m
  have k1 : kp s (ac_u s 68 3 (nx (s 68 3))) := (kp.refl s).u rfl (by decide)
  unfold mdA at h
  refine c_ask m1 (by omega) (fun d => m_if0A ?_) (fun d s2 f2 m2 => m_if1A ?_)
  · rw [if_pos d] at h
    have t := (E2_kp k1 e2).1 _ hl
    refine c_again (by omega) m1 (by rw [u_ne (by omega)]; exact hC) hB hl t.2.1 t.1.1 (fun z => absurd d z) (fun _ s2 f2 m2 => ?_)
    rw [cm_kp (by omega) k1] at m2
    have z2 : s2 68 3 = nx (s 68 3) := by rw [f2 68 (by omega) (by omega) (by omega), u_eq]
    have k2 : kp s s2 := k1.trans (kp_50 (fun y _ _ hy => f2 y (by omega) (by omega) (by omega)))
    refine c_rest hf (E2_kp k2 e2) h0 m2 (fun s3 f3 e3 m3 => ?_)
    rw [z2] at e3 m3
    exact h s3 (fun y y1 y2 => by rw [f3 y y1 y2, f2 y (by omega) (by omega) (by omega), u_ne y1]) e3 m3
  · rw [if_neg d] at h
    have z2 : s2 68 3 = nx (s 68 3) := by rw [f2 68 (by omega) (by omega) (by omega), u_eq]
    have k2 : kp s s2 := k1.trans (kp_50 (fun y _ _ hy => f2 y (by omega) (by omega) (by omega)))
    refine c_rest hf (E2_kp k2 e2) h0 m2 (fun s3 f3 e3 m3 => ?_)
    rw [z2] at e3 m3
    exact h s3 (fun y y1 y2 => by rw [f3 y y1 y2, f2 y (by omega) (by omega) (by omega), u_ne y1]) e3 m3
theorem c_pass {F B n : Nat} {p q : Int32} {Q : ac_m → Prop} {s0 s : ac_m} (i : Inv s0) (hf : F ≤ 6) (hF : s0 73 0 = nI F) (e2 : E2 s0 F B) (hn : n < 1000) (k : kp s0 s) (e557 : s 557 = s0 557)
    (h : ∀ s', kp s0 s' → s' 557 = s0 557 → s' 69 = s 69 → rM s' 50 (xs s0 F B q p (cpx s0) n) → Q s') : w_X1_pass p (nI n) q Q s := by
  have E0 := Inv_En i hf hF
  have z12 := cpx_12 i
  have iS := Inv_kp k i
  have hC := e2.2.2.1
  have m0 : rM s 42 (cpx s0) := by
    have := Inv_rM iS
    have ec : cpx s = cpx s0 := by unfold cpx; rw [k.1 556 rfl, e557]
    rw [ec] at this
    exact this
  unfold w_X1_pass
  refine c_copy (x := cpx s0) (rM_fr (fun j hj => u_ne (by omega)) m0) (fun s1 f1 f19 m1 => ?_)
  unfold l_X1_pass_19
  intro P hP
  refine loopUp (P := fun k => ∀ s', kp s0 s' → s' 557 = s0 557 → s' 69 = s 69 → s' 68 3 = zs B q p k → rM s' 50 (xs s0 F B q p (cpx s0) k) → P (nI k) s') n ?_ ?_ s1 ((k.trans ((kp.refl s).u rfl (by decide))).trans (kp_50 (fun y _ _ hy => f1 y hy))) ?_ ?_ ?_ m1
  · intro s4 k4 e4 t4 z4 m4
    exact hP _ _ ⟨fun _ => h s4 k4 e4 t4 m4, fun z => absurd (Int32.le_refl _) z⟩
  · intro j hj ih s4 k4 e4 t4 z4 m4
    have Ej := En_xs (q := q) (z := p) E0 e2 z12 j
    have hC4 : s4 3 11 = nI B := by rw [k4.1 3 rfl]; exact hC
    have F4 := E2_kp k4 e2
    have En4 := En_kp k4 Ej.1
    refine hP _ _ ⟨fun z => absurd z (nI_ge hj (by omega)), fun _ => ⟨fun b0 => ?_, fun b0 => ?_⟩⟩
    · have B0 : B = 0 := by
        rw [hC4] at b0
        rcases Nat.eq_zero_or_pos B with e | e
        · exact e
        · exact absurd b0 (nI_nle e (by have := e2.2.1; omega))
      refine c_pd En4 m4 (fun z => absurd Ej.2 z) (fun s5 k5 f5 _ m5 => ?_)
      rw [nI_1]
      have es1 : zs B q p (j + 1) = zs B q p j := by rw [zs]; unfold zD; rw [if_pos B0]
      have es2 : xs s0 F B q p (cpx s0) (j + 1) = dyF s0 F (xs s0 F B q p (cpx s0) j) := by rw [xs]; unfold xD; rw [if_pos B0]
      refine ih s5 (k4.trans k5) (by rw [f5 557 (by omega) (by omega) (by omega)]; exact e4) (by rw [f5 69 (by omega) (by omega) (by omega)]; exact t4) ?_ ?_
      · rw [es1, f5 68 (by omega) (by omega) (by omega)]; exact z4
      · rw [es2]; rw [dyF_kp k4 E0.1 hf (.inr Ej.2)] at m5; exact m5
    · have B0 : 0 < B := by
        rw [hC4] at b0
        rcases Nat.eq_zero_or_pos B with e | e
        · subst e; exact absurd (by decide) b0
        · exact e
      refine c_meddle hf F4 B0 m4 (fun s5 f5 z5 m5 => ?_)
      have k5 : kp s4 s5 := by
        refine ⟨fun a ha => f5 a (fun e => by subst e; cases ha) ?_, fun j _ => by rw [f5 69 (by omega) (by omega)]⟩
        have : ∀ n, n < 8 → isScr (50 + n) = true := by decide +kernel
        rcases Nat.lt_or_ge a 50 with h1 | h1
        · exact .inl h1
        · rcases Nat.lt_or_ge 57 a with h2 | h2
          · exact .inr h2
          · have := this (a - 50) (by omega)
            rw [show 50 + (a - 50) = a by omega, ha] at this
            cases this
      have k05 := k4.trans k5
      have eA : mdA s4 B (s4 68 3) (xs s0 F B q p (cpx s0) j) = mdA s0 B (zs B q p j) (xs s0 F B q p (cpx s0) j) := by
        have hl := dN_lt (z := nx (s4 68 3)) B0
        have hB := e2.2.1
        rw [← z4]
        unfold mdA
        rw [cm_kp (by omega) k4]
      rw [z4] at z5
      rw [eA, z4] at m5
      have a := En_A (z := (zs B q p j)) Ej.1 e2 B0 Ej.2
      have b := En_xB (q := q) (z := nx (zs B q p j)) a.1 e2 B0 a.2
      refine c_pd (En_kp k05 b.1) m5 (fun z => absurd b.2 z) (fun s6 k6 f6 _ m6 => ?_)
      rw [nI_1]
      have es1 : zs B q p (j + 1) = zB q (nx (zs B q p j)) := by rw [zs]; unfold zD; rw [if_neg (by omega)]
      have es2 : xs s0 F B q p (cpx s0) (j + 1) = dyF s0 F (xB F B q (nx (zs B q p j)) (mdA s0 B (zs B q p j) (xs s0 F B q p (cpx s0) j))) := by rw [xs]; unfold xD; rw [if_neg (by omega)]
      refine ih s6 (k05.trans k6) (by rw [f6 557 (by omega) (by omega) (by omega), f5 557 (by omega) (by omega)]; exact e4) (by rw [f6 69 (by omega) (by omega) (by omega), f5 69 (by omega) (by omega)]; exact t4) ?_ ?_
      · rw [es1, f6 68 (by omega) (by omega) (by omega)]; exact z5
      · rw [es2]; rw [dyF_kp k05 E0.1 hf (.inr b.2)] at m6; exact m6
  · rw [f1 557 (by omega), u_ne (by omega)]; exact e557
  · rw [f1 69 (by omega), u_ne (by omega)]
  · rw [f1 68 (by omega), u_eq, zs]
