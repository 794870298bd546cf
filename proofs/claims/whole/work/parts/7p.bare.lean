/-! BARE -/
def kO (f : Nat) (x : ro) : Nat → ro
  | 0 => x
  | k + 1 => if kO f x k (26 + k) = nI f then kO f x k else lv (kO f x k) k
theorem kO_b {f : Nat} {x : ro} : ∀ {k : Nat}, k ≤ 13 → (∀ b, b < 13 → (b < k → (x (26 + b) = nI f → kO f x k b = x b ∧ kO f x k (13 + b) = x (13 + b) ∧ kO f x k (26 + b) = x (26 + b)) ∧ (x (26 + b) ≠ nI f → kO f x k b = 0 ∧ kO f x k (13 + b) = 0 ∧ kO f x k (26 + b) = -1)) ∧ (k ≤ b → kO f x k b = x b ∧ kO f x k (13 + b) = x (13 + b) ∧ kO f x k (26 + b) = x (26 + b))) ∧ ∀ j, 39 ≤ j → kO f x k j = x j
  | 0, _ => ⟨fun b _ => ⟨fun h => absurd h (Nat.not_lt_zero b), fun _ => ⟨rfl, rfl, rfl⟩⟩, fun _ _ => rfl⟩
  | k + 1, hk => by
    obtain ⟨h1, h2⟩ := kO_b (f := f) (x := x) (k := k) (by omega)
    have hkk := (h1 k (by omega)).2 (Nat.le_refl k)
    by_cases c : kO f x k (26 + k) = nI f
    · have e : kO f x (k + 1) = kO f x k := by rw [kO, if_pos c]
      rw [e]
      refine ⟨fun b hb => ⟨fun hbk => ?_, fun hbk => (h1 b hb).2 (by omega)⟩, h2⟩
      by_cases eb : b = k
      · subst eb
        rw [hkk.2.2] at c
        exact ⟨fun _ => hkk, fun z => absurd c z⟩
      · exact (h1 b hb).1 (by omega)
    · have e : kO f x (k + 1) = lv (kO f x k) k := by rw [kO, if_neg c]
      rw [e]
      have P := lv_pt (x := kO f x k) (show k < 13 by omega)
      rw [hkk.2.2] at c
      refine ⟨fun b hb => ?_, fun j hj => by rw [P, if_neg (by omega), if_neg (by omega), if_neg (by omega)]; exact h2 j hj⟩
      by_cases eb : b = k
      · subst eb
        rw [P b, if_pos rfl, P (13 + b), if_neg (by omega), if_pos rfl, P (26 + b), if_neg (by omega), if_neg (by omega), if_pos rfl]
        exact ⟨fun _ => ⟨fun z => absurd z c, fun _ => ⟨rfl, rfl, rfl⟩⟩, fun z => absurd z (by omega)⟩
      · rw [P b, if_neg eb, if_neg (by omega), if_neg (by omega), P (13 + b), if_neg (by omega), if_neg (by omega), if_neg (by omega), P (26 + b), if_neg (by omega), if_neg (by omega), if_neg (by omega)]
        exact ⟨fun z => (h1 b hb).1 (by omega), fun z => (h1 b hb).2 (by omega)⟩
theorem vN_kO {F : Int32} {f : Nat} {x : ro} (v : vN F x) : ∀ {k : Nat}, k ≤ 13 → vN F (kO f x k)
  | 0, _ => v
  | k + 1, hk => by
    rw [kO]
    split
    · exact vN_kO v (by omega)
    · exact vN_lv (by omega) (vN_kO v (by omega))
theorem kO_there {f : Nat} {x : ro} {b : Nat} (hb : b < 13) (h : ¬ kO f x 13 b ≤ 0) : ¬ x b ≤ 0 ∧ x (26 + b) = nI f := by
  have q := ((kO_b (f := f) (x := x) (k := 13) (Nat.le_refl 13)).1 b hb).1 hb
  by_cases c : x (26 + b) = nI f
  · rw [(q.1 c).1] at h; exact ⟨h, c⟩
  · rw [(q.2 c).1] at h; exact absurd (by decide) h
theorem En_kO {s : ac_m} {F f : Nat} {x : ro} (en : En s F x) : En s F (kO f x 13) := by
  obtain ⟨i, hf, hF, v, hb, hg⟩ := en
  exact ⟨i, hf, hF, vN_kO v (Nat.le_refl 13), fun b h1 h2 => hb b h1 (kO_there (by omega) h2).1, hg⟩
theorem prj_kO {F f : Nat} {x : ro} (hf : f < 6) (v : vN (nI F) x) : prj f x (kO f x 13) := by
  obtain ⟨h1, h2⟩ := kO_b (f := f) (x := x) (k := 13) (Nat.le_refl 13)
  have n1 : (-1 : Int32) ≠ nI f := fun q => by have := nI_pos' (n := f) (by omega); rw [← q] at this; exact absurd this (by decide)
  refine ⟨fun b hb => ?_, h2 _ (by omega), fun k hk => h2 _ (by omega), h2 _ (by omega)⟩
  have q := (h1 b hb).1 hb
  refine ⟨fun c => q.2 ?_, fun c1 c2 => ?_⟩
  · rcases c with c | c
    · rcases v.1 b hb with w | w
      · rw [w.2.2]; exact n1
      · exact absurd w.1 (by grind)
    · exact c
  · have z := q.1 c2
    exact ⟨z.1, z.2.1, z.2.2.trans c2⟩
theorem c_keep {f : Nat} {x : ro} {Q : ac_m → Prop} {s : ac_m} (m : rM s 50 x) (h : ∀ s', (∀ y, y ≠ 52 → y ≠ 53 → y ≠ 54 → s' y = s y) → rM s' 50 (kO f x 13) → Q s') : w_X5_keepOnly (nI f) Q s := by
  unfold w_X5_keepOnly l_X5_keepOnly_2
  intro P hP
  refine loopUp (P := fun k => ∀ s', (∀ y, y ≠ 52 → y ≠ 53 → y ≠ 54 → s' y = s y) → rM s' 50 (kO f x k) → P (nI k) s') 13 ?_ ?_ s (fun _ _ _ _ => rfl) m
  · intro s' f' m'
    exact hP _ _ ⟨fun _ => h s' f' m', fun z => absurd (by decide) z⟩
  · intro k hk ih s' f' m'
    have q := (m'.1 k hk).2.2
    refine hP _ _ ⟨fun z => absurd z (nI_ge (b := 13) hk (by omega)), fun _ => ⟨vp_in_nI hk (by omega), ?_⟩⟩
    rw [cl_nI (by omega), show s' 53 k = kO f x k (26 + k) from q, nI_1]
    refine ⟨fun c => ih s' f' (by rw [kO, if_pos c]; exact m'), fun c => c_remove hk (ih _ (fun y y1 y2 y3 => by rw [u_ne y3, u_ne y2, u_ne y1]; exact f' y y1 y2 y3) ?_)⟩
    rw [kO, if_neg c]
    exact rM_3 hk m'
theorem cut0 {p : Nat → Prop} : ∀ (N : Nat), ∃ b, b ≤ N ∧ (∀ j, j < b → ¬ p j) ∧ (b < N → p b)
  | 0 => ⟨0, Nat.le_refl 0, fun j h => absurd h (Nat.not_lt_zero j), fun h => absurd h (Nat.lt_irrefl 0)⟩
  | N + 1 => by
    obtain ⟨b, hb, h1, h2⟩ := cut0 (p := p) N
    rcases Nat.lt_or_ge b N with h | h
    · exact ⟨b, by omega, h1, fun _ => h2 h⟩
    · have e : b = N := by omega
      subst e
      by_cases c : p b
      · exact ⟨b, by omega, h1, fun _ => c⟩
      · refine ⟨b + 1, by omega, fun j j2 => ?_, fun z => absurd z (Nat.lt_irrefl _)⟩
        by_cases e : j = b
        · rw [e]; exact c
        · exact h1 j (by omega)
theorem prj_dys {s : ac_m} {F f : Nat} {x y : ro} (en : En s F x) (hf : f < F) (h : prj f x y) : ∀ k, prj f (dys s F x k) (dys s F y k)
  | 0 => h
  | k + 1 => by rw [dys, dys]; exact prj_day (En_dys en k) hf (prj_dys en hf h k)
theorem c_gof {f : Nat} {x : ro} {Q : Int32 → ac_m → Prop} {s : ac_m} (m : rM s 50 x) (hf : f < 6) (h : Q (x (39 + f)) s) : w_X5_grassOf 50 (nI f) Q s := by
  unfold w_X5_grassOf
  rw [cl_nI (by omega), m.2.1 f hf]
  exact ⟨fun z => absurd z (nI_pos (by omega)), fun _ => ⟨fun z => absurd z (nI_ge (b := 6) (by omega) (by omega)), fun _ => ⟨vp_in_nI hf (by omega), h⟩⟩⟩
theorem s_bare (p : Int32) (s : ac_m) (i : Inv s) : simX thN (w_X11_bare p) (w_X12_bare p) s := by
  obtain ⟨F, hf, hF, hD⟩ := Inv_F i
  have hn := i.1.1.1
  have E0 := Inv_En i hf hF
  have z12 := cpx_12 i
  unfold simX w_X11_bare w_X11_needFolk
  refine c_number (fun h1 h2 => ?_) (fun z => ?_)
  rotate_left
  · rw [hD, ← hF] at z
    have e : (ac_u (ac_u s 0 15 (s 0 15 + 1)) 69 0 0) 73 = s 73 := by rw [u_ne (by decide), u_ne (by decide)]
    unfold w_X12_bare
    exact m_folk (by rw [e]; exact hn) (fun a b => (z ⟨a, by rw [e] at b; exact b⟩).elim) (fun _ => m_if0A (m_bad1 u_eq (by decide) in2_0 (m_if1B ⟨⟨rfl, bad_69⟩, Inv_bad0 i⟩)))
  rw [hD] at h2
  obtain ⟨f, hfF, ef⟩ := of_in (by omega) h1 h2
  subst ef
  have f39 : (39 : Int32) + nI f = nI (39 + f) := nI_add 39 f
  have g39 := cl_nI (n := 39 + f) (by omega)
  have w39 : vp_in (nI (39 + f)) 83 := vp_in_nI (by omega) (by omega)
  have Ek := En_kO (f := f) E0
  have z12k : kO f (cpx s) 13 12 ≤ 0 := by
    by_cases c : kO f (cpx s) 13 12 ≤ 0
    · exact c
    · exact absurd z12 (kO_there (by omega) c).1
  have pj := prj_dys E0 hfF (prj_kO (f := f) (by omega) E0.2.2.2.1)
  obtain ⟨b, hb, b1, b2⟩ := cut0 (p := fun j => dys s F (cpx s) j (39 + f) = 0) 100
  have fin : ∀ s2, kp s s2 → s2 557 = s 557 → ∀ v, v = (if b = 100 then -1 else nI b) → w_X12_bare (nI f) (fun b s2 => v = b ∧ s2 69 0 = 0 ∧ Inv s2) s2 := by
    intro s2 k2 e557 v hv
    have e : (ac_u s2 69 0 0) 73 = s 73 := by rw [u_ne (by decide), k2.1 73 rfl]
    unfold w_X12_bare
    refine m_folk (by rw [e]; exact hn) (fun _ _ => m_if1A (m_bad0 u_eq (m_if0B (m_copies (by omega) (fun s3 f3 e3 => ?_))))) (fun z => (z ⟨h1, by rw [e, hF]; exact h2⟩).elim)
    have k3 : kp s s3 := (k2.trans kp_0).trans ⟨fun a ha => f3 a (fun e => by subst e; cases ha), fun k _ => by rw [f3 69 (by omega)]⟩
    have e3' : s3 557 = dys s F (cpx s) 0 := by rw [e3, u_ne (by omega), u_ne (by omega), k2.1 556 rfl, e557]; rfl
    have t3 : s3 69 0 = 0 := by rw [f3 69 (by omega), u_eq]
    unfold l_X12_bare_42
    intro P hP
    refine loopUp (P := fun k => ∀ s', kp s s' → s' 557 = dys s F (cpx s) k → s' 69 0 = 0 → P (nI k) s') b ?_ ?_ s3 k3 e3' t3
    · intro s4 k4 e4 t4
      have i4 := Inv_kp k4 i
      rcases Nat.lt_or_ge b 100 with h | h
      · refine hP _ _ ⟨fun z => absurd z (nI_nlt (a := 99) (by omega) (by omega)), fun _ => ?_⟩
        rw [f39, g39, e4]
        exact ⟨w39, fun z => absurd (b2 h) z, fun _ => ⟨by rw [hv, if_neg (by omega)], t4, i4⟩⟩
      · have : b = 100 := by omega
        subst this
        exact hP _ _ ⟨fun _ => ⟨by rw [hv, if_pos rfl], t4, i4⟩, fun z => absurd (by decide) z⟩
    · intro k hk ih s4 k4 e4 t4
      refine hP _ _ ⟨fun z => absurd z (nI_nlt (a := 99) (by omega) (by omega)), fun _ => ?_⟩
      rw [f39, g39, e4]
      refine ⟨w39, fun _ => ?_, fun z => absurd z (b1 k hk)⟩
      refine m_de (En_kp k4 (En_dys E0 k)) e4 (fun s5 k5 f5 e5 => ?_)
      rw [nI_1]
      refine ih s5 (k4.trans k5) ?_ (by rw [f5 69 (by omega) (by omega) (by omega) (by omega)]; exact t4)
      rw [e5, dyF_kp k4 E0.1 hf (.inr (by rw [dys_gone (by omega) z12]; exact z12))]
      rfl
  refine c_copy (Inv_rM i) (fun s1 f1 f19 m1 => c_keep (f := f) m1 (fun s1' f1' m1' => ?_))
  unfold l_X11_bare_26
  intro P hP
  refine loopUp (P := fun k => ∀ s', kp s s' → (∀ y, 57 < y → s' y = s y) → rM s' 50 (dys s F (kO f (cpx s) 13) k) → P (nI k) s') b ?_ ?_ s1' (kp_50 (fun y _ _ h => by rw [f1' y (by omega) (by omega) (by omega)]; exact f1 y h)) (fun y hy => by rw [f1' y (by omega) (by omega) (by omega)]; exact f1 y (.inr hy)) m1'
  · intro s4 k4 f4 m4
    have F4 := fin s4 k4 (f4 557 (by omega))
    rcases Nat.lt_or_ge b 100 with h | h
    · refine hP _ _ ⟨fun z => absurd z (nI_nlt (a := 99) (by omega) (by omega)), fun _ => c_gof m4 (by omega) ?_⟩
      rw [(pj b).2.1]
      exact ⟨fun z => absurd (b2 h) z, fun _ => F4 _ (by rw [if_neg (by omega)])⟩
    · have : b = 100 := by omega
      subst this
      exact hP _ _ ⟨fun _ => F4 _ (by rw [if_pos rfl]), fun z => absurd (by decide) z⟩
  · intro k hk ih s4 k4 f4 m4
    have z4 : dys s F (kO f (cpx s) 13) k 12 ≤ 0 := by rw [dys_gone (by omega) z12k]; exact z12k
    refine hP _ _ ⟨fun z => absurd z (nI_nlt (a := 99) (by omega) (by omega)), fun _ => c_gof m4 (by omega) ?_⟩
    rw [(pj k).2.1]
    refine ⟨fun _ => ?_, fun z => absurd z (b1 k hk)⟩
    refine c_pd (En_kp k4 (En_dys Ek k)) m4 (fun z => absurd z4 z) (fun s5 k5 f5 _ m5 => ?_)
    rw [nI_1]
    refine ih s5 (k4.trans k5) (fun y hy => (f5 y (by omega) (by omega) (.inr hy)).trans (f4 y hy)) ?_
    rw [dyF_kp k4 E0.1 hf (.inr z4)] at m5
    exact m5
