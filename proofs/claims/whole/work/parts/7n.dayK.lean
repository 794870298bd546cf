/-! A DAY OF THE CLASS, whatever the unseen beast's kind -/
theorem ap_eqK {s : ac_m} {a F : Nat} {κ : Int32} {x : ro} (hf : F ≤ 6) (m : rM s a x) (v : vN (nI F) x) (hb : hB2 s x) (h12 : ¬ x 12 ≤ 0 → s a 9 = κ) {k : Nat} (hk : k < 13) : apC s a k = apX (ac_u s 114 2 κ) x k := by
  have mk := m.1 k hk
  have lv : ∀ X, lval (ac_u s 114 2 κ) X = lval s X := by
    intro X
    unfold lval
    rw [u_ne (by omega)]
    by_cases c : s 69 19 = 0
    · rw [if_pos c, if_pos c]
    · rw [if_neg c, if_neg c]
      have ea : ∀ z, (fun k => ac_u s 114 2 κ (138 + k) z) = fun k => s (138 + k) z := fun z => by funext k; rw [u_ne (by omega)]
      rw [ea, ea]
  unfold apC apX
  rw [mk.1]
  by_cases hz : x k ≤ 0
  · rw [if_pos hz, if_pos hz]
  · obtain ⟨-, -, f, hf', e⟩ := vN_on hf v hk hz
    have ec : cnC s a (nI f) 13 = cn x (nI f) 13 := by
      unfold cnC cn
      refine sm_cong (fun j hj => ?_)
      have mj := m.1 j hj
      have w := v.1 j hj
      have p0 := nI_pos' (n := f) (by omega)
      rw [mj.2.2]
      grind
    rw [if_neg hz, if_neg hz, mk.2.1, mk.2.2, e, ec, cl_nI (by omega), m.2.1 f (by omega), m.2.2.2.2, lv]
    by_cases k12 : k = 12
    · subst k12
      rw [if_pos rfl, if_pos rfl, if_pos rfl, h12 hz, show (ac_u s 114 2 κ) (102 + 12) 2 = κ from u_eq]
    · obtain ⟨h1, h2, h3, d, e', hd, he, ed, ee⟩ := hb k (by omega) hz
      rw [if_neg k12, if_neg k12, if_neg k12, u_ne (by omega), ← h1, ← h2, ← h3, ed, ee, cl_nI (by omega), cl_nI (by omega), m.2.2.1 _ (by omega)]
theorem c_passDayK {a F : Nat} {κ : Int32} {x : ro} {Q : ac_m → Prop} {s : ac_m} (i : iL s) (ha : 30 ≤ a) (ha2 : a ≤ 50) (hf : F ≤ 6) (m : rM s a x) (v : vN (nI F) x) (hb : hB2 s x) (hg : hG s F) (h12 : ¬ x 12 ≤ 0 → s a 9 = κ)
    (h : ∀ s', (∀ y, y ≠ 27 → y ≠ 28 → (y < a ∨ a + 7 < y) → s' y = s y) → s' a 9 = s a 9 → rM s' a (dyF (ac_u s 114 2 κ) F x) → Q s') : w_X5_passDay a Q s := by
  unfold w_X5_passDay
  refine c_reckonAll i ha ha2 (vC_of hf m v hb) (fun s1 f1 g1 => ?_)
  unfold l_X5_passDay_6
  intro P hP
  have m1 : rM s1 a x := by
    refine ⟨fun b hb => ?_, fun f hf => ?_, fun k hk => ?_, ?_, ?_⟩
    · rw [f1 (a + 2) (by omega) (by omega) (by omega) (by omega), f1 (a + 4) (by omega) (by omega) (by omega) (by omega), f1 (a + 3) (by omega) (by omega) (by omega) (by omega)]; exact m.1 b hb
    · rw [f1 (a + 1) (by omega) (by omega) (by omega) (by omega)]; exact m.2.1 f hf
    · rw [f1 (a + 5) (by omega) (by omega) (by omega) (by omega)]; exact m.2.2.1 k hk
    · rw [f1 a (by omega) (by omega) (by omega) (by omega)]; exact m.2.2.2.1
    · rw [f1 a (by omega) (by omega) (by omega) (by omega)]; exact m.2.2.2.2
  refine loopUp (P := fun k => ∀ s', (∀ y, y ≠ 27 → y ≠ 28 → (y < a ∨ a + 7 < y) → s' y = s y) → s' a 9 = s a 9 → (∀ j, j < 13 → s' (a + 7) j = apX (ac_u s 114 2 κ) x j) → rM s' a (agk (gzs (apX (ac_u s 114 2 κ) x) x k) k) → P (nI k) s') 13 ?_ ?_ s1 (fun y y1 y2 y3 => f1 y y1 y2 (by omega) (by omega)) (by rw [f1 a (by omega) (by omega) (by omega) (by omega)]) (fun j hj => (g1 j hj).trans (ap_eqK hf m v hb h12 hj)) m1
  rotate_left
  · intro k hk ih s' f f9 g mm
    have vX := vN_gzs (k := k) hf v (fun b _ => apX_bd (ac_u s 114 2 κ) x b) (by omega)
    have mk := mm.1 k hk
    rw [agk_pt k (by omega), if_neg (by omega), agk_pt (26 + k) (by omega), if_neg (by omega)] at mk
    refine hP _ _ ⟨fun z => absurd z (nI_ge (b := 13) hk (by omega)), fun _ => ⟨vp_in_nI hk (by omega), ?_⟩⟩
    rw [cl_nI (by omega), mk.1, nI_1]
    refine ⟨fun z => ih s' f f9 g (rM_cong mm (fun j _ => ?_)), fun z => ?_⟩
    · have e0 : gzs (apX (ac_u s 114 2 κ) x) x (k + 1) = gzs (apX (ac_u s 114 2 κ) x) x k := by rw [gzs]; unfold gz; rw [if_pos z]
      rw [e0, agk_pt j (by omega), agk_pt j (by omega)]
      by_cases c : 13 ≤ j ∧ j < 13 + k ∧ ¬ gzs (apX (ac_u s 114 2 κ) x) x k (j - 13) ≤ 0
      · rw [if_pos c, if_pos ⟨c.1, by omega, c.2.2⟩]
      · rw [if_neg c, if_neg (fun y => ?_)]
        have : j - 13 = k ∨ j < 13 + k := by omega
        rcases this with e | e
        · rw [e] at y; exact y.2.2 z
        · exact c ⟨y.1, e, y.2.2⟩
    · obtain ⟨w0, w1, q, hq, eq⟩ := vN_on hf vX hk z
      refine c_graze hk (show q < 6 by omega) (mk.2.2.trans eq) rfl (fun s4 k0 k1 k2 k3 k4 k5 k6 => ?_)
      refine ih s4 (fun y y1 y2 y3 => (k0 y (by omega) (by omega) (by omega) (by omega) (by omega)).trans (f y y1 y2 y3)) ((k1 9 (by omega)).trans f9) (fun j hj => by rw [k0 (a + 7) (by omega) (by omega) (by omega) (by omega) (by omega)]; exact g j hj) ?_
      rw [gzs]
      exact rM_graze hk (show q < 6 by omega) mm eq z (g k hk) rfl k0 k1 k2 k3 k4 k5 k6
  intro s2 f2 f29 g2 m2
  refine hP _ _ ⟨fun _ => ?_, fun z => absurd (by decide) z⟩
  unfold l_X5_passDay_34
  intro P2 hP2
  refine loopUp (P := fun k => ∀ s', (∀ y, y ≠ 27 → y ≠ 28 → (y < a ∨ a + 7 < y) → s' y = s y) → s' a 9 = s a 9 → rM s' a (gwk (s 5) (agk (gzs (apX (ac_u s 114 2 κ) x) x 13) 13) k) → P2 (nI k) s') 6 ?_ ?_ s2 f2 f29 m2
  rotate_left
  · intro k hk ih s' f f9 mm
    have v6 : vp_in (nI k) 6 := vp_in_nI (by omega) (by omega)
    refine hP2 _ _ ⟨fun z => absurd z (nI_ge (b := 6) hk (by omega)), fun _ => ⟨v6, v6, v6, ?_⟩⟩
    rw [cl_nI (by omega), nI_1]
    refine ih _ (fun y y1 y2 y3 => by rw [u_ne (by omega)]; exact f y y1 y2 y3) (by rw [u_ne (by omega)]; exact f9) ?_
    rw [gwk, f 5 (by omega) (by omega) (by omega)]
    have mk := mm.2.1 k hk
    refine ⟨fun b hb => ?_, fun c hc => ?_, fun c hc => ?_, ?_, ?_⟩
    · rw [u_ne (by omega), u_ne (by omega), u_ne (by omega), upd_ne (by omega), upd_ne (by omega), upd_ne (by omega)]; exact mm.1 b hb
    · by_cases e : c = k
      · subst e
        rw [u_eq, upd_eq, mk]
        unfold lss
        grind
      · rw [u_at e, upd_ne (by omega)]; exact mm.2.1 c hc
    · rw [u_ne (by omega), upd_ne (by omega)]; exact mm.2.2.1 c hc
    · rw [u_ne (by omega), upd_ne (by omega)]; exact mm.2.2.2.1
    · rw [u_ne (by omega), upd_ne (by omega)]; exact mm.2.2.2.2
  intro s3 f3 f39 m3
  have vZ : vN (nI F) (agk (gzs (apX (ac_u s 114 2 κ) x) x 13) 13) := vN_agk (vN_gzs hf v (fun b _ => apX_bd (ac_u s 114 2 κ) x b) (by omega)) (by omega)
  have eW : ∀ j, j < 83 → gwk (s 5) (agk (gzs (apX (ac_u s 114 2 κ) x) x 13) 13) 6 j = gwk (fun f => (ac_u s 114 2 κ) (82 + f) 1) (agk (gzs (apX (ac_u s 114 2 κ) x) x 13) 13) F j := by
    intro j _
    rw [gwk_pt, gwk_pt]
    by_cases c : 39 ≤ j ∧ j < 39 + 6
    · rw [if_pos c]
      have q := hg (j - 39) (by omega)
      by_cases c2 : j - 39 < F
      · rw [if_pos (by omega), (q.1 c2).1, u_ne (by omega)]
      · have vz := vZ.2.1 (j - 39) (by omega)
        rw [show 39 + (j - 39) = j by omega] at vz
        rw [if_neg (by omega), q.2 (by omega), vz.2.2 (nI_le (by omega) (by omega))]
        rfl
    · rw [if_neg c, if_neg (by omega)]
  refine hP2 _ _ ⟨fun _ => h _ (fun y y1 y2 y3 => by rw [u_ne (by omega)]; exact f3 y y1 y2 y3) (by rw [u_at (by omega)]; exact f39) ?_, fun z => absurd (by decide) z⟩
  have m4 := rM_cong m3 eW
  unfold dyF
  refine ⟨fun b hb => ?_, fun c hc => ?_, fun c hc => ?_, ?_, ?_⟩
  · rw [u_ne (by omega), u_ne (by omega), u_ne (by omega), upd_ne (by omega), upd_ne (by omega), upd_ne (by omega)]; exact m4.1 b hb
  · rw [u_ne (by omega), upd_ne (by omega)]; exact m4.2.1 c hc
  · rw [u_ne (by omega), upd_ne (by omega)]; exact m4.2.2.1 c hc
  · rw [u_at (by omega), upd_ne (by omega)]; exact m4.2.2.2.1
  · rw [u_eq, upd_eq, m4.2.2.2.2]
theorem c_pdK {F : Nat} {κ : Int32} {x : ro} {Q : ac_m → Prop} {s : ac_m} (en : En s F x) (m : rM s 50 x) (h12 : ¬ x 12 ≤ 0 → s 50 9 = κ) (h : ∀ s', kp s s' → (∀ y, y ≠ 27 → y ≠ 28 → (y < 50 ∨ 57 < y) → s' y = s y) → s' 50 9 = s 50 9 → rM s' 50 (dyF (ac_u s 114 2 κ) F x) → Q s') : w_X5_passDay 50 Q s := by
  obtain ⟨i, hf, hF, v, hb, hg⟩ := en
  exact c_passDayK i (by omega) (by omega) hf m v hb hg h12 (fun s' f f9 m' => h s' (kp_50 f) f f9 m')
theorem kp_K {s s' : ac_m} {κ : Int32} (k : kp s s') : kp (ac_u s 114 2 κ) (ac_u s' 114 2 κ) := by
  refine ⟨fun a ha => ?_, fun j hj => ?_⟩
  · have e : a ≠ 114 := fun e => by subst e; cases ha
    rw [u_ne e, u_ne e]; exact k.1 a ha
  · rw [u_ne (by omega), u_ne (by omega)]; exact k.2 j hj
theorem kp_114 {s : ac_m} {κ : Int32} : kp s (ac_u s 114 2 κ) := (kp.refl s).u rfl (by decide)
theorem dyF_K {s s' : ac_m} {F : Nat} {κ : Int32} {x : ro} (k : kp s s') (i : iL s) (hf : F ≤ 6) : dyF (ac_u s' 114 2 κ) F x = dyF (ac_u s 114 2 κ) F x :=
  dyF_kp (kp_K k) (iL_kq (.of kp_114) i) hf (.inl (by rw [u_eq, u_eq]))
