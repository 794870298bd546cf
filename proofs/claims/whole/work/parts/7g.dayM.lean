/-! A DAY OF THE REFERENCE -/
theorem m_less {p q : Int32} {Q : Int32 → ac_m → Prop} {s : ac_m} (h : Q (lss p q) s) : w_X12_less p q Q s := by
  unfold lss at h
  unfold w_X12_less
  exact ⟨fun z => by rw [if_pos z] at h; exact h, fun z => by rw [if_neg z] at h; exact h⟩
theorem gz_cong {e e' x : ro} {b : Nat} (h : e b = e' b) : gz e x b = gz e' x b := by
  unfold gz gz1 gt
  rw [h]
theorem m_isTh {r k : Nat} {Q : Int32 → ac_m → Prop} {s : ac_m} (hk : k < 13) (h0 : s r k ≤ 0 → Q 0 s) (h1 : ¬ s r k ≤ 0 → Q 1 s) : w_X12_isThere r (nI k) Q s := by
  unfold w_X12_isThere
  have f0 : (0 : Int32) + nI k = nI k := by rw [← nI_0, nI_add, Nat.zero_add]
  rw [f0, cl_nI (by omega)]
  exact ⟨vp_in_nI (by omega) (by omega), h0, h1⟩
theorem m_leaves {r b : Nat} {Q : ac_m → Prop} {s : ac_m} (hb : b < 13) (h : ∀ s', (∀ y, y ≠ r → s' y = s y) → s' r = upd (upd (upd (s r) b 0) (13 + b) 0) (26 + b) (-1) → Q s') : w_X12_leaves r (nI b) Q s := by
  have f0 : (0 : Int32) + nI b = nI b := by rw [← nI_0, nI_add, Nat.zero_add]
  have f26 : (26 : Int32) + nI b = nI (26 + b) := nI_add 26 b
  have f13 : (13 : Int32) + nI b = nI (13 + b) := nI_add 13 b
  unfold w_X12_leaves
  rw [f0, f13, f26, cl_nI (by omega), cl_nI (by omega), cl_nI (by omega)]
  refine ⟨vp_in_nI (by omega) (by omega), vp_in_nI (by omega) (by omega), vp_in_nI (by omega) (by omega), h _ (fun y hy => by rw [u_ne hy, u_ne hy, u_ne hy]) ?_⟩
  rw [u_row', u_row', u_row']
theorem m_grazes {r b f : Nat} {Q : ac_m → Prop} {s : ac_m} (hb : b < 13) (hr : r ≠ 558) (hf : f < 6) (ef : s r (26 + b) = nI f) (h0 : ¬ s r b ≤ 0) (h : ∀ s', (∀ y, y ≠ r → s' y = s y) → s' r = gz (s 558) (s r) b → Q s') : w_X12_grazes r (nI b) Q s := by
  have f0 : (0 : Int32) + nI b = nI b := by rw [← nI_0, nI_add, Nat.zero_add]
  have f26 : (26 : Int32) + nI b = nI (26 + b) := nI_add 26 b
  have f39 : (39 : Int32) + nI f = nI (39 + f) := nI_add 39 f
  have c0 := cl_nI (n := b) (by omega)
  have c26 := cl_nI (n := 26 + b) (by omega)
  have c39 := cl_nI (n := 39 + f) (by omega)
  have v13 : vp_in (nI b) 13 := vp_in_nI (by omega) (by omega)
  have v83 : vp_in (nI b) 83 := vp_in_nI (by omega) (by omega)
  have w26 : vp_in (nI (26 + b)) 83 := vp_in_nI (by omega) (by omega)
  have w39 : vp_in (nI (39 + f)) 83 := vp_in_nI (by omega) (by omega)
  have cf : (s r (26 + b)).toNatClampNeg = f := by rw [ef]; exact cl_nI (by omega)
  have eg : gt (s 558) (s r) b = lss (s 558 b) (s r (39 + f)) := by unfold gt lss; rw [cf]
  have g1 : gz1 (s 558) (s r) b = upd (upd (s r) (39 + f) (s r (39 + f) - lss (s 558 b) (s r (39 + f)))) b (s r b - (s 558 b - lss (s 558 b) (s r (39 + f)))) := by unfold gz1; rw [cf, eg]
  unfold gz at h
  rw [if_neg h0, eg, g1] at h
  unfold w_X12_grazes
  rw [f0, f26, c26, ef, f39, c39, c0]
  refine ⟨w26, v13, w39, m_less ⟨w39, w39, v83, v13, v83, v83, ?_⟩⟩
  have nb : b ≠ 39 + f := by omega
  have n8 : (558 : Nat) ≠ r := fun z => hr z.symm
  simp only [u_eq, u_at nb, u_ne n8]
  refine ⟨fun z => m_leaves hb (fun s' k1 k2 => h _ (fun y hy => ?_) ?_), fun z => h _ (fun y hy => ?_) ?_⟩
  · rw [u_ne hy, k1 y hy, u_ne hy, u_ne hy]
  · rw [if_neg (by grind), u_row', k2, u_row', u_row']
    congr 1
    show upd (upd (upd (upd (upd (s r) (39 + f) _) b _) b 0) (13 + b) 0) (26 + b) (-1) 81 + 1 = _
    rw [upd_ne (by omega), upd_ne (by omega), upd_ne (by omega), upd_ne (by omega), upd_ne (by omega)]
  · rw [u_ne hy, u_ne hy]
  · rw [if_pos (by grind), u_row', u_row']
theorem apX_fr {s s' : ac_m} {x : ro} {b : Nat} (h1 : s' 69 19 = s 69 19) (h2 : ∀ k, k < 160 → s' (138 + k) = s (138 + k)) (h3 : s' (102 + b) = s (102 + b)) (i : iL s) : apX s' x b = apX s x b := by
  unfold apX
  rw [h3, lval_mem h1 h2 i]
theorem apX_bd (s : ac_m) (x : ro) (b : Nat) : 0 ≤ apX s x b ∧ apX s x b ≤ 20 := by
  unfold apX
  by_cases c : x b ≤ 0
  · rw [if_pos c]; exact ⟨by decide, by decide⟩
  · rw [if_neg c]; exact lval_le _ _
theorem m_dayEnds {r F : Nat} {Q : ac_m → Prop} {s : ac_m} (i : iL s) (hr : r = 556 ∨ r = 557) (hF : s 73 0 = nI F) (hf : F ≤ 6) (vr : vR s r) (v : vN (nI F) (s r))
    (h : ∀ s', (∀ y, y ≠ 473 → y ≠ 474 → y ≠ 558 → y ≠ r → s' y = s y) → s' r = dyF s F (s r) → Q s') : w_X12_dayEnds r Q s := by
  have r1 : 556 ≤ r ∧ r ≤ 557 := by omega
  unfold w_X12_dayEnds l_X12_dayEnds_2
  intro P hP
  refine loopUp (P := fun k => ∀ s', (∀ y, y ≠ 473 → y ≠ 474 → y ≠ 558 → s' y = s y) → (∀ j, j < k → s' 558 j = apX s (s r) j) → P (nI k) s') 13 ?_ ?_ s (fun _ _ _ _ => rfl) (fun j hj => absurd hj (Nat.not_lt_zero j))
  rotate_left
  · intro k hk ih s' f g
    have i' : iL s' := iL_of i (by rw [f 69 (by omega) (by omega) (by omega)]) (by rw [f 25 (by omega) (by omega) (by omega)]) (by rw [f 26 (by omega) (by omega) (by omega)]) (fun j hj => f _ (by omega) (by omega) (by omega))
    have er : s' r = s r := f r (by omega) (by omega) (by omega)
    have vr' : vR s' r := by
      intro b hb hz
      rw [er] at hz ⊢
      rw [f (102 + b) (by omega) (by omega) (by omega)]
      exact vr b hb hz
    refine hP _ _ ⟨fun z => absurd z (nI_nlt (a := 12) (by omega) (by omega)), fun _ => m_eatOf i' hk vr' (fun s4 f4 => ⟨vp_in_nI hk (by omega), ?_⟩)⟩
    have ea : apM s' r k = apX s (s r) k := by
      show apX s' (s' r) k = _
      rw [er]
      exact apX_fr (by rw [f 69 (by omega) (by omega) (by omega)]) (fun j hj => f _ (by omega) (by omega) (by omega)) (f _ (by omega) (by omega) (by omega)) i
    rw [cl_nI (by omega), nI_1, ea]
    refine ih _ (fun y y1 y2 y3 => by rw [u_ne y3, f4 y y1 y2, f y y1 y2 y3]) (fun j hj => ?_)
    by_cases e : j = k
    · rw [e, u_eq]
    · rw [u_at e, f4 558 (by omega) (by omega), g j (by omega)]
  intro s1 f1 g1
  refine hP _ _ ⟨fun _ => ?_, fun z => absurd (by decide) z⟩
  unfold l_X12_dayEnds_28
  intro P2 hP2
  refine loopUp (P := fun k => ∀ s', (∀ y, y ≠ 473 → y ≠ 474 → y ≠ 558 → y ≠ r → s' y = s y) → (∀ j, j < 13 → s' 558 j = apX s (s r) j) → s' r = gzs (apX s (s r)) (s r) k → P2 (nI k) s') 13 ?_ ?_ s1 (fun y y1 y2 y3 _ => f1 y y1 y2 y3) g1 (f1 r (by omega) (by omega) (by omega))
  rotate_left
  · intro k hk ih s' f g e
    have vX := vN_gzs (k := k) hf v (fun b _ => apX_bd s (s r) b) (by omega)
    rw [← e] at vX
    refine hP2 _ _ ⟨fun z => absurd z (nI_nlt (a := 12) (by omega) (by omega)), fun _ => m_isTh hk (fun z => m_if0B ?_) (fun z => m_if1B ?_)⟩
    · rw [nI_1]
      refine ih s' f g ?_
      rw [gzs, ← e]
      unfold gz
      rw [if_pos z]
    · obtain ⟨w0, w1, q, hq, eq⟩ := vN_on hf vX hk z
      refine m_grazes hk (by omega) (show q < 6 by omega) eq z (fun s4 f4 e4 => ?_)
      rw [nI_1]
      refine ih s4 (fun y y1 y2 y3 y4 => (f4 y y4).trans (f y y1 y2 y3 y4)) (fun j hj => by rw [f4 558 (by omega)]; exact g j hj) ?_
      rw [e4, gzs, ← e]
      exact gz_cong (g k hk)
  intro s2 f2 g2 e2
  refine hP2 _ _ ⟨fun _ => ?_, fun z => absurd (by decide) z⟩
  unfold l_X12_dayEnds_56
  intro P3 hP3
  refine loopUp (P := fun k => ∀ s', (∀ y, y ≠ 473 → y ≠ 474 → y ≠ 558 → y ≠ r → s' y = s y) → s' r = agk (gzs (apX s (s r)) (s r) 13) k → P3 (nI k) s') 13 ?_ ?_ s2 f2 e2
  rotate_left
  · intro k hk ih s' f e
    have f13 : (13 : Int32) + nI k = nI (13 + k) := nI_add 13 k
    have w13 : vp_in (nI (13 + k)) 83 := vp_in_nI (by omega) (by omega)
    refine hP3 _ _ ⟨fun z => absurd z (nI_nlt (a := 12) (by omega) (by omega)), fun _ => ?_⟩
    rw [f13, cl_nI (by omega), nI_1]
    refine ⟨w13, m_isTh hk (fun z => m_if0B ⟨w13, ih _ (fun y y1 y2 y3 y4 => by rw [u_ne y4]; exact f y y1 y2 y3 y4) ?_⟩) (fun z => m_if1B ⟨w13, ih _ (fun y y1 y2 y3 y4 => by rw [u_ne y4]; exact f y y1 y2 y3 y4) ?_⟩)⟩
    · rw [u_row', agk, ← e, if_pos z]
    · rw [u_row', agk, ← e, if_neg z]
  intro s3 f3 e3
  refine hP3 _ _ ⟨fun _ => ?_, fun z => absurd (by decide) z⟩
  unfold l_X12_dayEnds_92
  intro P4 hP4
  refine loopUp (P := fun k => ∀ s', (∀ y, y ≠ 473 → y ≠ 474 → y ≠ 558 → y ≠ r → s' y = s y) → s' r = gwk (fun f => s (82 + f) 1) (agk (gzs (apX s (s r)) (s r) 13) 13) k → P4 (nI k) s') F ?_ ?_ s3 f3 e3
  rotate_left
  · intro k hk ih s' f e
    have f39 : (39 : Int32) + nI k = nI (39 + k) := nI_add 39 k
    have w39 : vp_in (nI (39 + k)) 83 := vp_in_nI (by omega) (by omega)
    refine hP4 _ _ ⟨fun z => absurd z (by rw [f 73 (by omega) (by omega) (by omega) (by omega), show (s 73 (0 : Int32).toNatClampNeg) = nI F from hF]; exact nI_ge hk (by omega)), fun _ => ?_⟩
    rw [f39, cl_nI (n := 39 + k) (by omega), cl_nI (n := k) (by omega), nI_1]
    refine ⟨w39, vp_in_nI (by omega) (by omega), m_less ⟨w39, ih _ (fun y y1 y2 y3 y4 => by rw [u_ne y4]; exact f y y1 y2 y3 y4) ?_⟩⟩
    rw [u_row', gwk, ← e, f (82 + k) (by omega) (by omega) (by omega) (by omega)]
    rfl
  intro s4 f4 e4
  refine hP4 _ _ ⟨fun _ => h _ (fun y y1 y2 y3 y4 => by rw [u_ne y4]; exact f4 y y1 y2 y3 y4) ?_, fun z => absurd ?_ z⟩
  · rw [u_row', e4]
    rfl
  · rw [f4 73 (by omega) (by omega) (by omega) (by omega), show (s 73 (0 : Int32).toNatClampNeg) = nI F from hF]
    exact Int32.le_refl _
