/-! DECADE, SPAN -/
theorem gz_hi {F : Nat} (hF : F ≤ 6) {e x : ro} {b j : Nat} (hb : b < 13) (v : vN (nI F) x) (hj : 83 ≤ j) : gz e x b j = x j := by
  by_cases h : x b ≤ 0
  · unfold gz; rw [if_pos h]
  · obtain ⟨-, -, f, hf, ef⟩ := vN_on hF v hb h
    rw [gz_pt hb (show f < 6 by omega) h ef j, if_neg (by omega), if_neg (by omega), if_neg (show ¬ j = 13 + b by omega), if_neg (show ¬ j = 26 + b by omega), if_neg (show ¬ j = 81 by omega)]
    split <;> rfl
theorem gzs_hi {F : Nat} (hF : F ≤ 6) {e x : ro} {j : Nat} (v : vN (nI F) x) (he : ∀ b, b < 13 → 0 ≤ e b ∧ e b ≤ 20) (hj : 83 ≤ j) : ∀ k, k ≤ 13 → gzs e x k j = x j
  | 0, _ => rfl
  | k + 1, h => by rw [gzs, gz_hi hF (by omega) (vN_gzs hF v he (by omega)) hj, gzs_hi hF v he hj k (by omega)]
theorem dyF_hi {s : ac_m} {F j : Nat} {x : ro} (en : En s F x) (hj : 83 ≤ j) : dyF s F x j = x j := by
  have hf := en.2.1
  unfold dyF
  rw [upd_ne (by omega), gwk_pt, if_neg (by omega), agk_pt j (by omega), if_neg (by omega), gzs_hi hf en.2.2.2.1 (fun b _ => apX_bd s x b) hj 13 (by omega)]
theorem xs_hi {s : ac_m} {F B j : Nat} {q z : Int32} {x : ro} (en : En s F x) (h : E2 s F B) (h12 : x 12 ≤ 0) (hj : 83 ≤ j) : ∀ k, xs s F B q z x k j = x j
  | 0 => rfl
  | k + 1 => by
    have ih := xs_hi (q := q) (z := z) en h h12 hj k
    have Ek := En_xs (q := q) (z := z) en h h12 k
    have hB := h.2.1
    rw [xs, ← ih]
    unfold xD
    by_cases c : B = 0
    · rw [if_pos c, dyF_hi Ek.1 hj]
    · have B0 : 0 < B := by omega
      have a := En_A (z := zs B q z k) Ek.1 h B0 Ek.2
      have b := En_xB (q := q) (z := nx (zs B q z k)) a.1 h B0 a.2
      have l1 := dN_lt (z := nx (zs B q z k)) B0
      have l2 := dN_lt (z := nx (nx (nx (zs B q z k)))) B0
      rw [if_neg c, dyF_hi b.1 hj]
      have eA : mdA s B (zs B q z k) (xs s F B q z x k) j = xs s F B q z x k j := by
        unfold mdA
        by_cases d : xs s F B q z x k (dN (nx (zs B q z k)) B) ≤ 0
        · rw [if_pos d, cm_pt (by omega), if_neg (by omega), if_neg (by omega), if_neg (by omega)]
        · rw [if_neg d, lv_pt (by omega), if_neg (by omega), if_neg (by omega), if_neg (by omega)]
      rw [← eA]
      unfold xB mdX dv
      generalize mdA s B (zs B q z k) (xs s F B q z x k) = y at *
      by_cases d : q ≤ nI (dN (nx (nx (zs B q z k))) 16)
      · rw [if_pos d]
      · rw [if_neg d]
        by_cases d2 : y (dN (nx (nx (nx (zs B q z k)))) B) ≤ 0 ∨ y (26 + dN (nx (nx (nx (zs B q z k)))) B) = nI (dN (nx (nx (nx (nx (zs B q z k))))) F)
        · rw [if_pos d2]
        · rw [if_neg d2, upd_ne (by omega)]
theorem m_isDec {p q : Int32} {Q : Int32 → ac_m → Prop} {s : ac_m} (h1 : (1 ≤ p ∧ p ≤ 96) → (0 ≤ q ∧ q ≤ 16) → Q 1 s) (h0 : ¬ ((1 ≤ p ∧ p ≤ 96) ∧ (0 ≤ q ∧ q ≤ 16)) → Q 0 s) : w_X12_isDecade p q Q s := by
  unfold w_X12_isDecade
  exact m_inB (fun a b => m_inB (fun c d => h1 ⟨a, b⟩ ⟨c, d⟩) (fun z => h0 (fun y => z y.2))) (fun z => h0 (fun y => z y.1))
theorem s_decade (p n q w : Int32) (s : ac_m) (i : Inv s) : simX thA (w_X11_decade p n q w) (w_X12_decade p n q w) s := by
  obtain ⟨F, hf, hF, hD⟩ := Inv_F i
  obtain ⟨B, hb, hB, hC⟩ := Inv_B i
  have e2 := Inv_E2 i hf hF hD hb hB hC
  have E0 := Inv_En i hf hF
  have z12 := cpx_12 i
  unfold simX w_X11_decade
  refine c_within (fun a0 b0 => ?_) (fun h => ?_)
  rotate_left
  · unfold w_X12_decade
    refine m_isDec (fun a _ => absurd a h) (fun _ => m_if0B ?_)
    exact m_bad1 u_eq (by decide) in2_1 (m_if1B ⟨⟨rfl, bad_69⟩, Inv_bad1 i⟩)
  refine c_within (fun a1 b1 => ?_) (fun h => ?_)
  rotate_left
  · unfold w_X12_decade
    refine m_isDec (fun _ a => absurd a h) (fun _ => m_if0B ?_)
    exact m_bad1 u_eq (by decide) in2_1 (m_if1B ⟨⟨rfl, bad_69⟩, Inv_bad1 i⟩)
  refine c_within (fun a2 b2 => ?_) (fun h => ?_)
  rotate_left
  · unfold w_X12_decade
    refine m_isDec (fun _ _ => m_if1B ?_) (fun z => absurd ⟨⟨a0, b0⟩, ⟨a1, b1⟩⟩ z)
    refine m_inA (fun a b => absurd ⟨a, b⟩ h) (fun _ => ?_)
    exact m_bad1 u_eq (by decide) in2_1 (m_if1B ⟨⟨rfl, bad_69⟩, Inv_bad1 i⟩)
  obtain ⟨m, hm, em⟩ := nI_of2 (M := 96) (n := 96) rfl (show ¬ n < 0 by grind) b0
  subst em
  have En4 := En_xs (q := q) (z := p) E0 e2 z12 m
  refine c_pass i hf hF e2 (by omega) (.refl s) rfl (fun s4 k4 e4 t4 m4 => ?_)
  have fin : ∀ v, (w = 0 → v = sm (fun k => xs s F B q p (cpx s) m (39 + k)) F) → (w = 1 → v = bs (fun k => decide (0 < xs s F B q p (cpx s) m k)) 13) → (w = 2 → v = xs s F B q p (cpx s) m 81 - s 556 81) → (¬ w = 0 → ¬ w = 1 → ¬ w = 2 → v = sm (fun k => xs s F B q p (cpx s) m k) 13) → w_X12_decade p (nI m) q w (fun b s2 => v = b ∧ s2 69 0 = 0 ∧ Inv s2) s4 := by
    intro v v0 v1 v2 v3
    unfold w_X12_decade
    refine m_isDec (fun _ _ => m_if1B ?_) (fun z => absurd ⟨⟨a0, b0⟩, ⟨a1, b1⟩⟩ z)
    refine m_inA (fun _ _ => ?_) (fun z => absurd ⟨a2, b2⟩ z)
    refine m_bad0 u_eq (m_if0B ?_)
    refine m_pass i hf hF e2 (by omega) (k4.trans kp_0) (fun j _ => by rw [u_ne (by omega), e4]) (fun s5 k5 t5 m5 => ?_)
    have i5 := Inv_kp k5 i
    rw [u_eq] at t5
    refine ⟨fun w0 => ⟨fun w1 => ⟨fun w2 => m_weightIn ⟨?_, t5, i5⟩, fun w2 => ⟨?_, t5, i5⟩⟩, fun w1 => m_there ⟨?_, t5, i5⟩⟩, fun w0 => m_grassIn (F := F) (by rw [k5.1 73 rfl]; exact hF) hf ⟨?_, t5, i5⟩⟩
    · rw [v3 w0 w1 w2, m5]
    · rw [v2 w2, m5, k5.1 556 rfl]; rfl
    · rw [v1 w1, m5]
    · rw [v0 w0, m5]
  refine ⟨fun w0 => c_grass (fin _ (fun _ => row_grass m4 En4.1.2.2.2.1 hf) (fun w1 => absurd (w0.symm.trans w1) (by decide)) (fun w1 => absurd (w0.symm.trans w1) (by decide)) (fun w1 => absurd w0 w1)), fun w0 => c_there (fin _ (fun w1 => absurd (w0.symm.trans w1) (by decide)) (fun _ => row_there m4 En4.2) (fun w1 => absurd (w0.symm.trans w1) (by decide)) (fun _ w1 => absurd w0 w1)), fun w0 => fin _ (fun w1 => absurd (w0.symm.trans w1) (by decide)) (fun w1 => absurd (w0.symm.trans w1) (by decide)) (fun _ => ?_) (fun _ _ w1 => absurd w0 w1), fun w0 => c_there (c_weight (fin _ (fun w1 => absurd w1 w0.1) (fun w1 => absurd w1 w0.2.1) (fun w1 => absurd w1 w0.2.2) (fun _ _ _ => row_weight m4 En4.1.2.2.2.1 En4.2)))⟩
  rw [m4.2.2.2.1, k4.1 42 rfl, i.2.1.2.2.2.1]
/-! SPAN -/
theorem row_bd {F : Nat} {x : ro} (v : vN (nI F) x) (hf : F ≤ 6) : ∃ n, n ≤ 594 ∧ sm (fun k => x (39 + k)) F = nI n := by
  refine ⟨ns (fun k => (x (39 + k)).toNatClampNeg) F, ?_, sm_ns (fun k hk => ?_)⟩
  · have := ns_bd (n := F) (m := fun k => (x (39 + k)).toNatClampNeg) (c := 99) (fun k hk => by
      have w := v.2.1 k (by omega)
      obtain ⟨g, hg, e⟩ := nI_of2 (M := 99) (n := 99) rfl (show ¬ x (39 + k) < 0 by grind) w.2.1
      show (x (39 + k)).toNatClampNeg ≤ 99
      rw [e, cl_nI (by omega)]; exact hg)
    have : F * 99 ≤ 6 * 99 := Nat.mul_le_mul_right 99 hf
    omega
  · have w := v.2.1 k (by omega)
    obtain ⟨g, hg, e⟩ := nI_of2 (M := 99) (n := 99) rfl (show ¬ x (39 + k) < 0 by grind) w.2.1
    rw [e, cl_nI (by omega)]
def lsq (g : Nat → Int32) : Nat → Int32
  | 0 => 594
  | k + 1 => if g k < lsq g k then g k else lsq g k
def mxq (g : Nat → Int32) : Nat → Int32
  | 0 => 0
  | k + 1 => if mxq g k < g k then g k else mxq g k
def brq (g : Nat → Int32) : Nat → Int32
  | 0 => 0
  | k + 1 => if g k = 0 then brq g k + 1 else brq g k
def lmq (g : Nat → Int32) : Nat → Int32
  | 0 => -1
  | k + 1 => if lmq g k = -1 then g k else lss (lmq g k) (g k)
theorem lm_ls {g : Nat → Int32} (hg : ∀ k, 0 ≤ g k ∧ g k ≤ 594) : ∀ k, (0 ≤ lsq g k ∧ lsq g k ≤ 594) ∧ (1 ≤ k → lmq g k = lsq g k)
  | 0 => ⟨⟨by rw [lsq]; decide, by rw [lsq]; decide⟩, fun h => absurd h (by omega)⟩
  | k + 1 => by
    obtain ⟨h1, h2⟩ := lm_ls hg k
    have gk := hg k
    refine ⟨?_, fun _ => ?_⟩
    · rw [lsq]; split <;> grind
    · rw [lmq, lsq]
      rcases Nat.eq_zero_or_pos k with e | e
      · subst e
        rw [lmq, lsq, if_pos rfl]
        by_cases c : g 0 < 594
        · rw [if_pos c]
        · rw [if_neg c]; grind
      · rw [h2 e, if_neg (by grind)]
        unfold lss
        grind
theorem c_hasFolk0 {F : Nat} {p : Int32} {Q : Int32 → ac_m → Prop} {s : ac_m} (hC : s 3 10 = nI F) (hf : F ≤ 6) (h1 : 0 ≤ p → p < nI F → Q 1 s) (h0 : ¬ (0 ≤ p ∧ p < nI F) → Q 0 s) : w_X3_hasFolk p Q s := by
  unfold w_X3_hasFolk
  rw [hC]
  have l6 : nI F ≤ 6 := nI_le (b := 6) hf (by omega)
  exact ⟨fun z => h0 (fun y => by grind), fun z => ⟨fun y => h0 (fun x => by grind), fun y => ⟨fun x => h0 (fun t => by grind), fun x => h1 (by grind) (by grind)⟩⟩⟩
theorem s_span (p m n q w f : Int32) (s : ac_m) (i : Inv s) : simX thA (w_X11_span p m n q w f) (w_X12_span p m n q w f) s := by
  obtain ⟨F, hf, hF, hD⟩ := Inv_F i
  obtain ⟨B, hb, hB, hC⟩ := Inv_B i
  have e2 := Inv_E2 i hf hF hD hb hB hC
  have E0 := Inv_En i hf hF
  have z12 := cpx_12 i
  have e73 : (ac_u (ac_u s 0 16 (s 0 16 + 1)) 69 0 0) 73 = s 73 := by rw [u_ne (by decide), u_ne (by decide)]
  unfold simX w_X11_span
  refine c_within (fun a9 b9 => ?_) (fun h => ?_)
  rotate_left
  · unfold w_X12_span
    refine m_inB (fun a b => absurd ⟨a, b⟩ h) (fun _ => ?_)
    exact m_bad1 u_eq (by decide) in2_1 (m_if1B ⟨⟨rfl, bad_69⟩, Inv_bad1 i⟩)
  refine c_within (fun a0 b0 => ?_) (fun h => ?_)
  rotate_left
  · unfold w_X12_span
    refine m_inB (fun _ _ => ?_) (fun z => absurd ⟨a9, b9⟩ z)
    refine m_isDec (fun a _ => absurd a h) (fun _ => m_if0B ?_)
    exact m_bad1 u_eq (by decide) in2_1 (m_if1B ⟨⟨rfl, bad_69⟩, Inv_bad1 i⟩)
  refine c_within (fun a1 b1 => ?_) (fun h => ?_)
  rotate_left
  · unfold w_X12_span
    refine m_inB (fun _ _ => ?_) (fun z => absurd ⟨a9, b9⟩ z)
    refine m_isDec (fun _ a => absurd a h) (fun _ => m_if0B ?_)
    exact m_bad1 u_eq (by decide) in2_1 (m_if1B ⟨⟨rfl, bad_69⟩, Inv_bad1 i⟩)
  refine c_within (fun a2 b2 => ?_) (fun h => ?_)
  rotate_left
  · unfold w_X12_span
    refine m_inB (fun _ _ => ?_) (fun z => absurd ⟨a9, b9⟩ z)
    refine m_isDec (fun _ _ => m_if1B ?_) (fun z => absurd ⟨⟨a0, b0⟩, ⟨a1, b1⟩⟩ z)
    refine m_inB (fun a b => absurd ⟨a, b⟩ h) (fun _ => ?_)
    exact m_bad1 u_eq (by decide) in2_1 (m_if1B ⟨⟨rfl, bad_69⟩, Inv_bad1 i⟩)
  refine c_hasFolk0 hD hf (fun h1 h2 => ?_) (fun h => ?_)
  rotate_left
  · unfold w_X11_need
    refine ⟨fun z => absurd rfl z, fun _ => ?_⟩
    unfold w_X12_span
    refine m_inB (fun _ _ => ?_) (fun z => absurd ⟨a9, b9⟩ z)
    refine m_isDec (fun _ _ => m_if1B ?_) (fun z => absurd ⟨⟨a0, b0⟩, ⟨a1, b1⟩⟩ z)
    refine m_inB (fun _ _ => ?_) (fun z => absurd ⟨a2, b2⟩ z)
    refine m_folk (by rw [e73]; exact i.1.1.1) (fun a b => absurd ⟨a, by rw [e73, hF] at b; exact b⟩ h) (fun _ => m_if0A ?_)
    exact m_bad1 u_eq (by decide) in2_1 (m_if1B ⟨⟨rfl, bad_69⟩, Inv_bad1 i⟩)
  unfold w_X11_need
  refine ⟨fun _ => ?_, fun z => absurd z (by decide)⟩
  obtain ⟨d, hd, ed⟩ := nI_of2 (M := 96) (n := 96) rfl (show ¬ n < 0 by grind) b0
  subst ed
  obtain ⟨c, hc, ec⟩ := nI_of2 (M := 20) (n := 20) rfl (show ¬ m < 0 by grind) b9
  subst ec
  have c1 : 1 ≤ c := by
    rcases Nat.eq_zero_or_pos c with e | e
    · subst e; exact absurd a9 (by decide)
    · exact e
  obtain ⟨fo, hfo, ef⟩ := of_in (by omega) h1 h2
  subst ef
  have f39 : (39 : Int32) + nI fo = nI (39 + fo) := nI_add 39 fo
  have g39 := cl_nI (n := 39 + fo) (by omega)
  have w39 : vp_in (nI (39 + fo)) 83 := vp_in_nI (by omega) (by omega)
  have v6 : vp_in (nI fo) 6 := vp_in_nI (by omega) (by omega)
  have Ex := fun j => En_xs (q := q) (z := p + nI j) E0 e2 z12 d
  have gb : ∀ j, 0 ≤ sm (fun k => xs s F B q (p + nI j) (cpx s) d (39 + k)) F ∧ sm (fun k => xs s F B q (p + nI j) (cpx s) d (39 + k)) F ≤ 594 := by
    intro j
    obtain ⟨t, ht, e⟩ := row_bd (Ex j).1.2.2.2.1 hf
    rw [e]
    exact ⟨nI_pos' (by omega), nI_le (b := 594) ht (by omega)⟩
  have ll := lm_ls (g := fun j => sm (fun k => xs s F B q (p + nI j) (cpx s) d (39 + k)) F) gb
  have fin : ∀ s2, kp s s2 → s2 557 = s 557 → ∀ v, (w = 0 → v = lsq (fun j => sm (fun k => xs s F B q (p + nI j) (cpx s) d (39 + k)) F) c) → (w = 1 → v = mxq (fun j => sm (fun k => xs s F B q (p + nI j) (cpx s) d (39 + k)) F) c) → (¬ w = 0 → ¬ w = 1 → v = brq (fun j => xs s F B q (p + nI j) (cpx s) d (39 + fo)) c) → w_X12_span p (nI c) (nI d) q w (nI fo) (fun b s2 => v = b ∧ s2 69 0 = 0 ∧ Inv s2) s2 := by
    intro s2 k2 e557 v v0 v1 v2
    have e73' : (ac_u s2 69 0 0) 73 = s 73 := by rw [u_ne (by decide), k2.1 73 rfl]
    unfold w_X12_span
    refine m_inB (fun _ _ => ?_) (fun z => absurd ⟨a9, b9⟩ z)
    refine m_isDec (fun _ _ => m_if1B ?_) (fun z => absurd ⟨⟨a0, b0⟩, ⟨a1, b1⟩⟩ z)
    refine m_inB (fun _ _ => ?_) (fun z => absurd ⟨a2, b2⟩ z)
    refine m_folk (by rw [e73']; exact i.1.1.1) (fun _ _ => m_if1A ?_) (fun z => absurd ⟨h1, by rw [e73', hF]; exact h2⟩ z)
    refine m_bad0 u_eq (m_if0B ?_)
    unfold l_X12_span_71
    intro P hP
    refine loopUp (P := fun k => ∀ s', kp s s' → s' 69 0 = 0 → (∀ j, 83 ≤ j → s' 557 j = s 557 j) → P (lmq (fun j => sm (fun k => xs s F B q (p + nI j) (cpx s) d (39 + k)) F) k) (mxq (fun j => sm (fun k => xs s F B q (p + nI j) (cpx s) d (39 + k)) F) k) (brq (fun j => xs s F B q (p + nI j) (cpx s) d (39 + fo)) k) (nI k) s') c ?_ ?_ _ (k2.trans kp_0) u_eq (fun j _ => by rw [u_ne (by omega), e557])
    · intro s4 k4 t4 h4
      have i4 := Inv_kp k4 i
      refine hP _ _ _ _ _ ⟨fun _ => ⟨fun w0 => ⟨fun w1 => ⟨v2 w0 w1, t4, i4⟩, fun w1 => ⟨v1 w1, t4, i4⟩⟩, fun w0 => ⟨?_, t4, i4⟩⟩, fun z => absurd (Int32.le_refl _) z⟩
      rw [(ll c).2 c1]; exact v0 w0
    · intro k hk ih s4 k4 t4 h4
      refine hP _ _ _ _ _ ⟨fun z => absurd z (nI_ge hk (by omega)), fun _ => ?_⟩
      refine m_pass i hf hF e2 (by omega) k4 h4 (fun s5 k5 t5 m5 => m_grassIn (F := F) (by rw [k5.1 73 rfl]; exact hF) hf ?_)
      rw [m5]
      have ih5 := ih s5 k5 (t5.trans t4) (fun j hj => by rw [m5, xs_hi E0 e2 z12 hj]; unfold cpx; rw [if_neg (by omega)])
      have e9 : ∀ x : Int32, x + 0 = x := Int32.add_zero
      have mo : ∀ (a b : Int32) (R : Int32 → ac_m → Prop) (t : ac_m), R (if a < b then b else a) t → w_X12_more a b R t := by
        intro a b R t h
        unfold w_X12_more
        refine ⟨fun z => ?_, fun z => ?_⟩
        · by_cases c : a < b
          · rw [if_pos c] at h; exact h
          · rw [if_neg c] at h; have : a = b := by grind
            rw [← this]; exact h
        · rw [if_neg (by grind)] at h; exact h
      rw [lmq, mxq, brq] at ih5
      refine ⟨fun x7 => m_less (mo _ _ _ _ ?_), fun x7 => mo _ _ _ _ ?_⟩
      · rw [if_neg x7] at ih5
        rw [f39, g39, m5, e9, nI_1]
        exact ⟨w39, fun y => by rw [if_neg y] at ih5; exact ih5, fun y => by rw [if_pos y] at ih5; exact ih5⟩
      · rw [if_pos x7] at ih5
        rw [f39, g39, m5, e9, nI_1]
        exact ⟨w39, fun y => by rw [if_neg y] at ih5; exact ih5, fun y => by rw [if_pos y] at ih5; exact ih5⟩
  unfold l_X11_span_60
  intro P hP
  refine loopUp (P := fun k => ∀ s', kp s s' → s' 557 = s 557 → P (lsq (fun j => sm (fun k => xs s F B q (p + nI j) (cpx s) d (39 + k)) F) k) (mxq (fun j => sm (fun k => xs s F B q (p + nI j) (cpx s) d (39 + k)) F) k) (brq (fun j => xs s F B q (p + nI j) (cpx s) d (39 + fo)) k) (nI k) s') c ?_ ?_ s (.refl s) rfl
  · intro s4 k4 e4
    have F4 := fin s4 k4 e4
    exact hP _ _ _ _ _ ⟨fun _ => ⟨fun w0 => ⟨fun w1 => F4 _ (fun w2 => absurd w2 w0) (fun w2 => absurd w2 w1) (fun _ _ => rfl), fun w1 => F4 _ (fun w2 => absurd w2 w0) (fun _ => rfl) (fun _ w2 => absurd w1 w2)⟩, fun w0 => F4 _ (fun _ => rfl) (fun w2 => absurd (w0.symm.trans w2) (by decide)) (fun w2 => absurd w0 w2)⟩, fun z => absurd (Int32.le_refl _) z⟩
  · intro k hk ih s4 k4 e4
    refine hP _ _ _ _ _ ⟨fun z => absurd z (nI_ge hk (by omega)), fun _ => ?_⟩
    refine c_pass i hf hF e2 (by omega) k4 e4 (fun s5 k5 e5 _ m5 => c_grass ?_)
    have ih5 := ih s5 k5 e5
    rw [lsq, mxq, brq] at ih5
    rw [row_grass m5 (Ex k).1.2.2.2.1 hf]
    unfold w_X5_grassOf
    rw [cl_nI (by omega), m5.2.1 fo (by omega), nI_1]
    have e9 : ∀ x : Int32, x + 0 = x := Int32.add_zero
    refine ⟨fun z => absurd z (nI_pos (by omega)), fun _ => ⟨fun z => absurd z (nI_ge (b := 6) (by omega) (by omega)), fun _ => ⟨v6, ?_⟩⟩⟩
    rw [e9]
    exact ⟨fun y => by rw [if_neg y] at ih5; exact ih5, fun y => by rw [if_pos y] at ih5; exact ih5⟩
