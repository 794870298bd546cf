/-! DECADES OF THE REFERENCE -/
theorem kp_69 {s s' : ac_m} (f : ∀ y, y ≠ 69 → y ≠ 557 → s' y = s y) (g : ∀ k, k ≠ 46 → s' 69 k = s 69 k) : kp s s' := by
  refine ⟨fun a ha => f a (fun e => by subst e; cases ha) (fun e => by subst e; cases ha), fun k hk => g k (fun e => by subst e; cases hk)⟩
theorem m_rest {F B : Nat} {q : Int32} {x : ro} {D : ac_m → Prop} {s : ac_m} (hf : F ≤ 6) (h0 : 0 < B) (hB : B ≤ 12) (F0 : 0 < F) (e73 : s 73 0 = nI F) (e731 : s 73 1 = nI B) (e : s 557 = x)
    (h : ∀ s', (∀ y, y ≠ 69 → y ≠ 557 → s' y = s y) → (∀ k, k ≠ 46 → s' 69 k = s 69 k) → s' 69 46 = zB q (s 69 46) → s' 557 = xB F B q (s 69 46) x → D s') :
    w_X12_draw (16 : Int32) (fun r72 s72 => (q ≤ r72 → (D s72)) ∧ (¬ q ≤ r72 → (w_X12_draw (s72 73 (1 : Int32).toNatClampNeg) (fun r86 s86 => w_X12_draw (s86 73 (0 : Int32).toNatClampNeg) (fun r104 s104 => w_X12_drives 557 r86 r104 (fun r107 s107 => D s107) s104) s86) s72))) s := by
  refine m_draw (m := 16) (by omega) (by omega) ⟨fun c => ?_, fun c => ?_⟩
  · unfold zB xB at h
    rw [if_pos c, if_pos c] at h
    exact h _ (fun y y1 _ => u_ne y1) (fun k hk => u_at hk) u_eq (by rw [u_ne (by omega)]; exact e)
  · unfold zB xB at h
    rw [if_neg c, if_neg c] at h
    rw [u_ne (show 73 ≠ 69 by omega), show s 73 (1 : Int32).toNatClampNeg = nI B from e731]
    refine m_draw h0 (by omega) ?_
    show w_X12_draw (ac_u _ _ _ _ 73 _) _ _
    rw [u_ne (show 73 ≠ 69 by omega), u_ne (show 73 ≠ 69 by omega), show s 73 (0 : Int32).toNatClampNeg = nI F from e73]
    refine m_draw F0 (by omega) ?_
    simp only [u_eq]
    have hl := dN_lt (z := nx (nx (s 69 46))) h0
    have e3 : (ac_u (ac_u (ac_u s 69 46 (nx (s 69 46))) 69 46 (nx (nx (s 69 46)))) 69 46 (nx (nx (nx (s 69 46))))) 557 = x := by rw [u_ne (by omega), u_ne (by omega), u_ne (by omega)]; exact e
    unfold mdX at h
    refine m_drives (by omega) (fun d => ?_) (fun d s4 f4 m4 => ?_)
    · rw [e3] at d
      rw [if_pos d] at h
      exact h _ (fun y y1 _ => by rw [u_ne y1, u_ne y1, u_ne y1]) (fun k hk => by rw [u_at hk, u_at hk, u_at hk]) u_eq e3
    · rw [e3] at d m4
      rw [if_neg d] at h
      refine h s4 (fun y y1 y2 => ?_) (fun k hk => ?_) ?_ m4
      · rw [f4 y y2, u_ne y1, u_ne y1, u_ne y1]
      · rw [f4 69 (by omega), u_at hk, u_at hk, u_at hk]
      · rw [f4 69 (by omega), u_eq]
theorem m_pass {F B n : Nat} {p q : Int32} {Q : ac_m → Prop} {s0 s : ac_m} (i : Inv s0) (hf : F ≤ 6) (hF : s0 73 0 = nI F) (e2 : E2 s0 F B) (hn : n < 1000) (k : kp s0 s) (e557 : ∀ j, 83 ≤ j → s 557 j = s0 557 j)
    (h : ∀ s', kp s0 s' → s' 69 0 = s 69 0 → s' 557 = xs s0 F B q p (cpx s0) n → Q s') : w_X12_decadeBy p (nI n) q Q s := by
  have E0 := Inv_En i hf hF
  have z12 := cpx_12 i
  have hB := e2.2.1
  unfold w_X12_decadeBy
  refine m_copies (by omega) (fun s1 f1 g1 => ?_)
  have k1 : kp s s1 := ⟨fun a ha => f1 a (fun e => by subst e; cases ha), fun j _ => by rw [f1 69 (by omega)]⟩
  have c1 : s1 557 = cpx s0 := by
    rw [g1]
    funext j
    unfold cpx
    by_cases c : j < 83
    · rw [if_pos c, if_pos c, k.1 556 rfl]
    · rw [if_neg c, if_neg c]; exact e557 j (by omega)
  unfold l_X12_decadeBy_19
  intro P hP
  refine loopUp (P := fun k => ∀ s', kp s0 s' → s' 69 0 = s 69 0 → s' 69 46 = zs B q p k → s' 557 = xs s0 F B q p (cpx s0) k → P (nI k) s') n ?_ ?_ (ac_u s1 69 46 p) ((k.trans k1).trans ((kp.refl s1).u rfl (fun _ => rfl))) ?_ ?_ ?_
  · intro s4 k4 t4 z4 m4
    exact hP _ _ ⟨fun _ => h s4 k4 t4 m4, fun z => absurd (Int32.le_refl _) z⟩
  · intro j hj ih s4 k4 t4 z4 m4
    have Ej := En_xs (q := q) (z := p) E0 e2 z12 j
    have F4 := E2_kp k4 e2
    have En4 := En_kp k4 Ej.1
    have b1 : s4 73 (1 : Int32).toNatClampNeg = nI B := F4.2.2.2.2
    have b2 : s4 73 0 = nI F := En4.2.2.1
    refine hP _ _ ⟨fun z => absurd z (nI_ge hj (by omega)), fun _ => ?_⟩
    rw [b1]
    refine ⟨fun b0 => ?_, fun b0 => ?_⟩
    · have B0 : B = 0 := by
        rcases Nat.eq_zero_or_pos B with e | e
        · exact e
        · exact absurd b0 (nI_nle e (by omega))
      refine m_de En4 m4 (fun s5 k5 f5 m5 => ?_)
      rw [nI_1]
      have es1 : zs B q p (j + 1) = zs B q p j := by rw [zs]; unfold zD; rw [if_pos B0]
      have es2 : xs s0 F B q p (cpx s0) (j + 1) = dyF s0 F (xs s0 F B q p (cpx s0) j) := by rw [xs]; unfold xD; rw [if_pos B0]
      refine ih s5 (k4.trans k5) (by rw [f5 69 (by omega) (by omega) (by omega) (by omega)]; exact t4) ?_ ?_
      · rw [es1, f5 69 (by omega) (by omega) (by omega) (by omega)]; exact z4
      · rw [es2, m5, dyF_kp k4 E0.1 hf (.inr Ej.2)]
    · have B0 : 0 < B := by
        rcases Nat.eq_zero_or_pos B with e | e
        · subst e; exact absurd (by decide) b0
        · exact e
      have F0 := E2_F e2 hf B0
      have hl := dN_lt (z := nx (s4 69 46)) B0
      have a := En_A (z := (zs B q p j)) Ej.1 e2 B0 Ej.2
      have b := En_xB (q := q) (z := nx (zs B q p j)) a.1 e2 B0 a.2
      have es1 : zs B q p (j + 1) = zB q (nx (zs B q p j)) := by rw [zs]; unfold zD; rw [if_neg (by omega)]
      have es2 : xs s0 F B q p (cpx s0) (j + 1) = dyF s0 F (xB F B q (nx (zs B q p j)) (mdA s0 B (zs B q p j) (xs s0 F B q p (cpx s0) j))) := by rw [xs]; unfold xD; rw [if_neg (by omega)]
      have day : ∀ s5, (∀ y, y ≠ 69 → y ≠ 557 → s5 y = s4 y) → (∀ k, k ≠ 46 → s5 69 k = s4 69 k) → s5 69 46 = zB q (nx (zs B q p j)) → s5 557 = xB F B q (nx (zs B q p j)) (mdA s0 B (zs B q p j) (xs s0 F B q p (cpx s0) j)) → w_X12_dayEnds 557 (fun s116 => P (nI j + (1 : Int32)) s116) s5 := by
        intro s5 f5 g5 z5 m5
        have k5 : kp s4 s5 := kp_69 f5 g5
        refine m_de (En_kp (k4.trans k5) b.1) m5 (fun s6 k6 f6 m6 => ?_)
        rw [nI_1]
        refine ih s6 ((k4.trans k5).trans k6) (by rw [f6 69 (by omega) (by omega) (by omega) (by omega), g5 0 (by omega)]; exact t4) ?_ ?_
        · rw [es1, f6 69 (by omega) (by omega) (by omega) (by omega)]; exact z5
        · rw [es2, m6, dyF_kp (k4.trans k5) E0.1 hf (.inr b.2)]
      refine m_draw B0 (by omega) ?_
      have e4 : (ac_u s4 69 46 (nx (s4 69 46))) 557 = xs s0 F B q p (cpx s0) j := by rw [u_ne (by omega)]; exact m4
      have kd : kp s4 (ac_u s4 69 46 (nx (s4 69 46))) := (kp.refl s4).u rfl (fun _ => rfl)
      refine m_asks (by omega) (fun d => m_if0A ?_) (fun d s5 f5 m5 => m_if1A ?_)
      · refine m_again (by omega) (by omega) (fun z => absurd d z) (fun _ s5 f5 m5 => ?_)
        rw [e4] at d m5
        have eA : s5 557 = mdA s0 B (zs B q p j) (xs s0 F B q p (cpx s0) j) := by
          rw [m5, cm_kp (by omega) (k4.trans kd), z4]
          unfold mdA
          rw [z4] at d
          rw [if_pos d]
        have z5 : s5 69 46 = nx (zs B q p j) := by rw [f5 69 (by omega), u_eq, z4]
        refine m_rest hf B0 hB F0 (by rw [f5 73 (by omega), u_ne (by omega)]; exact b2) (by rw [f5 73 (by omega), u_ne (by omega)]; exact F4.2.2.2.2) eA (fun s6 f6 g6 z6 m6 => ?_)
        rw [z5] at z6 m6
        exact day s6 (fun y y1 y2 => by rw [f6 y y1 y2, f5 y y2, u_ne y1]) (fun k hk => by rw [g6 k hk, f5 69 (by omega), u_at hk]) z6 m6
      · rw [e4] at d m5
        have eA : s5 557 = mdA s0 B (zs B q p j) (xs s0 F B q p (cpx s0) j) := by
          rw [m5, z4]
          unfold mdA
          rw [z4] at d
          rw [if_neg d]
        have z5 : s5 69 46 = nx (zs B q p j) := by rw [f5 69 (by omega), u_eq, z4]
        refine m_rest hf B0 hB F0 (by rw [f5 73 (by omega), u_ne (by omega)]; exact b2) (by rw [f5 73 (by omega), u_ne (by omega)]; exact F4.2.2.2.2) eA (fun s6 f6 g6 z6 m6 => ?_)
        rw [z5] at z6 m6
        exact day s6 (fun y y1 y2 => by rw [f6 y y1 y2, f5 y y2, u_ne y1]) (fun k hk => by rw [g6 k hk, f5 69 (by omega), u_at hk]) z6 m6
  · rw [u_at (by omega), f1 69 (by omega)]
  · rw [u_eq, zs]
  · rw [u_ne (by omega), xs]; exact c1
