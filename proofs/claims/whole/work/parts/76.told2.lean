theorem there_eq {s : ac_m} (i : Inv s) : bs (fun k => decide (0 < s (42 + 2) k)) 12 = bs (fun k => decide (0 < s 556 k)) 13 := by
  obtain ⟨B, hb, hB, hC⟩ := Inv_B i
  rw [bs_more (m := 12) (n := 13) (by omega) (fun k h1 h2 => ?_)]
  · exact bs_cong (fun k hk => by rw [(Inv_m i (b := k) (by omega)).1])
  · rw [Inv_nb i hB (b := k) (by omega) (by omega)]
    rfl
theorem s_told (p : Int32) (s : ac_m) (i : Inv s) : simX thA (w_X11_told p) (w_X12_told p) s := by
  obtain ⟨B, hb, hB, hC⟩ := Inv_B i
  obtain ⟨F, hf, hF, hD⟩ := Inv_F i
  have i0 := Inv_0 i
  have e73 : (ac_u s 69 0 0) 73 = s 73 := u_ne (by decide)
  have e556 : (ac_u s 69 0 0) 556 = s 556 := u_ne (by decide)
  unfold simX w_X11_told
  refine c_within (fun h1 h2 => ?_) (fun h => ?_)
  · refine ⟨fun e => ?_, fun e => ?_, fun e => ?_, fun e => ?_, fun e => ?_, fun e => ?_, fun e => ?_, fun e => ?_, fun e => ?_, fun e => ?_, fun e => ?_, fun e => ?_⟩
    · subst e
      refine m_told h1 h2 ?_
      unfold toldA
      refine ⟨fun _ => ⟨vp_in_nI (n := 0) (by omega) (by omega), ?_, u_eq, i0⟩, fun z => absurd z (by decide), fun z => absurd z (by decide), fun z => absurd z (by decide), fun z => absurd z (by decide), fun z => absurd z (by decide), fun z => absurd z (by decide), fun z => absurd z (by decide), fun z => absurd z (by decide), fun z => absurd z (by decide), fun z => absurd z (by decide), fun z => absurd rfl z.1⟩
      rw [e73]
      exact i.1.2.1.1
    · subst e
      refine m_told h1 h2 ?_
      unfold toldA
      refine ⟨fun z => absurd z (by decide), fun _ => ⟨vp_in_nI (n := 1) (by omega) (by omega), ?_, u_eq, i0⟩, fun z => absurd z (by decide), fun z => absurd z (by decide), fun z => absurd z (by decide), fun z => absurd z (by decide), fun z => absurd z (by decide), fun z => absurd z (by decide), fun z => absurd z (by decide), fun z => absurd z (by decide), fun z => absurd z (by decide), fun z => absurd rfl z.2.1⟩
      rw [e73]
      exact i.1.2.1.2.1
    · subst e
      refine m_told h1 h2 ?_
      unfold toldA
      refine ⟨fun z => absurd z (by decide), fun z => absurd z (by decide), fun _ => ⟨vp_in_nI (n := 2) (by omega) (by omega), ?_, u_eq, i0⟩, fun z => absurd z (by decide), fun z => absurd z (by decide), fun z => absurd z (by decide), fun z => absurd z (by decide), fun z => absurd z (by decide), fun z => absurd z (by decide), fun z => absurd z (by decide), fun z => absurd z (by decide), fun z => absurd rfl z.2.2.1⟩
      rw [e73]
      exact i.1.2.1.2.2
    · subst e
      refine m_told h1 h2 ?_
      unfold toldA
      refine ⟨fun z => absurd z (by decide), fun z => absurd z (by decide), fun z => absurd z (by decide), fun _ => ⟨?_, u_eq, i0⟩, fun z => absurd z (by decide), fun z => absurd z (by decide), fun z => absurd z (by decide), fun z => absurd z (by decide), fun z => absurd z (by decide), fun z => absurd z (by decide), fun z => absurd z (by decide), fun z => absurd rfl z.2.2.2.1⟩
      rw [e556]
      exact i.2.1.2.2.2.2
    · subst e
      refine c_there ?_
      refine m_told h1 h2 ?_
      unfold toldA
      refine ⟨fun z => absurd z (by decide), fun z => absurd z (by decide), fun z => absurd z (by decide), fun z => absurd z (by decide), fun _ => m_there ⟨?_, u_eq, i0⟩, fun z => absurd z (by decide), fun z => absurd z (by decide), fun z => absurd z (by decide), fun z => absurd z (by decide), fun z => absurd z (by decide), fun z => absurd z (by decide), fun z => absurd rfl z.2.2.2.2.1⟩
      rw [e556]
      exact there_eq i
    · subst e
      refine c_grass ?_
      refine m_told h1 h2 ?_
      unfold toldA
      refine ⟨fun z => absurd z (by decide), fun z => absurd z (by decide), fun z => absurd z (by decide), fun z => absurd z (by decide), fun z => absurd z (by decide), fun _ => m_grassIn (by rw [e73]; exact hF) hf ⟨?_, u_eq, i0⟩, fun z => absurd z (by decide), fun z => absurd z (by decide), fun z => absurd z (by decide), fun z => absurd z (by decide), fun z => absurd z (by decide), fun z => absurd rfl z.2.2.2.2.2.1⟩
      rw [e556, sm_more (m := F) hf (fun k a b => ?_)]
      · exact sm_cong (fun k hk => i.2.1.2.1 k (by omega))
      · rw [show s (42 + 1) k = s 556 (39 + k) from i.2.1.2.1 k b]
        exact (i.2.2.1.2.1 k b).2.2 (by rw [hF]; exact nI_le a (by omega))
    · subst e
      refine c_there (c_weight ?_)
      refine m_told h1 h2 ?_
      unfold toldA
      refine ⟨fun z => absurd z (by decide), fun z => absurd z (by decide), fun z => absurd z (by decide), fun z => absurd z (by decide), fun z => absurd z (by decide), fun z => absurd z (by decide), fun _ => m_weightIn ⟨?_, u_eq, i0⟩, fun z => absurd z (by decide), fun z => absurd z (by decide), fun z => absurd z (by decide), fun z => absurd z (by decide), fun z => absurd rfl z.2.2.2.2.2.2.1⟩
      rw [e556, sm_more (m := 12) (n := 13) (f := fun k => s 556 k) (by omega) (fun k a b => Inv_nb i hB (by omega) b)]
      refine sm_cong (fun k hk => ?_)
      rw [bs_bt _ 12 (by omega), (Inv_m i (b := k) (by omega)).1]
      have w := Inv_v i (b := k) (by omega)
      grind
    · subst e
      refine c_there (c_eatenBy i (fun s' f => ?_))
      have k0 := f.trans kp_0
      have i1 : Inv (ac_u s' 69 0 0) := Inv_kp k0 i
      refine m_told h1 h2 ?_
      unfold toldA
      refine ⟨fun z => absurd z (by decide), fun z => absurd z (by decide), fun z => absurd z (by decide), fun z => absurd z (by decide), fun z => absurd z (by decide), fun z => absurd z (by decide), fun z => absurd z (by decide), fun _ => m_there (m_eaten i1 (by rw [k0.1 73 rfl]; exact hB) hb (fun s2 f2 => ⟨?_, ?_, Inv_kp (kp_m f2) i1⟩)), fun z => absurd z (by decide), fun z => absurd z (by decide), fun z => absurd z (by decide), fun z => absurd rfl z.2.2.2.2.2.2.2.1⟩
      · rw [k0.1 556 rfl, there_eq i, eat_sum i hB hb]
        exact sm_cong (fun j hj => by rw [apM_kp k0 i.2.2.2.2.1 (by omega)])
      · rw [f2 69 (by decide) (by decide), u_eq]
    · subst e
      refine m_told h1 h2 ?_
      unfold toldA
      refine ⟨fun z => absurd z (by decide), fun z => absurd z (by decide), fun z => absurd z (by decide), fun z => absurd z (by decide), fun z => absurd z (by decide), fun z => absurd z (by decide), fun z => absurd z (by decide), fun z => absurd z (by decide), fun _ => ⟨?_, u_eq, i0⟩, fun z => absurd z (by decide), fun z => absurd z (by decide), fun z => absurd rfl z.2.2.2.2.2.2.2.2.1⟩
      rw [e556]
      exact i.2.1.2.2.2.1
    · subst e
      refine m_told h1 h2 ?_
      unfold toldA
      refine ⟨fun z => absurd z (by decide), fun z => absurd z (by decide), fun z => absurd z (by decide), fun z => absurd z (by decide), fun z => absurd z (by decide), fun z => absurd z (by decide), fun z => absurd z (by decide), fun z => absurd z (by decide), fun z => absurd z (by decide), fun _ => ⟨?_, u_eq, i0⟩, fun z => absurd z (by decide), fun z => absurd rfl z.2.2.2.2.2.2.2.2.2.1⟩
      rw [u_at (by decide)]
      exact i.2.2.2.2.2.1.1
    · subst e
      refine m_told h1 h2 ?_
      unfold toldA
      refine ⟨fun z => absurd z (by decide), fun z => absurd z (by decide), fun z => absurd z (by decide), fun z => absurd z (by decide), fun z => absurd z (by decide), fun z => absurd z (by decide), fun z => absurd z (by decide), fun z => absurd z (by decide), fun z => absurd z (by decide), fun z => absurd z (by decide), fun _ => ⟨?_, u_eq, i0⟩, fun z => absurd rfl z.2.2.2.2.2.2.2.2.2.2⟩
      rw [u_at (by decide)]
      exact i.2.2.2.2.2.2.2.2.2.1
    · have e : p = 11 := by grind
      subst e
      refine c_allCool ?_
      refine m_told h1 h2 ?_
      unfold toldA
      refine ⟨fun z => absurd z (by decide), fun z => absurd z (by decide), fun z => absurd z (by decide), fun z => absurd z (by decide), fun z => absurd z (by decide), fun z => absurd z (by decide), fun z => absurd z (by decide), fun z => absurd z (by decide), fun z => absurd z (by decide), fun z => absurd z (by decide), fun z => absurd z (by decide), fun _ => ⟨?_, u_eq, i0⟩⟩
      rw [e556, tri_eq i.2.2.1]
      unfold tri
      refine sm_cong (fun a ha => sm_cong (fun b hb => ?_))
      exact i.2.1.2.2.1 _ (by omega)
  · unfold w_X12_told
    refine m_inA (fun a b => absurd ⟨a, b⟩ h) (fun _ => ?_)
    exact m_bad1 u_eq (by decide) in2_1 (m_if1B ⟨⟨rfl, bad_69⟩, Inv_bad1 i⟩)
