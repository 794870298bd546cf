/-! OVERRUN -/
def ovr (s : ac_m) (B f : Nat) : Bool := decide (s 556 (39 + f) < sm (fun k => if bt (bs (fun k => decide (0 < s 556 k ∧ s 556 (26 + k) = nI f)) 13) k = true then apM s 556 k else 0) B)
theorem kp_48 {s s' : ac_m} (f : ∀ x, x ≠ 27 → x ≠ 28 → x ≠ 42 + 6 → x ≠ 42 + 7 → s' x = s x) : kp s s' := by
  refine ⟨fun a ha => f a ?_ ?_ ?_ ?_, fun k hk => by rw [f 69 (by decide) (by decide) (by decide) (by decide)]⟩
  · intro e; subst e; cases ha
  · intro e; subst e; cases ha
  · intro e; subst e; cases ha
  · intro e; subst e; cases ha
theorem ovr_kp {s s' : ac_m} (k : kp s s') (i : iL s) {B f : Nat} (hb : B ≤ 12) : ovr s' B f = ovr s B f := by
  unfold ovr
  rw [k.1 556 rfl]
  congr 2
  exact sm_cong (fun j hj => by rw [apM_kp k i (by omega)])
theorem ovr_no {s : ac_m} {B F f : Nat} (i : Inv s) (hF : s 73 0 = nI F) (hf : F ≤ f) (hf6 : f < 6) (hb : B ≤ 12) : ovr s B f = false := by
  unfold ovr
  have z : sm (fun k => if bt (bs (fun k => decide (0 < s 556 k ∧ s 556 (26 + k) = nI f)) 13) k = true then apM s 556 k else 0) B = 0 := by
    rw [sm_more (m := 0) (Nat.zero_le B) (fun k _ hk => ?_)]
    · rfl
    · rw [bs_bt _ 13 (by omega)]
      have w := Inv_v i (b := k) (by omega)
      rw [hF] at w
      have l : nI F ≤ nI f := nI_le hf (by omega)
      have l0 : (0 : Int32) ≤ nI f := nI_pos' (by omega)
      rw [if_neg]
      grind
  rw [z]
  have g := (i.2.2.1.2.1 f hf6).1
  exact decide_eq_false (by grind)
theorem s_overrun (s : ac_m) (i : Inv s) : sim0 (w_X11_overrun) (w_X12_overrun) s := by
  obtain ⟨B, hb, hB, hC⟩ := Inv_B i
  obtain ⟨F, hf, hF, hD⟩ := Inv_F i
  unfold sim0 w_X11_overrun w_X5_overrunBits
  refine c_reckonAll i.2.2.2.2.1 (by omega) (by omega) (Inv_vC i) (fun s' f g => ?_)
  have kk : kp s s' := kp_48 f
  have k0 := kk.trans kp_0
  have i0 : Inv (ac_u s' 69 0 0) := Inv_kp k0 i
  unfold l_X5_overrunBits_8
  intro P hP
  refine loopUp (P := fun k => P (bs (ovr s B) k) (nI k) s') 6 ?_ ?_
  · refine hP _ _ _ ⟨fun _ => ?_, fun z => absurd (by decide) z⟩
    show w_X12_overrun _ s'
    unfold w_X12_overrun l_X12_overrun_9
    intro P2 hP2
    refine loopUp (P := fun k => ∀ s2, (∀ a, a ≠ 473 → a ≠ 474 → s2 a = (ac_u s' 69 0 0) a) → P2 (bs (ovr s B) k) (nI k) s2) F ?_ ?_ _ (fun _ _ _ => rfl)
    · intro s2 f2
      refine hP2 _ _ _ ⟨fun _ => ⟨?_, ?_, Inv_kp (kp_m f2) i0⟩, fun z => absurd ?_ z⟩
      · exact bs_more hf (fun k h1 h2 => ovr_no i hF h1 h2 hb)
      · rw [f2 69 (by decide) (by decide), u_eq]
      · rw [f2 73 (by decide) (by decide), k0.1 73 rfl, show s 73 (0 : Int32).toNatClampNeg = nI F from hF]
        exact Int32.le_refl _
    · intro k hk ih s2 f2
      have i2 := Inv_kp (kp_m f2) i0
      have k2 := k0.trans (kp_m f2)
      have f39 : (39 : Int32) + nI k = nI (39 + k) := nI_add 39 k
      have ov := ovr_kp k2 i.2.2.2.2.1 (f := k) hb
      refine hP2 _ _ _ ⟨fun z => absurd z ?_, fun _ => ?_⟩
      · rw [f2 73 (by decide) (by decide), k0.1 73 rfl, show s 73 (0 : Int32).toNatClampNeg = nI F from hF]
        exact nI_ge hk (by omega)
      · refine m_onOne (m_eaten i2 (by rw [k2.1 73 rfl]; exact hB) hb (fun s3 f3 => ?_))
        have ih := ih s3 (fun a a1 a2 => (f3 a a1 a2).trans (f2 a a1 a2))
        rw [f39, cl_nI (by omega), f3 556 (by decide) (by decide), nI_1]
        refine ⟨vp_in_nI (by omega) (by omega), fun z => ?_, fun z => ?_⟩
        · have o : ovr s B k = false := by
            rw [← ov]
            unfold ovr
            exact decide_eq_false (by grind)
          rw [bs, o, if_neg (by decide)] at ih
          rw [Int32.or_zero]
          exact ih
        · have o : ovr s B k = true := by
            rw [← ov]
            unfold ovr
            exact decide_eq_true (by grind)
          rw [bs, o, if_pos rfl] at ih
          exact ih
  · intro k hk ih
    have e1 := cl_nI (n := k) (by omega)
    refine hP _ _ _ ⟨fun z => absurd z (nI_ge (b := 6) hk (by omega)), fun _ => c_grazing (c_appetite ?_)⟩
    have eq : sm (fun j => if bt (bs (fun j => decide (0 < s' (42 + 2) j ∧ s' (42 + 3) j = nI k)) 12) j = true then s' (42 + 7) j else 0) 12 = sm (fun j => if bt (bs (fun j => decide (0 < s 556 j ∧ s 556 (26 + j) = nI k)) 13) j = true then apM s 556 j else 0) B := by
      rw [f (42 + 2) (by decide) (by decide) (by decide) (by decide), f (42 + 3) (by decide) (by decide) (by decide) (by decide), graze_eq i, ← eat_sum i hB hb]
      exact sm_cong (fun j hj => by rw [g j (by omega), ap_eq i (by omega)])
    have gr : s' (42 + 1) k = s 556 (39 + k) := by rw [f (42 + 1) (by decide) (by decide) (by decide) (by decide)]; exact i.2.1.2.1 k hk
    rw [eq, e1, gr, nI_1]
    refine ⟨vp_in_nI hk (by omega), fun z => ?_, fun z => ?_⟩
    · have o : ovr s B k = false := by
        unfold ovr
        exact decide_eq_false (by grind)
      rw [bs, o, if_neg (by decide)] at ih
      exact ih
    · have o : ovr s B k = true := by
        unfold ovr
        exact decide_eq_true (by grind)
      rw [bs, o, if_pos rfl] at ih
      exact ih
