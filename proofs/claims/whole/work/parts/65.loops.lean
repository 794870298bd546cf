/-! THE LOOPS THAT ONLY READ -/
theorem c_there {a : Nat} {Q : Int32 → ac_m → Prop} {s : ac_m}  (h : Q (bs (fun k => decide (0 < s (a + 2) k)) 12) s) : w_X5_thereBits a Q s := by
  unfold w_X5_thereBits l_X5_thereBits_4
  intro P hP
  refine loopUp (P := fun k => P (bs (fun k => decide (0 < s (a + 2) k)) k) (nI k) s) 12 ?_ ?_
  · exact hP _ _ _ ⟨fun _ => h, fun hc => absurd (by decide) hc⟩
  · intro k hk ih
    have e1 := cl_nI (n := k) (by omega)
    have e4 := nI_1 k
    have e2 : vp_in (nI k) 13 := vp_in_nI (by omega) (by omega)
    have e3 : nI k < 12 := nI_lt (b := 12) hk (by omega)
    refine hP _ _ _ ?_
    grind [bs]
theorem c_grazing {a : Nat} {p : Int32} {Q : Int32 → ac_m → Prop} {s : ac_m}  (h : Q (bs (fun k => decide (0 < s (a + 2) k ∧ s (a + 3) k = p)) 12) s) : w_X5_grazingBits a p Q s := by
  unfold w_X5_grazingBits l_X5_grazingBits_4
  intro P hP
  refine loopUp (P := fun k => P (bs (fun k => decide (0 < s (a + 2) k ∧ s (a + 3) k = p)) k) (nI k) s) 12 ?_ ?_
  · exact hP _ _ _ ⟨fun _ => h, fun hc => absurd (by decide) hc⟩
  · intro k hk ih
    have e1 := cl_nI (n := k) (by omega)
    have e4 := nI_1 k
    have e2 : vp_in (nI k) 13 := vp_in_nI (by omega) (by omega)
    have e3 : nI k < 12 := nI_lt (b := 12) hk (by omega)
    refine hP _ _ _ ?_
    grind [bs]
theorem c_driven {a : Nat} {Q : Int32 → ac_m → Prop} {s : ac_m}  (h : Q (bs (fun k => decide (0 < s (a + 2) k ∧ ¬ s (a + 3) k = s 6 k)) 12) s) : w_X5_drivenBits a Q s := by
  unfold w_X5_drivenBits l_X5_drivenBits_4
  intro P hP
  refine loopUp (P := fun k => P (bs (fun k => decide (0 < s (a + 2) k ∧ ¬ s (a + 3) k = s 6 k)) k) (nI k) s) 12 ?_ ?_
  · exact hP _ _ _ ⟨fun _ => h, fun hc => absurd (by decide) hc⟩
  · intro k hk ih
    have e1 := cl_nI (n := k) (by omega)
    have e4 := nI_1 k
    have e2 : vp_in (nI k) 13 := vp_in_nI (by omega) (by omega)
    have e3 : nI k < 12 := nI_lt (b := 12) hk (by omega)
    refine hP _ _ _ ?_
    grind [bs]
theorem c_grass {a : Nat} {Q : Int32 → ac_m → Prop} {s : ac_m}  (h : Q (sm (fun k => s (a + 1) k) 6) s) : w_X5_allGrass a Q s := by
  unfold w_X5_allGrass l_X5_allGrass_4
  intro P hP
  refine loopUp (P := fun k => P (sm (fun k => s (a + 1) k) k) (nI k) s) 6 ?_ ?_
  · exact hP _ _ _ ⟨fun _ => h, fun hc => absurd (by decide) hc⟩
  · intro k hk ih
    have e1 := cl_nI (n := k) (by omega)
    have e4 := nI_1 k
    have e2 : vp_in (nI k) 6 := vp_in_nI (by omega) (by omega)
    have e3 : nI k < 6 := nI_lt (b := 6) hk (by omega)
    refine hP _ _ _ ?_
    grind [sm]
theorem c_weight {a : Nat} {p : Int32} {Q : Int32 → ac_m → Prop} {s : ac_m}  (h : Q (sm (fun k => if bt p k = true then s (a + 2) k else 0) 12) s) : w_X5_weightOf a p Q s := by
  unfold w_X5_weightOf l_X5_weightOf_4
  intro P hP
  refine loopUp (P := fun k => P (sm (fun k => if bt p k = true then s (a + 2) k else 0) k) (nI k) s) 12 ?_ ?_
  · exact hP _ _ _ ⟨fun _ => h, fun hc => absurd (by decide) hc⟩
  · intro k hk ih
    have e1 := cl_nI (n := k) (by omega)
    have e4 := nI_1 k
    have e2 : vp_in (nI k) 13 := vp_in_nI (by omega) (by omega)
    have e3 : nI k < 12 := nI_lt (b := 12) hk (by omega)
    have e5 := and_bit (x := p) (j := k) (by omega)
    refine hP _ _ _ ?_
    grind [sm]
theorem c_appetite {a : Nat} {p : Int32} {Q : Int32 → ac_m → Prop} {s : ac_m}  (h : Q (sm (fun k => if bt p k = true then s (a + 7) k else 0) 12) s) : w_X5_appetiteSum a p Q s := by
  unfold w_X5_appetiteSum l_X5_appetiteSum_4
  intro P hP
  refine loopUp (P := fun k => P (sm (fun k => if bt p k = true then s (a + 7) k else 0) k) (nI k) s) 12 ?_ ?_
  · exact hP _ _ _ ⟨fun _ => h, fun hc => absurd (by decide) hc⟩
  · intro k hk ih
    have e1 := cl_nI (n := k) (by omega)
    have e4 := nI_1 k
    have e2 : vp_in (nI k) 13 := vp_in_nI (by omega) (by omega)
    have e3 : nI k < 12 := nI_lt (b := 12) hk (by omega)
    have e5 := and_bit (x := p) (j := k) (by omega)
    refine hP _ _ _ ?_
    grind [sm]
theorem c_match {r B : Nat} {p : Int32} {Q : Int32 → ac_m → Prop} {s : ac_m} (hB : s 3 11 = nI B) (hb : B ≤ 12) (h : Q (bs (fun k => decide (s r k = p)) B) s) : w_X3_matching r p Q s := by
  unfold w_X3_matching l_X3_matching_5
  intro P hP
  refine loopUp (P := fun k => P (bs (fun k => decide (s r k = p)) k) (nI k) s) B ?_ ?_
  · exact hP _ _ _ ⟨fun _ => h, fun hc => absurd (by rw [hB]; exact Int32.le_refl _) hc⟩
  · intro k hk ih
    have e1 := cl_nI (n := k) (by omega)
    have e4 := nI_1 k
    have e2 : vp_in (nI k) 13 := vp_in_nI (by omega) (by omega)
    have e3 : nI k < nI B := nI_lt hk (by omega)
    have e6 : nI k < 13 := nI_lt (b := 13) (by omega) (by omega)
    refine hP _ _ _ ?_
    grind [bs]
theorem m_there {r : Nat} {Q : Int32 → ac_m → Prop} {s : ac_m}  (h : Q (bs (fun k => decide (0 < s r k)) 13) s) : w_X12_there r Q s := by
  unfold w_X12_there l_X12_there_4
  intro P hP
  refine loopUp (P := fun k => P (bs (fun k => decide (0 < s r k)) k) (nI k) s) 13 ?_ ?_
  · exact hP _ _ _ ⟨fun _ => h, fun hc => absurd (by decide) hc⟩
  · intro k hk ih
    have e1 := cl_nI (n := k) (by omega)
    have e4 := nI_1 k
    have e3 : nI k < 13 := nI_lt (b := 13) hk (by omega)
    have e9 : ∀ x : Int32, x ||| 0 = x := fun x => Int32.or_zero
    unfold w_X12_isThere at hP
    have f0 : (0 : Int32) + nI k = nI k := by rw [← nI_0, nI_add, Nat.zero_add]
    have h0 : vp_in (nI k) 83 := vp_in_nI (by omega) (by omega)
    refine hP _ _ _ ?_
    grind [bs]
theorem m_onOne {r : Nat} {p : Int32} {Q : Int32 → ac_m → Prop} {s : ac_m}  (h : Q (bs (fun k => decide (0 < s r k ∧ s r (26 + k) = p)) 13) s) : w_X12_onOne r p Q s := by
  unfold w_X12_onOne l_X12_onOne_4
  intro P hP
  refine loopUp (P := fun k => P (bs (fun k => decide (0 < s r k ∧ s r (26 + k) = p)) k) (nI k) s) 13 ?_ ?_
  · exact hP _ _ _ ⟨fun _ => h, fun hc => absurd (by decide) hc⟩
  · intro k hk ih
    have e1 := cl_nI (n := k) (by omega)
    have e4 := nI_1 k
    have e3 : nI k < 13 := nI_lt (b := 13) hk (by omega)
    have e9 : ∀ x : Int32, x ||| 0 = x := fun x => Int32.or_zero
    unfold w_X12_isThere at hP
    have f0 : (0 : Int32) + nI k = nI k := by rw [← nI_0, nI_add, Nat.zero_add]
    have h0 : vp_in (nI k) 83 := vp_in_nI (by omega) (by omega)
    have f26 : (26 : Int32) + nI k = nI (26 + k) := nI_add 26 k
    have g26 := cl_nI (n := 26 + k) (by omega)
    have h26 : vp_in (nI (26 + k)) 83 := vp_in_nI (by omega) (by omega)
    refine hP _ _ _ ?_
    grind [bs]
theorem m_grassIn {r F : Nat} {Q : Int32 → ac_m → Prop} {s : ac_m} (hF : s 73 0 = nI F) (hf : F ≤ 6) (h : Q (sm (fun k => s r (39 + k)) F) s) : w_X12_grassIn r Q s := by
  unfold w_X12_grassIn l_X12_grassIn_4
  intro P hP
  refine loopUp (P := fun k => P (sm (fun k => s r (39 + k)) k) (nI k) s) F ?_ ?_
  · exact hP _ _ _ ⟨fun _ => h, fun hc => absurd (by rw [show (s 73 (0 : Int32).toNatClampNeg) = nI F from hF]; exact Int32.le_refl _) hc⟩
  · intro k hk ih
    have e1 := cl_nI (n := k) (by omega)
    have e4 := nI_1 k
    have e3 : nI k < nI F := nI_lt hk (by omega)
    have f39 : (39 : Int32) + nI k = nI (39 + k) := nI_add 39 k
    have g39 := cl_nI (n := 39 + k) (by omega)
    have h39 : vp_in (nI (39 + k)) 83 := vp_in_nI (by omega) (by omega)
    refine hP _ _ _ ?_
    grind [sm]
theorem m_weightIn {r : Nat} {Q : Int32 → ac_m → Prop} {s : ac_m}  (h : Q (sm (fun k => s r k) 13) s) : w_X12_weightIn r Q s := by
  unfold w_X12_weightIn l_X12_weightIn_4
  intro P hP
  refine loopUp (P := fun k => P (sm (fun k => s r k) k) (nI k) s) 13 ?_ ?_
  · exact hP _ _ _ ⟨fun _ => h, fun hc => absurd (by decide) hc⟩
  · intro k hk ih
    have e1 := cl_nI (n := k) (by omega)
    have e4 := nI_1 k
    have e3 : nI k < 13 := nI_lt (b := 13) hk (by omega)
    have f0 : (0 : Int32) + nI k = nI k := by rw [← nI_0, nI_add, Nat.zero_add]
    have h0 : vp_in (nI k) 83 := vp_in_nI (by omega) (by omega)
    refine hP _ _ _ ?_
    grind [sm]
theorem m_heavy {B : Nat} {p : Int32} {Q : Int32 → ac_m → Prop} {s : ac_m} (hB : s 73 1 = nI B) (hb : B ≤ 12) (h : Q (sm (fun k => if bt p k = true then s 556 k else 0) B) s) : w_X12_heavy p Q s := by
  unfold w_X12_heavy l_X12_heavy_4
  intro P hP
  refine loopUp (P := fun k => P (sm (fun k => if bt p k = true then s 556 k else 0) k) (nI k) s) B ?_ ?_
  · exact hP _ _ _ ⟨fun _ => h, fun hc => absurd (by rw [show (s 73 (1 : Int32).toNatClampNeg) = nI B from hB]; exact Int32.le_refl _) hc⟩
  · intro k hk ih
    have e1 := cl_nI (n := k) (by omega)
    have e4 := nI_1 k
    have e3 : nI k < nI B := nI_lt hk (by omega)
    have e5 := shr_bit (x := p) (j := k) (by omega)
    unfold w_X12_has at hP
    have f0 : (0 : Int32) + nI k = nI k := by rw [← nI_0, nI_add, Nat.zero_add]
    have h0 : vp_in (nI k) 83 := vp_in_nI (by omega) (by omega)
    refine hP _ _ _ ?_
    grind [sm]
theorem m_side {B : Nat} {p q : Int32} {Q : Int32 → ac_m → Prop} {s : ac_m} (hB : s 73 1 = nI B) (hb : B ≤ 12) (hq : vp_in q 4) (h : Q (bs (fun k => decide (0 < s 556 k ∧ s (102 + k) q.toNatClampNeg = p)) B) s) : w_X12_sideOf p q Q s := by
  unfold w_X12_sideOf l_X12_sideOf_5
  intro P hP
  refine loopUp (P := fun k => P (bs (fun k => decide (0 < s 556 k ∧ s (102 + k) q.toNatClampNeg = p)) k) (nI k) s) B ?_ ?_
  · exact hP _ _ _ ⟨fun _ => h, fun hc => absurd (by rw [show (s 73 (1 : Int32).toNatClampNeg) = nI B from hB]; exact Int32.le_refl _) hc⟩
  · intro k hk ih
    have e1 := cl_nI (n := k) (by omega)
    have e4 := nI_1 k
    have e3 : nI k < nI B := nI_lt hk (by omega)
    have e9 : ∀ x : Int32, x ||| 0 = x := fun x => Int32.or_zero
    have e2 : vp_in (nI k) 13 := vp_in_nI (by omega) (by omega)
    unfold w_X12_isThere at hP
    have f0 : (0 : Int32) + nI k = nI k := by rw [← nI_0, nI_add, Nat.zero_add]
    have h0 : vp_in (nI k) 83 := vp_in_nI (by omega) (by omega)
    refine hP _ _ _ ?_
    grind [bs]
theorem m_ones {p : Int32} {Q : Int32 → ac_m → Prop} {s : ac_m}  (h : Q (sm (fun k => if bt p k = true then 1 else 0) 13) s) : w_X12_ones p Q s := by
  unfold w_X12_ones l_X12_ones_4
  intro P hP
  refine loopUp (P := fun k => P (sm (fun k => if bt p k = true then 1 else 0) k) (nI k) s) 13 ?_ ?_
  · exact hP _ _ _ ⟨fun _ => h, fun hc => absurd (by decide) hc⟩
  · intro k hk ih
    have e1 := cl_nI (n := k) (by omega)
    have e4 := nI_1 k
    have e3 : nI k < 13 := nI_lt (b := 13) hk (by omega)
    have e5 := shr_bit1 (x := p) (j := k) (by omega)
    refine hP _ _ _ ?_
    grind [sm]
