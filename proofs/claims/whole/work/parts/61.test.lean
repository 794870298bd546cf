theorem s_thereBits {a : Nat} {Q : Int32 → ac_m → Prop} {s : ac_m} (h : Q (bs (fun b => decide (0 < s (a + 2) b)) 12) s) : w_X5_thereBits a Q s := by
  intro P hP
  refine loopUp (P := fun k => P (bs (fun b => decide (0 < s (a + 2) b)) k) (nI k) s) 12 ?_ ?_
  · exact hP _ _ _ ⟨fun _ => h, fun hc => absurd (by decide) hc⟩
  · intro k hk ih
    have e1 := cl_nI (n := k) (by omega)
    have e2 : vp_in (nI k) 13 := vp_in_nI (by omega) (by omega)
    have e3 : nI k < 12 := nI_lt (b := 12) hk (by omega)
    have e4 := nI_1 k
    refine hP _ _ _ ?_
    grind [bs]
theorem s_thereBits2 {a : Nat} {Q : Int32 → ac_m → Prop} {s : ac_m} (h : Q (bs (fun b => decide (0 < s (a + 2) b)) 12) s) : w_X5_thereBits a Q s := by
  intro P hP
  refine loopUp (P := fun k => P (bs (fun b => decide (0 < s (a + 2) b)) k) (nI k) s) 12 ?_ ?_
  · exact hP _ _ _ ⟨fun _ => h, fun hc => absurd (by decide) hc⟩
  · intro k hk ih
    refine hP _ _ _ ⟨fun hc => absurd hc (nI_ge (b := 12) hk (by omega)), fun _ => ⟨vp_in_nI (by omega) (by omega), fun h1 => ?_, fun h1 => ?_⟩⟩
    · rw [nI_1]
      simpa [bs, cl_nI, show k < 2147483648 by omega, h1] using ih
    · rw [nI_1]
      grind [bs, cl_nI]
