theorem ol_X12_goes_43 {g : ac_G} {τ : Nat → Nat → Int64} (d : Nat) (p1 : Int32) (p2 : Int32) {Rg : Int32 → Int32 → (ac_m → Prop) → ac_m → Prop} (hRg : ∀ (e : Nat) (p1 : Int32) (p2 : Int32) (Q : ac_m → Prop) (s : ac_m), Rg p1 p2 Q s → ac_M g i_X12_goes (d + e) 0 0 [.ref 69, .int p1, .int p2] (false, 586, SH, s, τ) (liV τ Q)) {Q : ac_m → Prop} {K87 : ac_m → Prop} (f2 : Int32) (f3 : Int32)  {x4 : Int32} {s : ac_m} (hK87 : ∀  (s : ac_m), K87  s → ac_X g i_X12_goes (d + 7) 0 0 (liV τ Q) 0 0 87 [some (.ref 69), none, some (.int f2), some (.int f3), none] [] (false, 586, SH, s, τ)) (H : l_X12_goes_43 p1 p2 Q Rg K87 f2 f3  x4 s) : ac_X g i_X12_goes (d + 7) 0 0 (liV τ Q) 0 0 43 [some (.ref 69), none, some (.int f2), some (.int f3), some (.int x4)] [] (false, 586, SH, s, τ) := by
  refine H (fun x4 s => ac_X g i_X12_goes (d + 7) 0 0 (liV τ Q) 0 0 43 [some (.ref 69), none, some (.int f2), some (.int f3), some (.int x4)] [] (false, 586, SH, s, τ)) ?_
  intro x4 s H
  refine ax_iload (pc' := 45) dX12_goes_43 rfl rfl ?_
  refine ax_aload_n (pc' := 46) dX12_goes_45 rfl rfl ?_
  refine ax_getR (pc' := 49) dX12_goes_46 fl_X12_64 sh_69 rfl rfl rfl ?_
  refine ax_iload_n (pc' := 50) dX12_goes_49 rfl rfl ?_
  obtain ⟨hj50, H⟩ := H
  refine ax_aald (pc' := 51) dX12_goes_50 sh_475 hj50 rfl rfl ?_
  refine ax_iconst (pc' := 52) (v := (1 : Int32)) dX12_goes_51 (by decide) rfl ?_
  refine ax_iald (pc' := 53) dX12_goes_52 (sh_r_476 _ (ac_lt hj50)) (ac_in (by decide)) (sh_n_476 _ (ac_lt hj50)) rfl ?_
  refine ax_icmp_ge (pc' := 56) (tgt := 87) dX12_goes_53 (by decide) rfl (fun hc53 => ?_) (fun hc53 => ?_)
  · have H := H.1 hc53
    refine ax_drop 4 rfl ?_
    exact hK87 _ H
  · have H := H.2 hc53
    refine ax_aload_n (pc' := 57) dX12_goes_56 rfl rfl ?_
    refine ax_getI (pc' := 60) dX12_goes_57 fl_X12_318 sh_69 rfl rfl rfl ?_
    refine ax_sipush (pc' := 63) (v := (200 : Int32)) dX12_goes_60 (by decide) rfl ?_
    refine ax_icmp_ge (pc' := 66) (tgt := 87) dX12_goes_63 (by decide) rfl (fun hc63 => ?_) (fun hc63 => ?_)
    · have H := H.1 hc63
      refine ax_drop 4 rfl ?_
      exact hK87 _ H
    · have H := H.2 hc63
      refine ax_aload_n (pc' := 67) dX12_goes_66 rfl rfl ?_
      refine ax_iload_n (pc' := 68) dX12_goes_67 rfl rfl ?_
      refine ax_iconst (pc' := 69) (v := (1 : Int32)) dX12_goes_68 (by decide) rfl ?_
      refine ax_iadd (pc' := 70) dX12_goes_69 rfl ?_
      refine ax_aload_n (pc' := 71) dX12_goes_70 rfl rfl ?_
      refine ax_getR (pc' := 74) dX12_goes_71 fl_X12_64 sh_69 rfl rfl rfl ?_
      refine ax_iload_n (pc' := 75) dX12_goes_74 rfl rfl ?_
      obtain ⟨hj75, H⟩ := H
      refine ax_aald (pc' := 76) dX12_goes_75 sh_475 hj75 rfl rfl ?_
      refine ax_iconst (pc' := 77) (v := (3 : Int32)) dX12_goes_76 (by decide) rfl ?_
      refine ax_iald (pc' := 78) dX12_goes_77 (sh_r_476 _ (ac_lt hj75)) (ac_in (by decide)) (sh_n_476 _ (ac_lt hj75)) rfl ?_
      refine ay_V2 (pc' := 81) (ce' := 0) (sl' := 0) (mc2 := 0) (ms2 := 0) (I2 := i_X12_goes) dX12_goes_78 ml_X12_321 sh_69 (by decide) rfl rfl rfl rfl rfl rfl rfl rfl rfl (ac_M.imp (hRg _ (f3 + (1 : Int32)) (s (476 + f3.toNatClampNeg) (3 : Int32).toNatClampNeg) _ _ H) ?_)
      rintro _ _ ⟨s78, rfl, rfl, H⟩
      refine ax_iinc (pc' := 84) (v := (x4 + (1 : Int32))) dX12_goes_81 rfl rfl rfl rfl rfl ?_
      refine ax_goto (tgt := 43) dX12_goes_84 (by decide) ?_
      exact H
theorem ol_X12_goes_2 {g : ac_G} {τ : Nat → Nat → Int64} (d : Nat) (p1 : Int32) (p2 : Int32) {Rg : Int32 → Int32 → (ac_m → Prop) → ac_m → Prop} (hRg : ∀ (e : Nat) (p1 : Int32) (p2 : Int32) (Q : ac_m → Prop) (s : ac_m), Rg p1 p2 Q s → ac_M g i_X12_goes (d + e) 0 0 [.ref 69, .int p1, .int p2] (false, 586, SH, s, τ) (liV τ Q)) {Q : ac_m → Prop}  (f2 : Int32)  {x3 : Int32} {s : ac_m} (H : l_X12_goes_2 p1 p2 Q Rg  f2  x3 s) : ac_X g i_X12_goes (d + 7) 0 0 (liV τ Q) 0 0 2 [some (.ref 69), none, some (.int f2), some (.int x3), none] [] (false, 586, SH, s, τ) := by
  refine H (fun x3 s => ac_X g i_X12_goes (d + 7) 0 0 (liV τ Q) 0 0 2 [some (.ref 69), none, some (.int f2), some (.int x3), none] [] (false, 586, SH, s, τ)) ?_
  intro x3 s H
  refine ax_iload_n (pc' := 3) dX12_goes_2 rfl rfl ?_
  refine ax_iload_n (pc' := 4) dX12_goes_3 rfl rfl ?_
  refine ax_icmp_ge (pc' := 7) (tgt := 156) dX12_goes_4 (by decide) rfl (fun hc4 => ?_) (fun hc4 => ?_)
  · have H := H.1 hc4
    exact ax_vret dX12_goes_156 rfl rfl rfl ⟨_, rfl, rfl, H⟩
  · have H := H.2 hc4
    refine ax_aload_n (pc' := 8) dX12_goes_7 rfl rfl ?_
    refine ax_getI (pc' := 11) dX12_goes_8 fl_X12_318 sh_69 rfl rfl rfl ?_
    refine ax_sipush (pc' := 14) (v := (200 : Int32)) dX12_goes_11 (by decide) rfl ?_
    refine ax_icmp_ge (pc' := 17) (tgt := 156) dX12_goes_14 (by decide) rfl (fun hc14 => ?_) (fun hc14 => ?_)
    · have H := H.1 hc14
      exact ax_vret dX12_goes_156 rfl rfl rfl ⟨_, rfl, rfl, H⟩
    · have H := H.2 hc14
      refine ax_aload_n (pc' := 18) dX12_goes_17 rfl rfl ?_
      refine ax_dup (pc' := 19) dX12_goes_18 rfl rfl ?_
      refine ax_getI (pc' := 22) dX12_goes_19 fl_X12_318 sh_69 rfl rfl rfl ?_
      refine ax_iconst (pc' := 23) (v := (1 : Int32)) dX12_goes_22 (by decide) rfl ?_
      refine ax_iadd (pc' := 24) dX12_goes_23 rfl ?_
      refine ax_putI (pc' := 27) dX12_goes_24 fp_X12_318 sh_69 rfl rfl rfl ?_
      refine ax_aload_n (pc' := 28) dX12_goes_27 rfl rfl ?_
      refine ax_getR (pc' := 31) dX12_goes_28 fl_X12_64 sh_69 rfl rfl rfl ?_
      refine ax_iload_n (pc' := 32) dX12_goes_31 rfl rfl ?_
      obtain ⟨hj32, H⟩ := H
      refine ax_aald (pc' := 33) dX12_goes_32 sh_475 hj32 rfl rfl ?_
      refine ax_iconst (pc' := 34) (v := (0 : Int32)) dX12_goes_33 (by decide) rfl ?_
      refine ax_iald (pc' := 35) dX12_goes_34 (sh_r_476 _ (ac_lt hj32)) (ac_in (by decide)) (sh_n_476 _ (ac_lt hj32)) rfl ?_
      refine ax_bipush (pc' := 37) (v := (6 : Int32)) dX12_goes_35 (by decide) rfl ?_
      refine ax_icmp_ne (pc' := 40) (tgt := 90) dX12_goes_37 (by decide) rfl (fun hc37 => ?_) (fun hc37 => ?_)
      · have H := H.1 hc37
        refine ax_aload_n (pc' := 91) dX12_goes_90 rfl rfl ?_
        refine ax_aload_n (pc' := 92) dX12_goes_91 rfl rfl ?_
        refine ax_getR (pc' := 95) dX12_goes_92 fl_X12_67 sh_69 rfl rfl rfl ?_
        refine ax_aload_n (pc' := 96) dX12_goes_95 rfl rfl ?_
        refine ax_getR (pc' := 99) dX12_goes_96 fl_X12_64 sh_69 rfl rfl rfl ?_
        refine ax_iload_n (pc' := 100) dX12_goes_99 rfl rfl ?_
        obtain ⟨hj100, H⟩ := H
        refine ax_aald (pc' := 101) dX12_goes_100 sh_475 hj100 rfl rfl ?_
        refine ay_V2 (pc' := 104) (ce' := 0) (sl' := 0) (mc2 := 0) (ms2 := 0) (I2 := i_X12_does) dX12_goes_101 ml_X12_324 sh_69 (by decide) rfl rfl rfl rfl rfl rfl rfl rfl rfl (ac_M.imp (o_X12_does _ 556 (476 + x3.toNatClampNeg) sh_556 rfl (sh_r_476 _ (ac_lt hj100)) (sh_n_476 _ (ac_lt hj100)) H) ?_)
        rintro _ _ ⟨r101, s101, rfl, rfl, H⟩
        refine ax_istore (pc' := 106) dX12_goes_104 rfl rfl rfl ?_
        refine ax_aload_n (pc' := 107) dX12_goes_106 rfl rfl ?_
        refine ax_dup (pc' := 108) dX12_goes_107 rfl rfl ?_
        refine ax_getI (pc' := 111) dX12_goes_108 fl_X12_328 sh_69 rfl rfl rfl ?_
        refine ax_iload (pc' := 113) dX12_goes_111 rfl rfl ?_
        refine ax_if_eq (pc' := 116) (tgt := 120) dX12_goes_113 (by decide) rfl (fun hc113 => ?_) (fun hc113 => ?_)
        · have H := H.1 hc113
          refine ax_iconst (pc' := 121) (v := (0 : Int32)) dX12_goes_120 (by decide) rfl ?_
          refine ax_iadd (pc' := 122) dX12_goes_121 rfl ?_
          refine ax_putI (pc' := 125) dX12_goes_122 fp_X12_328 sh_69 rfl rfl rfl ?_
          refine ax_aload_n (pc' := 126) dX12_goes_125 rfl rfl ?_
          refine ax_dup (pc' := 127) dX12_goes_126 rfl rfl ?_
          refine ax_getI (pc' := 130) dX12_goes_127 fl_X12_213 sh_69 rfl rfl rfl ?_
          refine ax_iload (pc' := 132) dX12_goes_130 rfl rfl ?_
          refine ax_if_eq (pc' := 135) (tgt := 139) dX12_goes_132 (by decide) rfl (fun hc132 => ?_) (fun hc132 => ?_)
          · have H := H.1 hc132
            refine ax_iconst (pc' := 140) (v := (1 : Int32)) dX12_goes_139 (by decide) rfl ?_
            refine ax_iadd (pc' := 141) dX12_goes_140 rfl ?_
            refine ax_putI (pc' := 144) dX12_goes_141 fp_X12_213 sh_69 rfl rfl rfl ?_
            refine ax_aload_n (pc' := 145) dX12_goes_144 rfl rfl ?_
            refine ax_getR (pc' := 148) dX12_goes_145 fl_X12_64 sh_69 rfl rfl rfl ?_
            refine ax_iload_n (pc' := 149) dX12_goes_148 rfl rfl ?_
            obtain ⟨hj149, H⟩ := H
            refine ax_aald (pc' := 150) dX12_goes_149 sh_475 hj149 rfl rfl ?_
            refine ax_iconst (pc' := 151) (v := (3 : Int32)) dX12_goes_150 (by decide) rfl ?_
            refine ax_iald (pc' := 152) dX12_goes_151 (sh_r_476 _ (ac_lt hj149)) (ac_in (by decide)) (sh_n_476 _ (ac_lt hj149)) rfl ?_
            refine ax_topi (fun y152 hy152 => ?_)
            have H := H y152 hy152
            refine ax_istore_n (pc' := 153) dX12_goes_152 rfl rfl rfl ?_
            refine ax_goto (tgt := 2) dX12_goes_153 (by decide) ?_
            refine ax_drop 4 rfl ?_
            exact H
          · have H := H.2 hc132
            refine ax_iconst (pc' := 136) (v := (0 : Int32)) dX12_goes_135 (by decide) rfl ?_
            refine ax_goto (tgt := 140) dX12_goes_136 (by decide) ?_
            refine ax_iadd (pc' := 141) dX12_goes_140 rfl ?_
            refine ax_putI (pc' := 144) dX12_goes_141 fp_X12_213 sh_69 rfl rfl rfl ?_
            refine ax_aload_n (pc' := 145) dX12_goes_144 rfl rfl ?_
            refine ax_getR (pc' := 148) dX12_goes_145 fl_X12_64 sh_69 rfl rfl rfl ?_
            refine ax_iload_n (pc' := 149) dX12_goes_148 rfl rfl ?_
            obtain ⟨hj149, H⟩ := H
            refine ax_aald (pc' := 150) dX12_goes_149 sh_475 hj149 rfl rfl ?_
            refine ax_iconst (pc' := 151) (v := (3 : Int32)) dX12_goes_150 (by decide) rfl ?_
            refine ax_iald (pc' := 152) dX12_goes_151 (sh_r_476 _ (ac_lt hj149)) (ac_in (by decide)) (sh_n_476 _ (ac_lt hj149)) rfl ?_
            refine ax_topi (fun y152 hy152 => ?_)
            have H := H y152 hy152
            refine ax_istore_n (pc' := 153) dX12_goes_152 rfl rfl rfl ?_
            refine ax_goto (tgt := 2) dX12_goes_153 (by decide) ?_
            refine ax_drop 4 rfl ?_
            exact H
        · have H := H.2 hc113
          refine ax_iconst (pc' := 117) (v := (1 : Int32)) dX12_goes_116 (by decide) rfl ?_
          refine ax_goto (tgt := 121) dX12_goes_117 (by decide) ?_
          refine ax_iadd (pc' := 122) dX12_goes_121 rfl ?_
          refine ax_putI (pc' := 125) dX12_goes_122 fp_X12_328 sh_69 rfl rfl rfl ?_
          refine ax_aload_n (pc' := 126) dX12_goes_125 rfl rfl ?_
          refine ax_dup (pc' := 127) dX12_goes_126 rfl rfl ?_
          refine ax_getI (pc' := 130) dX12_goes_127 fl_X12_213 sh_69 rfl rfl rfl ?_
          refine ax_iload (pc' := 132) dX12_goes_130 rfl rfl ?_
          refine ax_if_eq (pc' := 135) (tgt := 139) dX12_goes_132 (by decide) rfl (fun hc132 => ?_) (fun hc132 => ?_)
          · have H := H.1 hc132
            refine ax_iconst (pc' := 140) (v := (1 : Int32)) dX12_goes_139 (by decide) rfl ?_
            refine ax_iadd (pc' := 141) dX12_goes_140 rfl ?_
            refine ax_putI (pc' := 144) dX12_goes_141 fp_X12_213 sh_69 rfl rfl rfl ?_
            refine ax_aload_n (pc' := 145) dX12_goes_144 rfl rfl ?_
            refine ax_getR (pc' := 148) dX12_goes_145 fl_X12_64 sh_69 rfl rfl rfl ?_
            refine ax_iload_n (pc' := 149) dX12_goes_148 rfl rfl ?_
            obtain ⟨hj149, H⟩ := H
            refine ax_aald (pc' := 150) dX12_goes_149 sh_475 hj149 rfl rfl ?_
            refine ax_iconst (pc' := 151) (v := (3 : Int32)) dX12_goes_150 (by decide) rfl ?_
            refine ax_iald (pc' := 152) dX12_goes_151 (sh_r_476 _ (ac_lt hj149)) (ac_in (by decide)) (sh_n_476 _ (ac_lt hj149)) rfl ?_
            refine ax_topi (fun y152 hy152 => ?_)
            have H := H y152 hy152
            refine ax_istore_n (pc' := 153) dX12_goes_152 rfl rfl rfl ?_
            refine ax_goto (tgt := 2) dX12_goes_153 (by decide) ?_
            refine ax_drop 4 rfl ?_
            exact H
          · have H := H.2 hc132
            refine ax_iconst (pc' := 136) (v := (0 : Int32)) dX12_goes_135 (by decide) rfl ?_
            refine ax_goto (tgt := 140) dX12_goes_136 (by decide) ?_
            refine ax_iadd (pc' := 141) dX12_goes_140 rfl ?_
            refine ax_putI (pc' := 144) dX12_goes_141 fp_X12_213 sh_69 rfl rfl rfl ?_
            refine ax_aload_n (pc' := 145) dX12_goes_144 rfl rfl ?_
            refine ax_getR (pc' := 148) dX12_goes_145 fl_X12_64 sh_69 rfl rfl rfl ?_
            refine ax_iload_n (pc' := 149) dX12_goes_148 rfl rfl ?_
            obtain ⟨hj149, H⟩ := H
            refine ax_aald (pc' := 150) dX12_goes_149 sh_475 hj149 rfl rfl ?_
            refine ax_iconst (pc' := 151) (v := (3 : Int32)) dX12_goes_150 (by decide) rfl ?_
            refine ax_iald (pc' := 152) dX12_goes_151 (sh_r_476 _ (ac_lt hj149)) (ac_in (by decide)) (sh_n_476 _ (ac_lt hj149)) rfl ?_
            refine ax_topi (fun y152 hy152 => ?_)
            have H := H y152 hy152
            refine ax_istore_n (pc' := 153) dX12_goes_152 rfl rfl rfl ?_
            refine ax_goto (tgt := 2) dX12_goes_153 (by decide) ?_
            refine ax_drop 4 rfl ?_
            exact H
      · have H := H.2 hc37
        refine ax_iconst (pc' := 41) (v := (0 : Int32)) dX12_goes_40 (by decide) rfl ?_
        refine ax_istore (pc' := 43) dX12_goes_41 rfl rfl rfl ?_
        refine ol_X12_goes_43 d p1 p2 hRg _ _   ?_ H
        · intro  sk43 H
          refine ax_goto (tgt := 144) dX12_goes_87 (by decide) ?_
          refine ax_aload_n (pc' := 145) dX12_goes_144 rfl rfl ?_
          refine ax_getR (pc' := 148) dX12_goes_145 fl_X12_64 sh_69 rfl rfl rfl ?_
          refine ax_iload_n (pc' := 149) dX12_goes_148 rfl rfl ?_
          obtain ⟨hj149, H⟩ := H
          refine ax_aald (pc' := 150) dX12_goes_149 sh_475 hj149 rfl rfl ?_
          refine ax_iconst (pc' := 151) (v := (3 : Int32)) dX12_goes_150 (by decide) rfl ?_
          refine ax_iald (pc' := 152) dX12_goes_151 (sh_r_476 _ (ac_lt hj149)) (ac_in (by decide)) (sh_n_476 _ (ac_lt hj149)) rfl ?_
          refine ax_istore_n (pc' := 153) dX12_goes_152 rfl rfl rfl ?_
          refine ax_goto (tgt := 2) dX12_goes_153 (by decide) ?_
          exact H
theorem o_X12_goes {g : ac_G} {τ : Nat → Nat → Int64} (d : Nat) (p1 : Int32) (p2 : Int32) {Rg : Int32 → Int32 → (ac_m → Prop) → ac_m → Prop} (hRg : ∀ (e : Nat) (p1 : Int32) (p2 : Int32) (Q : ac_m → Prop) (s : ac_m), Rg p1 p2 Q s → ac_M g i_X12_goes (d + e) 0 0 [.ref 69, .int p1, .int p2] (false, 586, SH, s, τ) (liV τ Q)) {Q : ac_m → Prop} {s : ac_m} (H : w_X12_goes p1 p2 Q Rg s) : ac_M g i_X12_goes (d + 7) 0 0 [.ref 69, .int p1, .int p2] (false, 586, SH, s, τ) (liV τ Q) := by
  refine ac_ofX (by decide +kernel) rfl rfl rfl ?_
  refine ax_iload_n (pc' := 1) dX12_goes_0 rfl rfl ?_
  refine ax_istore_n (pc' := 2) dX12_goes_1 rfl rfl rfl ?_
  refine ax_drop 1 rfl ?_
  refine ol_X12_goes_2 d p1 p2 hRg _    H
theorem tok_X12_goes {g : ac_G} {τ : Nat → Nat → Int64} : ∀ (k d e : Nat) (p1 : Int32) (p2 : Int32) (Q : ac_m → Prop) (s : ac_m), tk_X12_goes k p1 p2 Q s → ac_M g i_X12_goes (d + k * 7 + e) 0 0 [.ref 69, .int p1, .int p2] (false, 586, SH, s, τ) (liV τ Q)
  | 0, d, e, p1, p2, Q, s, H => H.elim
  | k + 1, d, e, p1, p2, Q, s, H => by
    have h := o_X12_goes (g := g) (τ := τ) (d + k * 7 + e) p1 p2 (fun e' p1 p2 Q s H' => by
      have h2 := tok_X12_goes (g := g) (τ := τ) k d (e + e') p1 p2 Q s H'
      rwa [show d + k * 7 + (e + e') = d + k * 7 + e + e' by omega] at h2) H
    rwa [show d + k * 7 + e + 7 = d + (k + 1) * 7 + e by omega] at h
theorem to_X12_goes {g : ac_G} {τ : Nat → Nat → Int64} (d : Nat) (p1 : Int32) (p2 : Int32) {Q : ac_m → Prop} {s : ac_m} (H : t_X12_goes p1 p2 Q s) : ac_M g i_X12_goes (d + 56) 0 0 [.ref 69, .int p1, .int p2] (false, 586, SH, s, τ) (liV τ Q) := tok_X12_goes 8 d 0 p1 p2 Q s H
theorem ol_X12_work_72 {g : ac_G} {τ : Nat → Nat → Int64} (d : Nat) (p1 : Int32) {Q : Int32 → ac_m → Prop}     {s : ac_m} (H : l_X12_work_72 p1 Q     s) : ac_X g i_X12_work (d + 57) 0 0 (liI τ Q) 0 0 72 [some (.ref 69), none] [] (false, 586, SH, s, τ) := by
  refine H (fun  s => ac_X g i_X12_work (d + 57) 0 0 (liI τ Q) 0 0 72 [some (.ref 69), none] [] (false, 586, SH, s, τ)) ?_
  intro  s H
  refine ax_aload_n (pc' := 73) dX12_work_72 rfl rfl ?_
  refine ax_getI (pc' := 76) dX12_work_73 fl_X12_120 sh_69 rfl rfl rfl ?_
  refine ax_if_ne (pc' := 79) (tgt := 101) dX12_work_76 (by decide) rfl (fun hc76 => ?_) (fun hc76 => ?_)
  · have H := H.1 hc76
    refine ax_aload_n (pc' := 102) dX12_work_101 rfl rfl ?_
    refine ax_getI (pc' := 105) dX12_work_102 fl_X12_120 sh_69 rfl rfl rfl ?_
    refine ax_if_eq (pc' := 108) (tgt := 113) dX12_work_105 (by decide) rfl (fun hc105 => ?_) (fun hc105 => ?_)
    · have H := H.1 hc105
      refine ax_aload_n (pc' := 114) dX12_work_113 rfl rfl ?_
      refine ax_iconst (pc' := 115) (v := (-1 : Int32)) dX12_work_114 (by decide) rfl ?_
      refine ax_putI (pc' := 118) dX12_work_115 fp_X12_9 sh_69 rfl rfl rfl ?_
      refine ax_aload_n (pc' := 119) dX12_work_118 rfl rfl ?_
      refine ax_getR (pc' := 122) dX12_work_119 fl_X12_67 sh_69 rfl rfl rfl ?_
      refine ax_aload_n (pc' := 123) dX12_work_122 rfl rfl ?_
      refine ax_getR (pc' := 126) dX12_work_123 fl_X12_76 sh_69 rfl rfl rfl ?_
      refine ax_aload_n (pc' := 127) dX12_work_126 rfl rfl ?_
      refine ax_getI (pc' := 130) dX12_work_127 fl_X12_210 sh_69 rfl rfl rfl ?_
      obtain ⟨hj130, H⟩ := H
      refine ax_aald (pc' := 131) dX12_work_130 sh_559 hj130 rfl rfl ?_
      refine ay_S2 (pc' := 134) (ce' := 0) (sl' := 0) (mc2 := 0) (ms2 := 0) (I2 := i_X12_copies) dX12_work_131 ml_X12_331 rfl rfl rfl rfl rfl rfl rfl rfl (ac_M.imp (o_X12_copies _ 556 (560 + ((ac_u s 69 3 (-1 : Int32)) 69 35).toNatClampNeg) sh_556 rfl (sh_r_560 _ (ac_lt hj130)) (sh_n_560 _ (ac_lt hj130)) H) ?_)
      rintro _ _ ⟨s131, rfl, rfl, H⟩
      refine ax_aload_n (pc' := 135) dX12_work_134 rfl rfl ?_
      refine ax_dup (pc' := 136) dX12_work_135 rfl rfl ?_
      refine ax_getI (pc' := 139) dX12_work_136 fl_X12_210 sh_69 rfl rfl rfl ?_
      refine ax_iconst (pc' := 140) (v := (1 : Int32)) dX12_work_139 (by decide) rfl ?_
      refine ax_iadd (pc' := 141) dX12_work_140 rfl ?_
      refine ax_putI (pc' := 144) dX12_work_141 fp_X12_210 sh_69 rfl rfl rfl ?_
      refine ax_aload_n (pc' := 145) dX12_work_144 rfl rfl ?_
      refine ax_iconst (pc' := 146) (v := (0 : Int32)) dX12_work_145 (by decide) rfl ?_
      refine ax_putI (pc' := 149) dX12_work_146 fp_X12_318 sh_69 rfl rfl rfl ?_
      refine ax_aload_n (pc' := 150) dX12_work_149 rfl rfl ?_
      refine ax_iconst (pc' := 151) (v := (0 : Int32)) dX12_work_150 (by decide) rfl ?_
      refine ax_putI (pc' := 154) dX12_work_151 fp_X12_328 sh_69 rfl rfl rfl ?_
      refine ax_aload_n (pc' := 155) dX12_work_154 rfl rfl ?_
      refine ax_iconst (pc' := 156) (v := (0 : Int32)) dX12_work_155 (by decide) rfl ?_
      refine ax_putI (pc' := 159) dX12_work_156 fp_X12_213 sh_69 rfl rfl rfl ?_
      refine ax_aload_n (pc' := 160) dX12_work_159 rfl rfl ?_
      refine ax_iconst (pc' := 161) (v := (0 : Int32)) dX12_work_160 (by decide) rfl ?_
      refine ax_aload_n (pc' := 162) dX12_work_161 rfl rfl ?_
      refine ax_getI (pc' := 165) dX12_work_162 fl_X12_260 sh_69 rfl rfl rfl ?_
      refine ay_V2 (pc' := 168) (ce' := 0) (sl' := 0) (mc2 := 0) (ms2 := 0) (I2 := i_X12_goes) dX12_work_165 ml_X12_321 sh_69 (by decide) rfl rfl rfl rfl rfl rfl rfl rfl rfl (ac_M.imp (to_X12_goes _ (0 : Int32) ((ac_u (ac_u (ac_u (ac_u s131 69 35 ((s131 69 35) + (1 : Int32))) 69 39 (0 : Int32)) 69 40 (0 : Int32)) 69 36 (0 : Int32)) 69 28) H) ?_)
      rintro _ _ ⟨s165, rfl, rfl, H⟩
      refine ax_aload_n (pc' := 169) dX12_work_168 rfl rfl ?_
      refine ax_getI (pc' := 172) dX12_work_169 fl_X12_328 sh_69 rfl rfl rfl ?_
      exact ax_iret dX12_work_172 rfl rfl rfl ⟨_, _, rfl, rfl, H⟩
    · have H := H.2 hc105
      refine ax_aload_n (pc' := 109) dX12_work_108 rfl rfl ?_
      refine ay_V0 (pc' := 112) (ce' := 0) (sl' := 0) (mc2 := 0) (ms2 := 0) (I2 := i_X12_ends) dX12_work_109 ml_X12_193 sh_69 (by decide) rfl rfl rfl rfl rfl rfl rfl rfl rfl (ac_M.imp (o_X12_ends _  H) ?_)
      rintro _ _ ⟨r109, s109, rfl, rfl, H⟩
      exact ax_iret dX12_work_112 rfl rfl rfl ⟨_, _, rfl, rfl, H⟩
  · have H := H.2 hc76
    refine ax_aload_n (pc' := 80) dX12_work_79 rfl rfl ?_
    refine ax_getI (pc' := 83) dX12_work_80 fl_X12_113 sh_69 rfl rfl rfl ?_
    refine ax_aload_n (pc' := 84) dX12_work_83 rfl rfl ?_
    refine ax_getI (pc' := 87) dX12_work_84 fl_X12_110 sh_69 rfl rfl rfl ?_
    refine ax_icmp_ge (pc' := 90) (tgt := 101) dX12_work_87 (by decide) rfl (fun hc87 => ?_) (fun hc87 => ?_)
    · have H := H.1 hc87
      refine ax_aload_n (pc' := 102) dX12_work_101 rfl rfl ?_
      refine ax_getI (pc' := 105) dX12_work_102 fl_X12_120 sh_69 rfl rfl rfl ?_
      refine ax_if_eq (pc' := 108) (tgt := 113) dX12_work_105 (by decide) rfl (fun hc105 => ?_) (fun hc105 => ?_)
      · have H := H.1 hc105
        refine ax_aload_n (pc' := 114) dX12_work_113 rfl rfl ?_
        refine ax_iconst (pc' := 115) (v := (-1 : Int32)) dX12_work_114 (by decide) rfl ?_
        refine ax_putI (pc' := 118) dX12_work_115 fp_X12_9 sh_69 rfl rfl rfl ?_
        refine ax_aload_n (pc' := 119) dX12_work_118 rfl rfl ?_
        refine ax_getR (pc' := 122) dX12_work_119 fl_X12_67 sh_69 rfl rfl rfl ?_
        refine ax_aload_n (pc' := 123) dX12_work_122 rfl rfl ?_
        refine ax_getR (pc' := 126) dX12_work_123 fl_X12_76 sh_69 rfl rfl rfl ?_
        refine ax_aload_n (pc' := 127) dX12_work_126 rfl rfl ?_
        refine ax_getI (pc' := 130) dX12_work_127 fl_X12_210 sh_69 rfl rfl rfl ?_
        obtain ⟨hj130, H⟩ := H
        refine ax_aald (pc' := 131) dX12_work_130 sh_559 hj130 rfl rfl ?_
        refine ay_S2 (pc' := 134) (ce' := 0) (sl' := 0) (mc2 := 0) (ms2 := 0) (I2 := i_X12_copies) dX12_work_131 ml_X12_331 rfl rfl rfl rfl rfl rfl rfl rfl (ac_M.imp (o_X12_copies _ 556 (560 + ((ac_u s 69 3 (-1 : Int32)) 69 35).toNatClampNeg) sh_556 rfl (sh_r_560 _ (ac_lt hj130)) (sh_n_560 _ (ac_lt hj130)) H) ?_)
        rintro _ _ ⟨s131, rfl, rfl, H⟩
        refine ax_aload_n (pc' := 135) dX12_work_134 rfl rfl ?_
        refine ax_dup (pc' := 136) dX12_work_135 rfl rfl ?_
        refine ax_getI (pc' := 139) dX12_work_136 fl_X12_210 sh_69 rfl rfl rfl ?_
        refine ax_iconst (pc' := 140) (v := (1 : Int32)) dX12_work_139 (by decide) rfl ?_
        refine ax_iadd (pc' := 141) dX12_work_140 rfl ?_
        refine ax_putI (pc' := 144) dX12_work_141 fp_X12_210 sh_69 rfl rfl rfl ?_
        refine ax_aload_n (pc' := 145) dX12_work_144 rfl rfl ?_
        refine ax_iconst (pc' := 146) (v := (0 : Int32)) dX12_work_145 (by decide) rfl ?_
        refine ax_putI (pc' := 149) dX12_work_146 fp_X12_318 sh_69 rfl rfl rfl ?_
        refine ax_aload_n (pc' := 150) dX12_work_149 rfl rfl ?_
        refine ax_iconst (pc' := 151) (v := (0 : Int32)) dX12_work_150 (by decide) rfl ?_
        refine ax_putI (pc' := 154) dX12_work_151 fp_X12_328 sh_69 rfl rfl rfl ?_
        refine ax_aload_n (pc' := 155) dX12_work_154 rfl rfl ?_
        refine ax_iconst (pc' := 156) (v := (0 : Int32)) dX12_work_155 (by decide) rfl ?_
        refine ax_putI (pc' := 159) dX12_work_156 fp_X12_213 sh_69 rfl rfl rfl ?_
        refine ax_aload_n (pc' := 160) dX12_work_159 rfl rfl ?_
        refine ax_iconst (pc' := 161) (v := (0 : Int32)) dX12_work_160 (by decide) rfl ?_
        refine ax_aload_n (pc' := 162) dX12_work_161 rfl rfl ?_
        refine ax_getI (pc' := 165) dX12_work_162 fl_X12_260 sh_69 rfl rfl rfl ?_
        refine ay_V2 (pc' := 168) (ce' := 0) (sl' := 0) (mc2 := 0) (ms2 := 0) (I2 := i_X12_goes) dX12_work_165 ml_X12_321 sh_69 (by decide) rfl rfl rfl rfl rfl rfl rfl rfl rfl (ac_M.imp (to_X12_goes _ (0 : Int32) ((ac_u (ac_u (ac_u (ac_u s131 69 35 ((s131 69 35) + (1 : Int32))) 69 39 (0 : Int32)) 69 40 (0 : Int32)) 69 36 (0 : Int32)) 69 28) H) ?_)
        rintro _ _ ⟨s165, rfl, rfl, H⟩
        refine ax_aload_n (pc' := 169) dX12_work_168 rfl rfl ?_
        refine ax_getI (pc' := 172) dX12_work_169 fl_X12_328 sh_69 rfl rfl rfl ?_
        exact ax_iret dX12_work_172 rfl rfl rfl ⟨_, _, rfl, rfl, H⟩
      · have H := H.2 hc105
        refine ax_aload_n (pc' := 109) dX12_work_108 rfl rfl ?_
        refine ay_V0 (pc' := 112) (ce' := 0) (sl' := 0) (mc2 := 0) (ms2 := 0) (I2 := i_X12_ends) dX12_work_109 ml_X12_193 sh_69 (by decide) rfl rfl rfl rfl rfl rfl rfl rfl rfl (ac_M.imp (o_X12_ends _  H) ?_)
        rintro _ _ ⟨r109, s109, rfl, rfl, H⟩
        exact ax_iret dX12_work_112 rfl rfl rfl ⟨_, _, rfl, rfl, H⟩
    · have H := H.2 hc87
      refine ax_aload_n (pc' := 91) dX12_work_90 rfl rfl ?_
      refine ay_V0 (pc' := 94) (ce' := 0) (sl' := 0) (mc2 := 0) (ms2 := 0) (I2 := i_X12_readsStep) dX12_work_91 ml_X12_263 sh_69 (by decide) rfl rfl rfl rfl rfl rfl rfl rfl rfl (ac_M.imp (to_X12_readsStep _  H) ?_)
      rintro _ _ ⟨s91, rfl, rfl, H⟩
      refine ax_aload_n (pc' := 95) dX12_work_94 rfl rfl ?_
      refine ay_V0 (pc' := 98) (ce' := 0) (sl' := 0) (mc2 := 0) (ms2 := 0) (I2 := i_X12_blanks) dX12_work_95 ml_X12_126 sh_69 (by decide) rfl rfl rfl rfl rfl rfl rfl rfl rfl (ac_M.imp (o_X12_blanks _  H) ?_)
      rintro _ _ ⟨s95, rfl, rfl, H⟩
      refine ax_goto (tgt := 72) dX12_work_98 (by decide) ?_
      exact H
theorem o_X12_work {g : ac_G} {τ : Nat → Nat → Int64} (d : Nat) (p1 : Int32) {Q : Int32 → ac_m → Prop} {s : ac_m} (H : w_X12_work p1 Q s) : ac_M g i_X12_work (d + 57) 0 0 [.ref 69, .int p1] (false, 586, SH, s, τ) (liI τ Q) := by
  refine ac_ofX (by decide +kernel) rfl rfl rfl ?_
  refine ax_aload_n (pc' := 1) dX12_work_0 rfl rfl ?_
  refine ax_iconst (pc' := 2) (v := (0 : Int32)) dX12_work_1 (by decide) rfl ?_
  refine ax_putI (pc' := 5) dX12_work_2 fp_X12_104 sh_69 rfl rfl rfl ?_
  refine ax_aload_n (pc' := 6) dX12_work_5 rfl rfl ?_
  refine ax_iload_n (pc' := 7) dX12_work_6 rfl rfl ?_
  refine ax_iconst (pc' := 8) (v := (0 : Int32)) dX12_work_7 (by decide) rfl ?_
  refine ax_aload_n (pc' := 9) dX12_work_8 rfl rfl ?_
  refine ax_getI (pc' := 12) dX12_work_9 fl_X12_107 sh_69 rfl rfl rfl ?_
  refine ay_S3 (pc' := 15) (ce' := 0) (sl' := 0) (mc2 := 0) (ms2 := 0) (I2 := i_X12_in) dX12_work_12 ml_X12_138 rfl rfl rfl rfl rfl rfl rfl rfl (ac_M.imp (o_X12_in _ p1 (0 : Int32) ((ac_u s 69 0 (0 : Int32)) 69 1) H) ?_)
  rintro _ _ ⟨r12, s12, rfl, rfl, H⟩
  refine ax_if_eq (pc' := 18) (tgt := 25) dX12_work_15 (by decide) rfl (fun hc15 => ?_) (fun hc15 => ?_)
  · have H := H.1 hc15
    refine ax_iconst (pc' := 26) (v := (1 : Int32)) dX12_work_25 (by decide) rfl ?_
    refine ax_goto (tgt := 30) dX12_work_26 (by decide) ?_
    refine ax_iconst (pc' := 31) (v := (1 : Int32)) dX12_work_30 (by decide) rfl ?_
    refine ax_iconst (pc' := 32) (v := (1 : Int32)) dX12_work_31 (by decide) rfl ?_
    refine ay_V3 (pc' := 35) (ce' := 0) (sl' := 0) (mc2 := 0) (ms2 := 0) (I2 := i_X12_bad) dX12_work_32 ml_X12_183 sh_69 (by decide) rfl rfl rfl rfl rfl rfl rfl rfl rfl (ac_M.imp (o_X12_bad _ (1 : Int32) (1 : Int32) (1 : Int32) H) ?_)
    rintro _ _ ⟨r32, s32, rfl, rfl, H⟩
    refine ax_if_eq (pc' := 38) (tgt := 40) dX12_work_35 (by decide) rfl (fun hc35 => ?_) (fun hc35 => ?_)
    · have H := H.1 hc35
      refine ax_aload_n (pc' := 41) dX12_work_40 rfl rfl ?_
      refine ax_getI (pc' := 44) dX12_work_41 fl_X12_210 sh_69 rfl rfl rfl ?_
      refine ax_bipush (pc' := 46) (v := (16 : Int32)) dX12_work_44 (by decide) rfl ?_
      refine ax_icmp_ne (pc' := 49) (tgt := 62) dX12_work_46 (by decide) rfl (fun hc46 => ?_) (fun hc46 => ?_)
      · have H := H.1 hc46
        refine ax_aload_n (pc' := 63) dX12_work_62 rfl rfl ?_
        refine ax_iload_n (pc' := 64) dX12_work_63 rfl rfl ?_
        refine ay_V1 (pc' := 67) (ce' := 0) (sl' := 0) (mc2 := 0) (ms2 := 0) (I2 := i_X12_starts) dX12_work_64 ml_X12_187 sh_69 (by decide) rfl rfl rfl rfl rfl rfl rfl rfl rfl (ac_M.imp (o_X12_starts _ p1 H) ?_)
        rintro _ _ ⟨s64, rfl, rfl, H⟩
        refine ax_aload_n (pc' := 68) dX12_work_67 rfl rfl ?_
        refine ax_iconst (pc' := 69) (v := (0 : Int32)) dX12_work_68 (by decide) rfl ?_
        refine ax_putI (pc' := 72) dX12_work_69 fp_X12_260 sh_69 rfl rfl rfl ?_
        refine ax_drop 1 rfl ?_
        refine ol_X12_work_72 d p1      H
      · have H := H.2 hc46
        refine ax_aload_n (pc' := 50) dX12_work_49 rfl rfl ?_
        refine ax_iconst (pc' := 51) (v := (0 : Int32)) dX12_work_50 (by decide) rfl ?_
        refine ax_putI (pc' := 54) dX12_work_51 fp_X12_107 sh_69 rfl rfl rfl ?_
        refine ax_aload_n (pc' := 55) dX12_work_54 rfl rfl ?_
        refine ax_iconst (pc' := 56) (v := (-1 : Int32)) dX12_work_55 (by decide) rfl ?_
        refine ax_putI (pc' := 59) dX12_work_56 fp_X12_9 sh_69 rfl rfl rfl ?_
        refine ax_bipush (pc' := 61) (v := (-20 : Int32)) dX12_work_59 (by decide) rfl ?_
        exact ax_iret dX12_work_61 rfl rfl rfl ⟨_, _, rfl, rfl, H⟩
    · have H := H.2 hc35
      refine ax_iconst (pc' := 39) (v := (0 : Int32)) dX12_work_38 (by decide) rfl ?_
      exact ax_iret dX12_work_39 rfl rfl rfl ⟨_, _, rfl, rfl, H⟩
  · have H := H.2 hc15
    refine ax_iload_n (pc' := 19) dX12_work_18 rfl rfl ?_
    refine ax_sipush (pc' := 22) (v := (150 : Int32)) dX12_work_19 (by decide) rfl ?_
    refine ax_icmp_le (pc' := 25) (tgt := 29) dX12_work_22 (by decide) rfl (fun hc22 => ?_) (fun hc22 => ?_)
    · have H := H.1 hc22
      refine ax_iconst (pc' := 30) (v := (0 : Int32)) dX12_work_29 (by decide) rfl ?_
      refine ax_iconst (pc' := 31) (v := (1 : Int32)) dX12_work_30 (by decide) rfl ?_
      refine ax_iconst (pc' := 32) (v := (1 : Int32)) dX12_work_31 (by decide) rfl ?_
      refine ay_V3 (pc' := 35) (ce' := 0) (sl' := 0) (mc2 := 0) (ms2 := 0) (I2 := i_X12_bad) dX12_work_32 ml_X12_183 sh_69 (by decide) rfl rfl rfl rfl rfl rfl rfl rfl rfl (ac_M.imp (o_X12_bad _ (0 : Int32) (1 : Int32) (1 : Int32) H) ?_)
      rintro _ _ ⟨r32, s32, rfl, rfl, H⟩
      refine ax_if_eq (pc' := 38) (tgt := 40) dX12_work_35 (by decide) rfl (fun hc35 => ?_) (fun hc35 => ?_)
      · have H := H.1 hc35
        refine ax_aload_n (pc' := 41) dX12_work_40 rfl rfl ?_
        refine ax_getI (pc' := 44) dX12_work_41 fl_X12_210 sh_69 rfl rfl rfl ?_
        refine ax_bipush (pc' := 46) (v := (16 : Int32)) dX12_work_44 (by decide) rfl ?_
        refine ax_icmp_ne (pc' := 49) (tgt := 62) dX12_work_46 (by decide) rfl (fun hc46 => ?_) (fun hc46 => ?_)
        · have H := H.1 hc46
          refine ax_aload_n (pc' := 63) dX12_work_62 rfl rfl ?_
          refine ax_iload_n (pc' := 64) dX12_work_63 rfl rfl ?_
          refine ay_V1 (pc' := 67) (ce' := 0) (sl' := 0) (mc2 := 0) (ms2 := 0) (I2 := i_X12_starts) dX12_work_64 ml_X12_187 sh_69 (by decide) rfl rfl rfl rfl rfl rfl rfl rfl rfl (ac_M.imp (o_X12_starts _ p1 H) ?_)
          rintro _ _ ⟨s64, rfl, rfl, H⟩
          refine ax_aload_n (pc' := 68) dX12_work_67 rfl rfl ?_
          refine ax_iconst (pc' := 69) (v := (0 : Int32)) dX12_work_68 (by decide) rfl ?_
          refine ax_putI (pc' := 72) dX12_work_69 fp_X12_260 sh_69 rfl rfl rfl ?_
          refine ax_drop 1 rfl ?_
          refine ol_X12_work_72 d p1      H
        · have H := H.2 hc46
          refine ax_aload_n (pc' := 50) dX12_work_49 rfl rfl ?_
          refine ax_iconst (pc' := 51) (v := (0 : Int32)) dX12_work_50 (by decide) rfl ?_
          refine ax_putI (pc' := 54) dX12_work_51 fp_X12_107 sh_69 rfl rfl rfl ?_
          refine ax_aload_n (pc' := 55) dX12_work_54 rfl rfl ?_
          refine ax_iconst (pc' := 56) (v := (-1 : Int32)) dX12_work_55 (by decide) rfl ?_
          refine ax_putI (pc' := 59) dX12_work_56 fp_X12_9 sh_69 rfl rfl rfl ?_
          refine ax_bipush (pc' := 61) (v := (-20 : Int32)) dX12_work_59 (by decide) rfl ?_
          exact ax_iret dX12_work_61 rfl rfl rfl ⟨_, _, rfl, rfl, H⟩
      · have H := H.2 hc35
        refine ax_iconst (pc' := 39) (v := (0 : Int32)) dX12_work_38 (by decide) rfl ?_
        exact ax_iret dX12_work_39 rfl rfl rfl ⟨_, _, rfl, rfl, H⟩
    · have H := H.2 hc22
      refine ax_iconst (pc' := 26) (v := (1 : Int32)) dX12_work_25 (by decide) rfl ?_
      refine ax_goto (tgt := 30) dX12_work_26 (by decide) ?_
      refine ax_iconst (pc' := 31) (v := (1 : Int32)) dX12_work_30 (by decide) rfl ?_
      refine ax_iconst (pc' := 32) (v := (1 : Int32)) dX12_work_31 (by decide) rfl ?_
      refine ay_V3 (pc' := 35) (ce' := 0) (sl' := 0) (mc2 := 0) (ms2 := 0) (I2 := i_X12_bad) dX12_work_32 ml_X12_183 sh_69 (by decide) rfl rfl rfl rfl rfl rfl rfl rfl rfl (ac_M.imp (o_X12_bad _ (1 : Int32) (1 : Int32) (1 : Int32) H) ?_)
      rintro _ _ ⟨r32, s32, rfl, rfl, H⟩
      refine ax_if_eq (pc' := 38) (tgt := 40) dX12_work_35 (by decide) rfl (fun hc35 => ?_) (fun hc35 => ?_)
      · have H := H.1 hc35
        refine ax_aload_n (pc' := 41) dX12_work_40 rfl rfl ?_
        refine ax_getI (pc' := 44) dX12_work_41 fl_X12_210 sh_69 rfl rfl rfl ?_
        refine ax_bipush (pc' := 46) (v := (16 : Int32)) dX12_work_44 (by decide) rfl ?_
        refine ax_icmp_ne (pc' := 49) (tgt := 62) dX12_work_46 (by decide) rfl (fun hc46 => ?_) (fun hc46 => ?_)
        · have H := H.1 hc46
          refine ax_aload_n (pc' := 63) dX12_work_62 rfl rfl ?_
          refine ax_iload_n (pc' := 64) dX12_work_63 rfl rfl ?_
          refine ay_V1 (pc' := 67) (ce' := 0) (sl' := 0) (mc2 := 0) (ms2 := 0) (I2 := i_X12_starts) dX12_work_64 ml_X12_187 sh_69 (by decide) rfl rfl rfl rfl rfl rfl rfl rfl rfl (ac_M.imp (o_X12_starts _ p1 H) ?_)
          rintro _ _ ⟨s64, rfl, rfl, H⟩
          refine ax_aload_n (pc' := 68) dX12_work_67 rfl rfl ?_
          refine ax_iconst (pc' := 69) (v := (0 : Int32)) dX12_work_68 (by decide) rfl ?_
          refine ax_putI (pc' := 72) dX12_work_69 fp_X12_260 sh_69 rfl rfl rfl ?_
          refine ax_drop 1 rfl ?_
          refine ol_X12_work_72 d p1      H
        · have H := H.2 hc46
          refine ax_aload_n (pc' := 50) dX12_work_49 rfl rfl ?_
          refine ax_iconst (pc' := 51) (v := (0 : Int32)) dX12_work_50 (by decide) rfl ?_
          refine ax_putI (pc' := 54) dX12_work_51 fp_X12_107 sh_69 rfl rfl rfl ?_
          refine ax_aload_n (pc' := 55) dX12_work_54 rfl rfl ?_
          refine ax_iconst (pc' := 56) (v := (-1 : Int32)) dX12_work_55 (by decide) rfl ?_
          refine ax_putI (pc' := 59) dX12_work_56 fp_X12_9 sh_69 rfl rfl rfl ?_
          refine ax_bipush (pc' := 61) (v := (-20 : Int32)) dX12_work_59 (by decide) rfl ?_
          exact ax_iret dX12_work_61 rfl rfl rfl ⟨_, _, rfl, rfl, H⟩
      · have H := H.2 hc35
        refine ax_iconst (pc' := 39) (v := (0 : Int32)) dX12_work_38 (by decide) rfl ?_
        exact ax_iret dX12_work_39 rfl rfl rfl ⟨_, _, rfl, rfl, H⟩
theorem o_X12_undo {g : ac_G} {τ : Nat → Nat → Int64} (d : Nat)  {Q : Int32 → ac_m → Prop} {s : ac_m} (H : w_X12_undo  Q s) : ac_M g i_X12_undo (d + 1) 0 0 [.ref 69] (false, 586, SH, s, τ) (liI τ Q) := by
  refine ac_ofX (by decide +kernel) rfl rfl rfl ?_
  refine ax_aload_n (pc' := 1) dX12_undo_0 rfl rfl ?_
  refine ax_iconst (pc' := 2) (v := (0 : Int32)) dX12_undo_1 (by decide) rfl ?_
  refine ax_putI (pc' := 5) dX12_undo_2 fp_X12_104 sh_69 rfl rfl rfl ?_
  refine ax_aload_n (pc' := 6) dX12_undo_5 rfl rfl ?_
  refine ax_getI (pc' := 9) dX12_undo_6 fl_X12_210 sh_69 rfl rfl rfl ?_
  refine ax_if_ne (pc' := 12) (tgt := 14) dX12_undo_9 (by decide) rfl (fun hc9 => ?_) (fun hc9 => ?_)
  · have H := H.1 hc9
    refine ax_aload_n (pc' := 15) dX12_undo_14 rfl rfl ?_
    refine ax_dup (pc' := 16) dX12_undo_15 rfl rfl ?_
    refine ax_getI (pc' := 19) dX12_undo_16 fl_X12_210 sh_69 rfl rfl rfl ?_
    refine ax_iconst (pc' := 20) (v := (1 : Int32)) dX12_undo_19 (by decide) rfl ?_
    refine ax_isub (pc' := 21) dX12_undo_20 rfl ?_
    refine ax_putI (pc' := 24) dX12_undo_21 fp_X12_210 sh_69 rfl rfl rfl ?_
    refine ax_aload_n (pc' := 25) dX12_undo_24 rfl rfl ?_
    refine ax_getR (pc' := 28) dX12_undo_25 fl_X12_76 sh_69 rfl rfl rfl ?_
    refine ax_aload_n (pc' := 29) dX12_undo_28 rfl rfl ?_
    refine ax_getI (pc' := 32) dX12_undo_29 fl_X12_210 sh_69 rfl rfl rfl ?_
    obtain ⟨hj32, H⟩ := H
    refine ax_aald (pc' := 33) dX12_undo_32 sh_559 hj32 rfl rfl ?_
    refine ax_aload_n (pc' := 34) dX12_undo_33 rfl rfl ?_
    refine ax_getR (pc' := 37) dX12_undo_34 fl_X12_67 sh_69 rfl rfl rfl ?_
    refine ay_S2 (pc' := 40) (ce' := 0) (sl' := 0) (mc2 := 0) (ms2 := 0) (I2 := i_X12_copies) dX12_undo_37 ml_X12_331 rfl rfl rfl rfl rfl rfl rfl rfl (ac_M.imp (o_X12_copies _ (560 + ((ac_u (ac_u s 69 0 (0 : Int32)) 69 35 (((ac_u s 69 0 (0 : Int32)) 69 35) - (1 : Int32))) 69 35).toNatClampNeg) 556 (sh_r_560 _ (ac_lt hj32)) (sh_n_560 _ (ac_lt hj32)) sh_556 rfl H) ?_)
    rintro _ _ ⟨s37, rfl, rfl, H⟩
    refine ax_aload_n (pc' := 41) dX12_undo_40 rfl rfl ?_
    refine ax_iconst (pc' := 42) (v := (0 : Int32)) dX12_undo_41 (by decide) rfl ?_
    refine ax_putI (pc' := 45) dX12_undo_42 fp_X12_213 sh_69 rfl rfl rfl ?_
    refine ax_aload_n (pc' := 46) dX12_undo_45 rfl rfl ?_
    refine ax_getI (pc' := 49) dX12_undo_46 fl_X12_210 sh_69 rfl rfl rfl ?_
    exact ax_iret dX12_undo_49 rfl rfl rfl ⟨_, _, rfl, rfl, H⟩
  · have H := H.2 hc9
    refine ax_iconst (pc' := 13) (v := (-1 : Int32)) dX12_undo_12 (by decide) rfl ?_
    exact ax_iret dX12_undo_13 rfl rfl rfl ⟨_, _, rfl, rfl, H⟩
theorem ol_X12_grassIn_4 {g : ac_G} {τ : Nat → Nat → Int64} (d : Nat) (r1 : Nat) (hr1 : SH r1 = .inl (0, 83, 0)) (hn1 : Nat.blt r1 586 = true) {Q : Int32 → ac_m → Prop}    {x2 : Int32} {x3 : Int32} {s : ac_m} (H : l_X12_grassIn_4 r1 Q    x2 x3 s) : ac_X g i_X12_grassIn d 0 0 (liI τ Q) 0 0 4 [some (.ref 69), some (.ref r1), some (.int x2), some (.int x3)] [] (false, 586, SH, s, τ) := by
  refine H (fun x2 x3 s => ac_X g i_X12_grassIn d 0 0 (liI τ Q) 0 0 4 [some (.ref 69), some (.ref r1), some (.int x2), some (.int x3)] [] (false, 586, SH, s, τ)) ?_
  intro x2 x3 s H
  refine ax_iload_n (pc' := 5) dX12_grassIn_4 rfl rfl ?_
  refine ax_aload_n (pc' := 6) dX12_grassIn_5 rfl rfl ?_
  refine ax_getR (pc' := 9) dX12_grassIn_6 fl_X12_23 sh_69 rfl rfl rfl ?_
  refine ax_iconst (pc' := 10) (v := (0 : Int32)) dX12_grassIn_9 (by decide) rfl ?_
  refine ax_iald (pc' := 11) dX12_grassIn_10 sh_73 (ac_in (by decide)) rfl rfl ?_
  refine ax_icmp_ge (pc' := 14) (tgt := 29) dX12_grassIn_11 (by decide) rfl (fun hc11 => ?_) (fun hc11 => ?_)
  · have H := H.1 hc11
    refine ax_iload_n (pc' := 30) dX12_grassIn_29 rfl rfl ?_
    exact ax_iret dX12_grassIn_30 rfl rfl rfl ⟨_, _, rfl, rfl, H⟩
  · have H := H.2 hc11
    refine ax_iload_n (pc' := 15) dX12_grassIn_14 rfl rfl ?_
    refine ax_aload_n (pc' := 16) dX12_grassIn_15 rfl rfl ?_
    refine ax_bipush (pc' := 18) (v := (39 : Int32)) dX12_grassIn_16 (by decide) rfl ?_
    refine ax_iload_n (pc' := 19) dX12_grassIn_18 rfl rfl ?_
    refine ax_iadd (pc' := 20) dX12_grassIn_19 rfl ?_
    obtain ⟨hj20, H⟩ := H
    refine ax_iald (pc' := 21) dX12_grassIn_20 hr1 hj20 hn1 rfl ?_
    refine ax_iadd (pc' := 22) dX12_grassIn_21 rfl ?_
    refine ax_istore_n (pc' := 23) dX12_grassIn_22 rfl rfl rfl ?_
    refine ax_iinc (pc' := 26) (v := (x3 + (1 : Int32))) dX12_grassIn_23 rfl rfl rfl rfl rfl ?_
    refine ax_goto (tgt := 4) dX12_grassIn_26 (by decide) ?_
    exact H
theorem o_X12_grassIn {g : ac_G} {τ : Nat → Nat → Int64} (d : Nat) (r1 : Nat) (hr1 : SH r1 = .inl (0, 83, 0)) (hn1 : Nat.blt r1 586 = true) {Q : Int32 → ac_m → Prop} {s : ac_m} (H : w_X12_grassIn r1 Q s) : ac_M g i_X12_grassIn d 0 0 [.ref 69, .ref r1] (false, 586, SH, s, τ) (liI τ Q) := by
  refine ac_ofX (by decide +kernel) rfl rfl rfl ?_
  refine ax_iconst (pc' := 1) (v := (0 : Int32)) dX12_grassIn_0 (by decide) rfl ?_
  refine ax_istore_n (pc' := 2) dX12_grassIn_1 rfl rfl rfl ?_
  refine ax_iconst (pc' := 3) (v := (0 : Int32)) dX12_grassIn_2 (by decide) rfl ?_
  refine ax_istore_n (pc' := 4) dX12_grassIn_3 rfl rfl rfl ?_
  refine ol_X12_grassIn_4 d r1 hr1 hn1     H
theorem ol_X12_weightIn_4 {g : ac_G} {τ : Nat → Nat → Int64} (d : Nat) (r1 : Nat) (hr1 : SH r1 = .inl (0, 83, 0)) (hn1 : Nat.blt r1 586 = true) {Q : Int32 → ac_m → Prop}    {x1 : Int32} {x2 : Int32} {s : ac_m} (H : l_X12_weightIn_4 r1 Q    x1 x2 s) : ac_X g i_X12_weightIn d 0 0 (liI τ Q) 0 0 4 [some (.ref r1), some (.int x1), some (.int x2)] [] (false, 586, SH, s, τ) := by
  refine H (fun x1 x2 s => ac_X g i_X12_weightIn d 0 0 (liI τ Q) 0 0 4 [some (.ref r1), some (.int x1), some (.int x2)] [] (false, 586, SH, s, τ)) ?_
  intro x1 x2 s H
  refine ax_iload_n (pc' := 5) dX12_weightIn_4 rfl rfl ?_
  refine ax_bipush (pc' := 7) (v := (12 : Int32)) dX12_weightIn_5 (by decide) rfl ?_
  refine ax_icmp_gt (pc' := 10) (tgt := 24) dX12_weightIn_7 (by decide) rfl (fun hc7 => ?_) (fun hc7 => ?_)
  · have H := H.1 hc7
    refine ax_iload_n (pc' := 25) dX12_weightIn_24 rfl rfl ?_
    exact ax_iret dX12_weightIn_25 rfl rfl rfl ⟨_, _, rfl, rfl, H⟩
  · have H := H.2 hc7
    refine ax_iload_n (pc' := 11) dX12_weightIn_10 rfl rfl ?_
    refine ax_aload_n (pc' := 12) dX12_weightIn_11 rfl rfl ?_
    refine ax_iconst (pc' := 13) (v := (0 : Int32)) dX12_weightIn_12 (by decide) rfl ?_
    refine ax_iload_n (pc' := 14) dX12_weightIn_13 rfl rfl ?_
    refine ax_iadd (pc' := 15) dX12_weightIn_14 rfl ?_
    obtain ⟨hj15, H⟩ := H
    refine ax_iald (pc' := 16) dX12_weightIn_15 hr1 hj15 hn1 rfl ?_
    refine ax_iadd (pc' := 17) dX12_weightIn_16 rfl ?_
    refine ax_istore_n (pc' := 18) dX12_weightIn_17 rfl rfl rfl ?_
    refine ax_iinc (pc' := 21) (v := (x2 + (1 : Int32))) dX12_weightIn_18 rfl rfl rfl rfl rfl ?_
    refine ax_goto (tgt := 4) dX12_weightIn_21 (by decide) ?_
    exact H
theorem o_X12_weightIn {g : ac_G} {τ : Nat → Nat → Int64} (d : Nat) (r1 : Nat) (hr1 : SH r1 = .inl (0, 83, 0)) (hn1 : Nat.blt r1 586 = true) {Q : Int32 → ac_m → Prop} {s : ac_m} (H : w_X12_weightIn r1 Q s) : ac_M g i_X12_weightIn d 0 0 [.ref r1] (false, 586, SH, s, τ) (liI τ Q) := by
  refine ac_ofX (by decide +kernel) rfl rfl rfl ?_
  refine ax_iconst (pc' := 1) (v := (0 : Int32)) dX12_weightIn_0 (by decide) rfl ?_
  refine ax_istore_n (pc' := 2) dX12_weightIn_1 rfl rfl rfl ?_
  refine ax_iconst (pc' := 3) (v := (0 : Int32)) dX12_weightIn_2 (by decide) rfl ?_
  refine ax_istore_n (pc' := 4) dX12_weightIn_3 rfl rfl rfl ?_
  refine ol_X12_weightIn_4 d r1 hr1 hn1     H
theorem ol_X12_eaten_4 {g : ac_G} {τ : Nat → Nat → Int64} (d : Nat) (p1 : Int32) {Q : Int32 → ac_m → Prop}  (f1 : Int32)  {x2 : Int32} {x3 : Int32} {s : ac_m} (H : l_X12_eaten_4 p1 Q  f1  x2 x3 s) : ac_X g i_X12_eaten (d + 5) 0 0 (liI τ Q) 0 0 4 [some (.ref 69), some (.int f1), some (.int x2), some (.int x3)] [] (false, 586, SH, s, τ) := by
  refine H (fun x2 x3 s => ac_X g i_X12_eaten (d + 5) 0 0 (liI τ Q) 0 0 4 [some (.ref 69), some (.int f1), some (.int x2), some (.int x3)] [] (false, 586, SH, s, τ)) ?_
  intro x2 x3 s H
  refine ax_iload_n (pc' := 5) dX12_eaten_4 rfl rfl ?_
  refine ax_aload_n (pc' := 6) dX12_eaten_5 rfl rfl ?_
  refine ax_getR (pc' := 9) dX12_eaten_6 fl_X12_23 sh_69 rfl rfl rfl ?_
  refine ax_iconst (pc' := 10) (v := (1 : Int32)) dX12_eaten_9 (by decide) rfl ?_
  refine ax_iald (pc' := 11) dX12_eaten_10 sh_73 (ac_in (by decide)) rfl rfl ?_
  refine ax_icmp_ge (pc' := 14) (tgt := 44) dX12_eaten_11 (by decide) rfl (fun hc11 => ?_) (fun hc11 => ?_)
  · have H := H.1 hc11
    refine ax_iload_n (pc' := 45) dX12_eaten_44 rfl rfl ?_
    exact ax_iret dX12_eaten_45 rfl rfl rfl ⟨_, _, rfl, rfl, H⟩
  · have H := H.2 hc11
    refine ax_iload_n (pc' := 15) dX12_eaten_14 rfl rfl ?_
    refine ax_iload_n (pc' := 16) dX12_eaten_15 rfl rfl ?_
    refine ax_iload_n (pc' := 17) dX12_eaten_16 rfl rfl ?_
    refine ay_S2 (pc' := 20) (ce' := 0) (sl' := 0) (mc2 := 0) (ms2 := 0) (I2 := i_X12_has) dX12_eaten_17 ml_X12_266 rfl rfl rfl rfl rfl rfl rfl rfl (ac_M.imp (o_X12_has _ f1 x3 H) ?_)
    rintro _ _ ⟨r17, s17, rfl, rfl, H⟩
    refine ax_if_eq (pc' := 23) (tgt := 35) dX12_eaten_20 (by decide) rfl (fun hc20 => ?_) (fun hc20 => ?_)
    · have H := H.1 hc20
      refine ax_iconst (pc' := 36) (v := (0 : Int32)) dX12_eaten_35 (by decide) rfl ?_
      refine ax_iadd (pc' := 37) dX12_eaten_36 rfl ?_
      refine ax_istore_n (pc' := 38) dX12_eaten_37 rfl rfl rfl ?_
      refine ax_iinc (pc' := 41) (v := (x3 + (1 : Int32))) dX12_eaten_38 rfl rfl rfl rfl rfl ?_
      refine ax_goto (tgt := 4) dX12_eaten_41 (by decide) ?_
      exact H
    · have H := H.2 hc20
      refine ax_aload_n (pc' := 24) dX12_eaten_23 rfl rfl ?_
      refine ax_aload_n (pc' := 25) dX12_eaten_24 rfl rfl ?_
      refine ax_getR (pc' := 28) dX12_eaten_25 fl_X12_67 sh_69 rfl rfl rfl ?_
      refine ax_iload_n (pc' := 29) dX12_eaten_28 rfl rfl ?_
      refine ay_V2 (pc' := 32) (ce' := 0) (sl' := 0) (mc2 := 0) (ms2 := 0) (I2 := i_X12_eatOf) dX12_eaten_29 ml_X12_294 sh_69 (by decide) rfl rfl rfl rfl rfl rfl rfl rfl rfl (ac_M.imp (o_X12_eatOf _ 556 x3 sh_556 rfl H) ?_)
      rintro _ _ ⟨r29, s29, rfl, rfl, H⟩
      refine ax_goto (tgt := 36) dX12_eaten_32 (by decide) ?_
      refine ax_iadd (pc' := 37) dX12_eaten_36 rfl ?_
      refine ax_istore_n (pc' := 38) dX12_eaten_37 rfl rfl rfl ?_
      refine ax_iinc (pc' := 41) (v := (x3 + (1 : Int32))) dX12_eaten_38 rfl rfl rfl rfl rfl ?_
      refine ax_goto (tgt := 4) dX12_eaten_41 (by decide) ?_
      exact H
theorem o_X12_eaten {g : ac_G} {τ : Nat → Nat → Int64} (d : Nat) (p1 : Int32) {Q : Int32 → ac_m → Prop} {s : ac_m} (H : w_X12_eaten p1 Q s) : ac_M g i_X12_eaten (d + 5) 0 0 [.ref 69, .int p1] (false, 586, SH, s, τ) (liI τ Q) := by
  refine ac_ofX (by decide +kernel) rfl rfl rfl ?_
  refine ax_iconst (pc' := 1) (v := (0 : Int32)) dX12_eaten_0 (by decide) rfl ?_
  refine ax_istore_n (pc' := 2) dX12_eaten_1 rfl rfl rfl ?_
  refine ax_iconst (pc' := 3) (v := (0 : Int32)) dX12_eaten_2 (by decide) rfl ?_
  refine ax_istore_n (pc' := 4) dX12_eaten_3 rfl rfl rfl ?_
  refine ol_X12_eaten_4 d p1  _    H
theorem ol_X12_told_35 {g : ac_G} {τ : Nat → Nat → Int64} (d : Nat) (p1 : Int32) {Q : Int32 → ac_m → Prop}  (f1 : Int32)  {x2 : Int32} {x3 : Int32} {s : ac_m} (H : l_X12_told_35 p1 Q  f1  x2 x3 s) : ac_X g i_X12_told (d + 6) 0 0 (liI τ Q) 0 0 35 [some (.ref 69), some (.int f1), some (.int x2), some (.int x3)] [] (false, 586, SH, s, τ) := by
  refine H (fun x2 x3 s => ac_X g i_X12_told (d + 6) 0 0 (liI τ Q) 0 0 35 [some (.ref 69), some (.int f1), some (.int x2), some (.int x3)] [] (false, 586, SH, s, τ)) ?_
  intro x2 x3 s H
  refine ax_iload_n (pc' := 36) dX12_told_35 rfl rfl ?_
  refine ax_bipush (pc' := 38) (v := (36 : Int32)) dX12_told_36 (by decide) rfl ?_
  refine ax_icmp_ge (pc' := 41) (tgt := 59) dX12_told_38 (by decide) rfl (fun hc38 => ?_) (fun hc38 => ?_)
  · have H := H.1 hc38
    refine ax_iload_n (pc' := 60) dX12_told_59 rfl rfl ?_
    by_cases hk60_0 : f1 = (0 : Int32)
    · have H := H.1 hk60_0
      refine ax_tableIn (off := (60)) (tgt := 120) dX12_told_60 (by rw [hk60_0]; decide) (by rw [hk60_0]; decide) (by rw [hk60_0]; rfl) (by decide) ?_
      refine ax_aload_n (pc' := 121) dX12_told_120 rfl rfl ?_
      refine ax_getR (pc' := 124) dX12_told_121 fl_X12_23 sh_69 rfl rfl rfl ?_
      refine ax_iload_n (pc' := 125) dX12_told_124 rfl rfl ?_
      obtain ⟨hj125, H⟩ := H
      refine ax_iald (pc' := 126) dX12_told_125 sh_73 hj125 rfl rfl ?_
      exact ax_iret dX12_told_126 rfl rfl rfl ⟨_, _, rfl, rfl, H⟩
    have H := H.2
    by_cases hk60_1 : f1 = (1 : Int32)
    · have H := H.1 hk60_1
      refine ax_tableIn (off := (60)) (tgt := 120) dX12_told_60 (by rw [hk60_1]; decide) (by rw [hk60_1]; decide) (by rw [hk60_1]; rfl) (by decide) ?_
      refine ax_aload_n (pc' := 121) dX12_told_120 rfl rfl ?_
      refine ax_getR (pc' := 124) dX12_told_121 fl_X12_23 sh_69 rfl rfl rfl ?_
      refine ax_iload_n (pc' := 125) dX12_told_124 rfl rfl ?_
      obtain ⟨hj125, H⟩ := H
      refine ax_iald (pc' := 126) dX12_told_125 sh_73 hj125 rfl rfl ?_
      exact ax_iret dX12_told_126 rfl rfl rfl ⟨_, _, rfl, rfl, H⟩
    have H := H.2
    by_cases hk60_2 : f1 = (2 : Int32)
    · have H := H.1 hk60_2
      refine ax_tableIn (off := (60)) (tgt := 120) dX12_told_60 (by rw [hk60_2]; decide) (by rw [hk60_2]; decide) (by rw [hk60_2]; rfl) (by decide) ?_
      refine ax_aload_n (pc' := 121) dX12_told_120 rfl rfl ?_
      refine ax_getR (pc' := 124) dX12_told_121 fl_X12_23 sh_69 rfl rfl rfl ?_
      refine ax_iload_n (pc' := 125) dX12_told_124 rfl rfl ?_
      obtain ⟨hj125, H⟩ := H
      refine ax_iald (pc' := 126) dX12_told_125 sh_73 hj125 rfl rfl ?_
      exact ax_iret dX12_told_126 rfl rfl rfl ⟨_, _, rfl, rfl, H⟩
    have H := H.2
    by_cases hk60_3 : f1 = (3 : Int32)
    · have H := H.1 hk60_3
      refine ax_tableIn (off := (67)) (tgt := 127) dX12_told_60 (by rw [hk60_3]; decide) (by rw [hk60_3]; decide) (by rw [hk60_3]; rfl) (by decide) ?_
      refine ax_aload_n (pc' := 128) dX12_told_127 rfl rfl ?_
      refine ax_getR (pc' := 131) dX12_told_128 fl_X12_67 sh_69 rfl rfl rfl ?_
      refine ax_bipush (pc' := 133) (v := (82 : Int32)) dX12_told_131 (by decide) rfl ?_
      refine ax_iald (pc' := 134) dX12_told_133 sh_556 (ac_in (by decide)) rfl rfl ?_
      exact ax_iret dX12_told_134 rfl rfl rfl ⟨_, _, rfl, rfl, H⟩
    have H := H.2
    by_cases hk60_4 : f1 = (4 : Int32)
    · have H := H.1 hk60_4
      refine ax_tableIn (off := (75)) (tgt := 135) dX12_told_60 (by rw [hk60_4]; decide) (by rw [hk60_4]; decide) (by rw [hk60_4]; rfl) (by decide) ?_
      refine ax_aload_n (pc' := 136) dX12_told_135 rfl rfl ?_
      refine ax_getR (pc' := 139) dX12_told_136 fl_X12_67 sh_69 rfl rfl rfl ?_
      refine ay_S1 (pc' := 142) (ce' := 0) (sl' := 0) (mc2 := 0) (ms2 := 0) (I2 := i_X12_there) dX12_told_139 ml_X12_335 rfl rfl rfl rfl rfl rfl rfl rfl (ac_M.imp (o_X12_there _ 556 sh_556 rfl H) ?_)
      rintro _ _ ⟨r139, s139, rfl, rfl, H⟩
      exact ax_iret dX12_told_142 rfl rfl rfl ⟨_, _, rfl, rfl, H⟩
    have H := H.2
    by_cases hk60_5 : f1 = (5 : Int32)
    · have H := H.1 hk60_5
      refine ax_tableIn (off := (83)) (tgt := 143) dX12_told_60 (by rw [hk60_5]; decide) (by rw [hk60_5]; decide) (by rw [hk60_5]; rfl) (by decide) ?_
      refine ax_aload_n (pc' := 144) dX12_told_143 rfl rfl ?_
      refine ax_aload_n (pc' := 145) dX12_told_144 rfl rfl ?_
      refine ax_getR (pc' := 148) dX12_told_145 fl_X12_67 sh_69 rfl rfl rfl ?_
      refine ay_V1 (pc' := 151) (ce' := 0) (sl' := 0) (mc2 := 0) (ms2 := 0) (I2 := i_X12_grassIn) dX12_told_148 ml_X12_339 sh_69 (by decide) rfl rfl rfl rfl rfl rfl rfl rfl rfl (ac_M.imp (o_X12_grassIn _ 556 sh_556 rfl H) ?_)
      rintro _ _ ⟨r148, s148, rfl, rfl, H⟩
      exact ax_iret dX12_told_151 rfl rfl rfl ⟨_, _, rfl, rfl, H⟩
    have H := H.2
    by_cases hk60_6 : f1 = (6 : Int32)
    · have H := H.1 hk60_6
      refine ax_tableIn (off := (92)) (tgt := 152) dX12_told_60 (by rw [hk60_6]; decide) (by rw [hk60_6]; decide) (by rw [hk60_6]; rfl) (by decide) ?_
      refine ax_aload_n (pc' := 153) dX12_told_152 rfl rfl ?_
      refine ax_getR (pc' := 156) dX12_told_153 fl_X12_67 sh_69 rfl rfl rfl ?_
      refine ay_S1 (pc' := 159) (ce' := 0) (sl' := 0) (mc2 := 0) (ms2 := 0) (I2 := i_X12_weightIn) dX12_told_156 ml_X12_342 rfl rfl rfl rfl rfl rfl rfl rfl (ac_M.imp (o_X12_weightIn _ 556 sh_556 rfl H) ?_)
      rintro _ _ ⟨r156, s156, rfl, rfl, H⟩
      exact ax_iret dX12_told_159 rfl rfl rfl ⟨_, _, rfl, rfl, H⟩
    have H := H.2
    by_cases hk60_7 : f1 = (7 : Int32)
    · have H := H.1 hk60_7
      refine ax_tableIn (off := (100)) (tgt := 160) dX12_told_60 (by rw [hk60_7]; decide) (by rw [hk60_7]; decide) (by rw [hk60_7]; rfl) (by decide) ?_
      refine ax_aload_n (pc' := 161) dX12_told_160 rfl rfl ?_
      refine ax_aload_n (pc' := 162) dX12_told_161 rfl rfl ?_
      refine ax_getR (pc' := 165) dX12_told_162 fl_X12_67 sh_69 rfl rfl rfl ?_
      refine ay_S1 (pc' := 168) (ce' := 0) (sl' := 0) (mc2 := 0) (ms2 := 0) (I2 := i_X12_there) dX12_told_165 ml_X12_335 rfl rfl rfl rfl rfl rfl rfl rfl (ac_M.imp (o_X12_there _ 556 sh_556 rfl H) ?_)
      rintro _ _ ⟨r165, s165, rfl, rfl, H⟩
      refine ay_V1 (pc' := 171) (ce' := 0) (sl' := 0) (mc2 := 0) (ms2 := 0) (I2 := i_X12_eaten) dX12_told_168 ml_X12_345 sh_69 (by decide) rfl rfl rfl rfl rfl rfl rfl rfl rfl (ac_M.imp (o_X12_eaten _ r165 H) ?_)
      rintro _ _ ⟨r168, s168, rfl, rfl, H⟩
      exact ax_iret dX12_told_171 rfl rfl rfl ⟨_, _, rfl, rfl, H⟩
    have H := H.2
    by_cases hk60_8 : f1 = (8 : Int32)
    · have H := H.1 hk60_8
      refine ax_tableIn (off := (112)) (tgt := 172) dX12_told_60 (by rw [hk60_8]; decide) (by rw [hk60_8]; decide) (by rw [hk60_8]; rfl) (by decide) ?_
      refine ax_aload_n (pc' := 173) dX12_told_172 rfl rfl ?_
      refine ax_getR (pc' := 176) dX12_told_173 fl_X12_67 sh_69 rfl rfl rfl ?_
      refine ax_bipush (pc' := 178) (v := (81 : Int32)) dX12_told_176 (by decide) rfl ?_
      refine ax_iald (pc' := 179) dX12_told_178 sh_556 (ac_in (by decide)) rfl rfl ?_
      exact ax_iret dX12_told_179 rfl rfl rfl ⟨_, _, rfl, rfl, H⟩
    have H := H.2
    by_cases hk60_9 : f1 = (9 : Int32)
    · have H := H.1 hk60_9
      refine ax_tableIn (off := (120)) (tgt := 180) dX12_told_60 (by rw [hk60_9]; decide) (by rw [hk60_9]; decide) (by rw [hk60_9]; rfl) (by decide) ?_
      refine ax_aload_n (pc' := 181) dX12_told_180 rfl rfl ?_
      refine ax_getI (pc' := 184) dX12_told_181 fl_X12_207 sh_69 rfl rfl rfl ?_
      exact ax_iret dX12_told_184 rfl rfl rfl ⟨_, _, rfl, rfl, H⟩
    have H := H.2
    by_cases hk60_10 : f1 = (10 : Int32)
    · have H := H.1 hk60_10
      refine ax_tableIn (off := (125)) (tgt := 185) dX12_told_60 (by rw [hk60_10]; decide) (by rw [hk60_10]; decide) (by rw [hk60_10]; rfl) (by decide) ?_
      refine ax_aload_n (pc' := 186) dX12_told_185 rfl rfl ?_
      refine ax_getI (pc' := 189) dX12_told_186 fl_X12_213 sh_69 rfl rfl rfl ?_
      exact ax_iret dX12_told_189 rfl rfl rfl ⟨_, _, rfl, rfl, H⟩
    have H := H.2
    have H := H ⟨hk60_0, hk60_1, hk60_2, hk60_3, hk60_4, hk60_5, hk60_6, hk60_7, hk60_8, hk60_9, hk60_10⟩
    have hq0 : f1.toInt ≠ 0 := ac_ne hk60_0
    have hq1 : f1.toInt ≠ 1 := ac_ne hk60_1
    have hq2 : f1.toInt ≠ 2 := ac_ne hk60_2
    have hq3 : f1.toInt ≠ 3 := ac_ne hk60_3
    have hq4 : f1.toInt ≠ 4 := ac_ne hk60_4
    have hq5 : f1.toInt ≠ 5 := ac_ne hk60_5
    have hq6 : f1.toInt ≠ 6 := ac_ne hk60_6
    have hq7 : f1.toInt ≠ 7 := ac_ne hk60_7
    have hq8 : f1.toInt ≠ 8 := ac_ne hk60_8
    have hq9 : f1.toInt ≠ 9 := ac_ne hk60_9
    have hq10 : f1.toInt ≠ 10 := ac_ne hk60_10
    refine ax_tableOut (tgt := 190) dX12_told_60 (by omega) (by decide) ?_
    refine ax_iload_n (pc' := 191) dX12_told_190 rfl rfl ?_
    refine ax_iconst (pc' := 192) (v := (2 : Int32)) dX12_told_191 (by decide) rfl ?_
    refine ax_idiv (pc' := 193) dX12_told_192 (by decide) rfl ?_
    exact ax_iret dX12_told_193 rfl rfl rfl ⟨_, _, rfl, rfl, H⟩
  · have H := H.2 hc38
    refine ax_iload_n (pc' := 42) dX12_told_41 rfl rfl ?_
    refine ax_aload_n (pc' := 43) dX12_told_42 rfl rfl ?_
    refine ax_getR (pc' := 46) dX12_told_43 fl_X12_67 sh_69 rfl rfl rfl ?_
    refine ax_bipush (pc' := 48) (v := (45 : Int32)) dX12_told_46 (by decide) rfl ?_
    refine ax_iload_n (pc' := 49) dX12_told_48 rfl rfl ?_
    refine ax_iadd (pc' := 50) dX12_told_49 rfl ?_
    obtain ⟨hj50, H⟩ := H
    refine ax_iald (pc' := 51) dX12_told_50 sh_556 hj50 rfl rfl ?_
    refine ax_iadd (pc' := 52) dX12_told_51 rfl ?_
    refine ax_istore_n (pc' := 53) dX12_told_52 rfl rfl rfl ?_
    refine ax_iinc (pc' := 56) (v := (x3 + (1 : Int32))) dX12_told_53 rfl rfl rfl rfl rfl ?_
    refine ax_goto (tgt := 35) dX12_told_56 (by decide) ?_
    exact H
theorem o_X12_told {g : ac_G} {τ : Nat → Nat → Int64} (d : Nat) (p1 : Int32) {Q : Int32 → ac_m → Prop} {s : ac_m} (H : w_X12_told p1 Q s) : ac_M g i_X12_told (d + 6) 0 0 [.ref 69, .int p1] (false, 586, SH, s, τ) (liI τ Q) := by
  refine ac_ofX (by decide +kernel) rfl rfl rfl ?_
  refine ax_aload_n (pc' := 1) dX12_told_0 rfl rfl ?_
  refine ax_iconst (pc' := 2) (v := (0 : Int32)) dX12_told_1 (by decide) rfl ?_
  refine ax_putI (pc' := 5) dX12_told_2 fp_X12_104 sh_69 rfl rfl rfl ?_
  refine ax_aload_n (pc' := 6) dX12_told_5 rfl rfl ?_
  refine ax_iload_n (pc' := 7) dX12_told_6 rfl rfl ?_
  refine ax_iconst (pc' := 8) (v := (0 : Int32)) dX12_told_7 (by decide) rfl ?_
  refine ax_bipush (pc' := 10) (v := (11 : Int32)) dX12_told_8 (by decide) rfl ?_
  refine ay_S3 (pc' := 13) (ce' := 0) (sl' := 0) (mc2 := 0) (ms2 := 0) (I2 := i_X12_in) dX12_told_10 ml_X12_138 rfl rfl rfl rfl rfl rfl rfl rfl (ac_M.imp (o_X12_in _ p1 (0 : Int32) (11 : Int32) H) ?_)
  rintro _ _ ⟨r10, s10, rfl, rfl, H⟩
  refine ax_if_ne (pc' := 16) (tgt := 20) dX12_told_13 (by decide) rfl (fun hc13 => ?_) (fun hc13 => ?_)
  · have H := H.1 hc13
    refine ax_iconst (pc' := 21) (v := (0 : Int32)) dX12_told_20 (by decide) rfl ?_
    refine ax_iconst (pc' := 22) (v := (1 : Int32)) dX12_told_21 (by decide) rfl ?_
    refine ax_iconst (pc' := 23) (v := (1 : Int32)) dX12_told_22 (by decide) rfl ?_
    refine ay_V3 (pc' := 26) (ce' := 0) (sl' := 0) (mc2 := 0) (ms2 := 0) (I2 := i_X12_bad) dX12_told_23 ml_X12_183 sh_69 (by decide) rfl rfl rfl rfl rfl rfl rfl rfl rfl (ac_M.imp (o_X12_bad _ (0 : Int32) (1 : Int32) (1 : Int32) H) ?_)
    rintro _ _ ⟨r23, s23, rfl, rfl, H⟩
    refine ax_if_eq (pc' := 29) (tgt := 31) dX12_told_26 (by decide) rfl (fun hc26 => ?_) (fun hc26 => ?_)
    · have H := H.1 hc26
      refine ax_iconst (pc' := 32) (v := (0 : Int32)) dX12_told_31 (by decide) rfl ?_
      refine ax_istore_n (pc' := 33) dX12_told_32 rfl rfl rfl ?_
      refine ax_iconst (pc' := 34) (v := (0 : Int32)) dX12_told_33 (by decide) rfl ?_
      refine ax_istore_n (pc' := 35) dX12_told_34 rfl rfl rfl ?_
      refine ol_X12_told_35 d p1  _    H
    · have H := H.2 hc26
      refine ax_iconst (pc' := 30) (v := (0 : Int32)) dX12_told_29 (by decide) rfl ?_
      exact ax_iret dX12_told_30 rfl rfl rfl ⟨_, _, rfl, rfl, H⟩
  · have H := H.2 hc13
    refine ax_iconst (pc' := 17) (v := (1 : Int32)) dX12_told_16 (by decide) rfl ?_
    refine ax_goto (tgt := 21) dX12_told_17 (by decide) ?_
    refine ax_iconst (pc' := 22) (v := (1 : Int32)) dX12_told_21 (by decide) rfl ?_
    refine ax_iconst (pc' := 23) (v := (1 : Int32)) dX12_told_22 (by decide) rfl ?_
    refine ay_V3 (pc' := 26) (ce' := 0) (sl' := 0) (mc2 := 0) (ms2 := 0) (I2 := i_X12_bad) dX12_told_23 ml_X12_183 sh_69 (by decide) rfl rfl rfl rfl rfl rfl rfl rfl rfl (ac_M.imp (o_X12_bad _ (1 : Int32) (1 : Int32) (1 : Int32) H) ?_)
    rintro _ _ ⟨r23, s23, rfl, rfl, H⟩
    refine ax_if_eq (pc' := 29) (tgt := 31) dX12_told_26 (by decide) rfl (fun hc26 => ?_) (fun hc26 => ?_)
    · have H := H.1 hc26
      refine ax_iconst (pc' := 32) (v := (0 : Int32)) dX12_told_31 (by decide) rfl ?_
      refine ax_istore_n (pc' := 33) dX12_told_32 rfl rfl rfl ?_
      refine ax_iconst (pc' := 34) (v := (0 : Int32)) dX12_told_33 (by decide) rfl ?_
      refine ax_istore_n (pc' := 35) dX12_told_34 rfl rfl rfl ?_
      refine ol_X12_told_35 d p1  _    H
    · have H := H.2 hc26
      refine ax_iconst (pc' := 30) (v := (0 : Int32)) dX12_told_29 (by decide) rfl ?_
      exact ax_iret dX12_told_30 rfl rfl rfl ⟨_, _, rfl, rfl, H⟩
theorem o_X12_isFolk {g : ac_G} {τ : Nat → Nat → Int64} (d : Nat) (p1 : Int32) {Q : Int32 → ac_m → Prop} {s : ac_m} (H : w_X12_isFolk p1 Q s) : ac_M g i_X12_isFolk (d + 1) 0 0 [.ref 69, .int p1] (false, 586, SH, s, τ) (liI τ Q) := by
  refine ac_ofX (by decide +kernel) rfl rfl rfl ?_
  refine ax_iload_n (pc' := 1) dX12_isFolk_0 rfl rfl ?_
  refine ax_iconst (pc' := 2) (v := (0 : Int32)) dX12_isFolk_1 (by decide) rfl ?_
  refine ax_aload_n (pc' := 3) dX12_isFolk_2 rfl rfl ?_
  refine ax_getR (pc' := 6) dX12_isFolk_3 fl_X12_23 sh_69 rfl rfl rfl ?_
  refine ax_iconst (pc' := 7) (v := (0 : Int32)) dX12_isFolk_6 (by decide) rfl ?_
  refine ax_iald (pc' := 8) dX12_isFolk_7 sh_73 (ac_in (by decide)) rfl rfl ?_
  refine ax_iconst (pc' := 9) (v := (1 : Int32)) dX12_isFolk_8 (by decide) rfl ?_
  refine ax_isub (pc' := 10) dX12_isFolk_9 rfl ?_
  refine ay_S3 (pc' := 13) (ce' := 0) (sl' := 0) (mc2 := 0) (ms2 := 0) (I2 := i_X12_in) dX12_isFolk_10 ml_X12_138 rfl rfl rfl rfl rfl rfl rfl rfl (ac_M.imp (o_X12_in _ p1 (0 : Int32) ((s 73 (0 : Int32).toNatClampNeg) - (1 : Int32)) H) ?_)
  rintro _ _ ⟨r10, s10, rfl, rfl, H⟩
  obtain ⟨hb, H⟩ := H
  exact ax_zret dX12_isFolk_13 rfl hb rfl rfl ⟨_, _, rfl, rfl, H⟩
theorem o_X12_isBeast {g : ac_G} {τ : Nat → Nat → Int64} (d : Nat) (p1 : Int32) {Q : Int32 → ac_m → Prop} {s : ac_m} (H : w_X12_isBeast p1 Q s) : ac_M g i_X12_isBeast (d + 1) 0 0 [.ref 69, .int p1] (false, 586, SH, s, τ) (liI τ Q) := by
  refine ac_ofX (by decide +kernel) rfl rfl rfl ?_
  refine ax_iload_n (pc' := 1) dX12_isBeast_0 rfl rfl ?_
  refine ax_iconst (pc' := 2) (v := (0 : Int32)) dX12_isBeast_1 (by decide) rfl ?_
  refine ax_aload_n (pc' := 3) dX12_isBeast_2 rfl rfl ?_
  refine ax_getR (pc' := 6) dX12_isBeast_3 fl_X12_23 sh_69 rfl rfl rfl ?_
  refine ax_iconst (pc' := 7) (v := (1 : Int32)) dX12_isBeast_6 (by decide) rfl ?_
  refine ax_iald (pc' := 8) dX12_isBeast_7 sh_73 (ac_in (by decide)) rfl rfl ?_
  refine ax_iconst (pc' := 9) (v := (1 : Int32)) dX12_isBeast_8 (by decide) rfl ?_
  refine ax_isub (pc' := 10) dX12_isBeast_9 rfl ?_
  refine ay_S3 (pc' := 13) (ce' := 0) (sl' := 0) (mc2 := 0) (ms2 := 0) (I2 := i_X12_in) dX12_isBeast_10 ml_X12_138 rfl rfl rfl rfl rfl rfl rfl rfl (ac_M.imp (o_X12_in _ p1 (0 : Int32) ((s 73 (1 : Int32).toNatClampNeg) - (1 : Int32)) H) ?_)
  rintro _ _ ⟨r10, s10, rfl, rfl, H⟩
  obtain ⟨hb, H⟩ := H
  exact ax_zret dX12_isBeast_13 rfl hb rfl rfl ⟨_, _, rfl, rfl, H⟩
theorem ol_X12_sideOf_5 {g : ac_G} {τ : Nat → Nat → Int64} (d : Nat) (p1 : Int32) (p2 : Int32) {Q : Int32 → ac_m → Prop}  (f1 : Int32) (f2 : Int32)  {x3 : Int32} {x4 : Int32} {s : ac_m} (H : l_X12_sideOf_5 p1 p2 Q  f1 f2  x3 x4 s) : ac_X g i_X12_sideOf (d + 1) 0 0 (liI τ Q) 0 0 5 [some (.ref 69), some (.int f1), some (.int f2), some (.int x3), some (.int x4)] [] (false, 586, SH, s, τ) := by
  refine H (fun x3 x4 s => ac_X g i_X12_sideOf (d + 1) 0 0 (liI τ Q) 0 0 5 [some (.ref 69), some (.int f1), some (.int f2), some (.int x3), some (.int x4)] [] (false, 586, SH, s, τ)) ?_
  intro x3 x4 s H
  refine ax_iload (pc' := 7) dX12_sideOf_5 rfl rfl ?_
  refine ax_aload_n (pc' := 8) dX12_sideOf_7 rfl rfl ?_
  refine ax_getR (pc' := 11) dX12_sideOf_8 fl_X12_23 sh_69 rfl rfl rfl ?_
  refine ax_iconst (pc' := 12) (v := (1 : Int32)) dX12_sideOf_11 (by decide) rfl ?_
  refine ax_iald (pc' := 13) dX12_sideOf_12 sh_73 (ac_in (by decide)) rfl rfl ?_
  refine ax_icmp_ge (pc' := 16) (tgt := 58) dX12_sideOf_13 (by decide) rfl (fun hc13 => ?_) (fun hc13 => ?_)
  · have H := H.1 hc13
    refine ax_iload_n (pc' := 59) dX12_sideOf_58 rfl rfl ?_
    exact ax_iret dX12_sideOf_59 rfl rfl rfl ⟨_, _, rfl, rfl, H⟩
  · have H := H.2 hc13
    refine ax_iload_n (pc' := 17) dX12_sideOf_16 rfl rfl ?_
    refine ax_aload_n (pc' := 18) dX12_sideOf_17 rfl rfl ?_
    refine ax_getR (pc' := 21) dX12_sideOf_18 fl_X12_67 sh_69 rfl rfl rfl ?_
    refine ax_iload (pc' := 23) dX12_sideOf_21 rfl rfl ?_
    refine ay_S2 (pc' := 26) (ce' := 0) (sl' := 0) (mc2 := 0) (ms2 := 0) (I2 := i_X12_isThere) dX12_sideOf_23 ml_X12_273 rfl rfl rfl rfl rfl rfl rfl rfl (ac_M.imp (o_X12_isThere _ 556 x4 sh_556 rfl H) ?_)
    rintro _ _ ⟨r23, s23, rfl, rfl, H⟩
    refine ax_if_eq (pc' := 29) (tgt := 49) dX12_sideOf_26 (by decide) rfl (fun hc26 => ?_) (fun hc26 => ?_)
    · have H := H.1 hc26
      refine ax_iconst (pc' := 50) (v := (0 : Int32)) dX12_sideOf_49 (by decide) rfl ?_
      refine ax_ior (pc' := 51) dX12_sideOf_50 rfl ?_
      refine ax_istore_n (pc' := 52) dX12_sideOf_51 rfl rfl rfl ?_
      refine ax_iinc (pc' := 55) (v := (x4 + (1 : Int32))) dX12_sideOf_52 rfl rfl rfl rfl rfl ?_
      refine ax_goto (tgt := 5) dX12_sideOf_55 (by decide) ?_
      exact H
    · have H := H.2 hc26
      refine ax_aload_n (pc' := 30) dX12_sideOf_29 rfl rfl ?_
      refine ax_getR (pc' := 33) dX12_sideOf_30 fl_X12_37 sh_69 rfl rfl rfl ?_
      refine ax_iload (pc' := 35) dX12_sideOf_33 rfl rfl ?_
      obtain ⟨hj35, H⟩ := H
      refine ax_aald (pc' := 36) dX12_sideOf_35 sh_101 hj35 rfl rfl ?_
      refine ax_iload_n (pc' := 37) dX12_sideOf_36 rfl rfl ?_
      obtain ⟨hj37, H⟩ := H
      refine ax_iald (pc' := 38) dX12_sideOf_37 (sh_r_102 _ (ac_lt hj35)) hj37 (sh_n_102 _ (ac_lt hj35)) rfl ?_
      refine ax_iload_n (pc' := 39) dX12_sideOf_38 rfl rfl ?_
      refine ax_icmp_ne (pc' := 42) (tgt := 49) dX12_sideOf_39 (by decide) rfl (fun hc39 => ?_) (fun hc39 => ?_)
      · have H := H.1 hc39
        refine ax_iconst (pc' := 50) (v := (0 : Int32)) dX12_sideOf_49 (by decide) rfl ?_
        refine ax_ior (pc' := 51) dX12_sideOf_50 rfl ?_
        refine ax_istore_n (pc' := 52) dX12_sideOf_51 rfl rfl rfl ?_
        refine ax_iinc (pc' := 55) (v := (x4 + (1 : Int32))) dX12_sideOf_52 rfl rfl rfl rfl rfl ?_
        refine ax_goto (tgt := 5) dX12_sideOf_55 (by decide) ?_
        exact H
      · have H := H.2 hc39
        refine ax_iconst (pc' := 43) (v := (1 : Int32)) dX12_sideOf_42 (by decide) rfl ?_
        refine ax_iload (pc' := 45) dX12_sideOf_43 rfl rfl ?_
        refine ax_ishl (pc' := 46) dX12_sideOf_45 rfl ?_
        refine ax_goto (tgt := 50) dX12_sideOf_46 (by decide) ?_
        refine ax_ior (pc' := 51) dX12_sideOf_50 rfl ?_
        refine ax_istore_n (pc' := 52) dX12_sideOf_51 rfl rfl rfl ?_
        refine ax_iinc (pc' := 55) (v := (x4 + (1 : Int32))) dX12_sideOf_52 rfl rfl rfl rfl rfl ?_
        refine ax_goto (tgt := 5) dX12_sideOf_55 (by decide) ?_
        exact H
theorem o_X12_sideOf {g : ac_G} {τ : Nat → Nat → Int64} (d : Nat) (p1 : Int32) (p2 : Int32) {Q : Int32 → ac_m → Prop} {s : ac_m} (H : w_X12_sideOf p1 p2 Q s) : ac_M g i_X12_sideOf (d + 1) 0 0 [.ref 69, .int p1, .int p2] (false, 586, SH, s, τ) (liI τ Q) := by
  refine ac_ofX (by decide +kernel) rfl rfl rfl ?_
  refine ax_iconst (pc' := 1) (v := (0 : Int32)) dX12_sideOf_0 (by decide) rfl ?_
  refine ax_istore_n (pc' := 2) dX12_sideOf_1 rfl rfl rfl ?_
  refine ax_iconst (pc' := 3) (v := (0 : Int32)) dX12_sideOf_2 (by decide) rfl ?_
  refine ax_istore (pc' := 5) dX12_sideOf_3 rfl rfl rfl ?_
  refine ol_X12_sideOf_5 d p1 p2  _ _    H
theorem o_X12_folk {g : ac_G} {τ : Nat → Nat → Int64} (d : Nat) (p1 : Int32) (p2 : Int32) {Q : Int32 → ac_m → Prop} {s : ac_m} (H : w_X12_folk p1 p2 Q s) : ac_M g i_X12_folk (d + 6) 0 0 [.ref 69, .int p1, .int p2] (false, 586, SH, s, τ) (liI τ Q) := by
  refine ac_ofX (by decide +kernel) rfl rfl rfl ?_
  refine ax_aload_n (pc' := 1) dX12_folk_0 rfl rfl ?_
  refine ax_iconst (pc' := 2) (v := (0 : Int32)) dX12_folk_1 (by decide) rfl ?_
  refine ax_putI (pc' := 5) dX12_folk_2 fp_X12_104 sh_69 rfl rfl rfl ?_
  refine ax_aload_n (pc' := 6) dX12_folk_5 rfl rfl ?_
  refine ax_aload_n (pc' := 7) dX12_folk_6 rfl rfl ?_
  refine ax_iload_n (pc' := 8) dX12_folk_7 rfl rfl ?_
  refine ay_V1 (pc' := 11) (ce' := 0) (sl' := 0) (mc2 := 0) (ms2 := 0) (I2 := i_X12_isFolk) dX12_folk_8 ml_X12_348 sh_69 (by decide) rfl rfl rfl rfl rfl rfl rfl rfl rfl (ac_M.imp (o_X12_isFolk _ p1 H) ?_)
  rintro _ _ ⟨r8, s8, rfl, rfl, H⟩
  refine ax_if_ne (pc' := 14) (tgt := 18) dX12_folk_11 (by decide) rfl (fun hc11 => ?_) (fun hc11 => ?_)
  · have H := H.1 hc11
    refine ax_iconst (pc' := 19) (v := (0 : Int32)) dX12_folk_18 (by decide) rfl ?_
    refine ax_iconst (pc' := 20) (v := (1 : Int32)) dX12_folk_19 (by decide) rfl ?_
    refine ax_iconst (pc' := 21) (v := (0 : Int32)) dX12_folk_20 (by decide) rfl ?_
    refine ay_V3 (pc' := 24) (ce' := 0) (sl' := 0) (mc2 := 0) (ms2 := 0) (I2 := i_X12_bad) dX12_folk_21 ml_X12_183 sh_69 (by decide) rfl rfl rfl rfl rfl rfl rfl rfl rfl (ac_M.imp (o_X12_bad _ (0 : Int32) (1 : Int32) (0 : Int32) H) ?_)
    rintro _ _ ⟨r21, s21, rfl, rfl, H⟩
    refine ax_if_ne (pc' := 27) (tgt := 50) dX12_folk_24 (by decide) rfl (fun hc24 => ?_) (fun hc24 => ?_)
    · have H := H.1 hc24
      refine ax_iconst (pc' := 51) (v := (0 : Int32)) dX12_folk_50 (by decide) rfl ?_
      exact ax_iret dX12_folk_51 rfl rfl rfl ⟨_, _, rfl, rfl, H⟩
    · have H := H.2 hc24
      refine ax_aload_n (pc' := 28) dX12_folk_27 rfl rfl ?_
      refine ax_iload_n (pc' := 29) dX12_folk_28 rfl rfl ?_
      refine ax_iconst (pc' := 30) (v := (0 : Int32)) dX12_folk_29 (by decide) rfl ?_
      refine ax_iconst (pc' := 31) (v := (5 : Int32)) dX12_folk_30 (by decide) rfl ?_
      refine ay_S3 (pc' := 34) (ce' := 0) (sl' := 0) (mc2 := 0) (ms2 := 0) (I2 := i_X12_in) dX12_folk_31 ml_X12_138 rfl rfl rfl rfl rfl rfl rfl rfl (ac_M.imp (o_X12_in _ p2 (0 : Int32) (5 : Int32) H) ?_)
      rintro _ _ ⟨r31, s31, rfl, rfl, H⟩
      refine ax_if_ne (pc' := 37) (tgt := 41) dX12_folk_34 (by decide) rfl (fun hc34 => ?_) (fun hc34 => ?_)
      · have H := H.1 hc34
        refine ax_iconst (pc' := 42) (v := (0 : Int32)) dX12_folk_41 (by decide) rfl ?_
        refine ax_iconst (pc' := 43) (v := (2 : Int32)) dX12_folk_42 (by decide) rfl ?_
        refine ax_iconst (pc' := 44) (v := (1 : Int32)) dX12_folk_43 (by decide) rfl ?_
        refine ay_V3 (pc' := 47) (ce' := 0) (sl' := 0) (mc2 := 0) (ms2 := 0) (I2 := i_X12_bad) dX12_folk_44 ml_X12_183 sh_69 (by decide) rfl rfl rfl rfl rfl rfl rfl rfl rfl (ac_M.imp (o_X12_bad _ (0 : Int32) (2 : Int32) (1 : Int32) H) ?_)
        rintro _ _ ⟨r44, s44, rfl, rfl, H⟩
        refine ax_if_eq (pc' := 50) (tgt := 52) dX12_folk_47 (by decide) rfl (fun hc47 => ?_) (fun hc47 => ?_)
        · have H := H.1 hc47
          refine ax_iload_n (pc' := 53) dX12_folk_52 rfl rfl ?_
          by_cases hk53_0 : p2 = (0 : Int32)
          · have H := H.1 hk53_0
            refine ax_tableIn (off := (35)) (tgt := 88) dX12_folk_53 (by rw [hk53_0]; decide) (by rw [hk53_0]; decide) (by rw [hk53_0]; rfl) (by decide) ?_
            refine ax_aload_n (pc' := 89) dX12_folk_88 rfl rfl ?_
            refine ax_getR (pc' := 92) dX12_folk_89 fl_X12_67 sh_69 rfl rfl rfl ?_
            refine ax_bipush (pc' := 94) (v := (39 : Int32)) dX12_folk_92 (by decide) rfl ?_
            refine ax_iload_n (pc' := 95) dX12_folk_94 rfl rfl ?_
            refine ax_iadd (pc' := 96) dX12_folk_95 rfl ?_
            obtain ⟨hj96, H⟩ := H
            refine ax_iald (pc' := 97) dX12_folk_96 sh_556 hj96 rfl rfl ?_
            exact ax_iret dX12_folk_97 rfl rfl rfl ⟨_, _, rfl, rfl, H⟩
          have H := H.2
          by_cases hk53_1 : p2 = (1 : Int32)
          · have H := H.1 hk53_1
            refine ax_tableIn (off := (45)) (tgt := 98) dX12_folk_53 (by rw [hk53_1]; decide) (by rw [hk53_1]; decide) (by rw [hk53_1]; rfl) (by decide) ?_
            refine ax_aload_n (pc' := 99) dX12_folk_98 rfl rfl ?_
            refine ax_getR (pc' := 102) dX12_folk_99 fl_X12_31 sh_69 rfl rfl rfl ?_
            refine ax_iload_n (pc' := 103) dX12_folk_102 rfl rfl ?_
            obtain ⟨hj103, H⟩ := H
            refine ax_aald (pc' := 104) dX12_folk_103 sh_81 hj103 rfl rfl ?_
            refine ax_iconst (pc' := 105) (v := (1 : Int32)) dX12_folk_104 (by decide) rfl ?_
            refine ax_iald (pc' := 106) dX12_folk_105 (sh_r_82 _ (ac_lt hj103)) (ac_in (by decide)) (sh_n_82 _ (ac_lt hj103)) rfl ?_
            exact ax_iret dX12_folk_106 rfl rfl rfl ⟨_, _, rfl, rfl, H⟩
          have H := H.2
          by_cases hk53_2 : p2 = (2 : Int32)
          · have H := H.1 hk53_2
            refine ax_tableIn (off := (54)) (tgt := 107) dX12_folk_53 (by rw [hk53_2]; decide) (by rw [hk53_2]; decide) (by rw [hk53_2]; rfl) (by decide) ?_
            refine ax_aload_n (pc' := 108) dX12_folk_107 rfl rfl ?_
            refine ax_getR (pc' := 111) dX12_folk_108 fl_X12_67 sh_69 rfl rfl rfl ?_
            refine ax_iload_n (pc' := 112) dX12_folk_111 rfl rfl ?_
            refine ay_S2 (pc' := 115) (ce' := 0) (sl' := 0) (mc2 := 0) (ms2 := 0) (I2 := i_X12_onOne) dX12_folk_112 ml_X12_277 rfl rfl rfl rfl rfl rfl rfl rfl (ac_M.imp (o_X12_onOne _ 556 p1 sh_556 rfl H) ?_)
            rintro _ _ ⟨r112, s112, rfl, rfl, H⟩
            exact ax_iret dX12_folk_115 rfl rfl rfl ⟨_, _, rfl, rfl, H⟩
          have H := H.2
          by_cases hk53_3 : p2 = (3 : Int32)
          · have H := H.1 hk53_3
            refine ax_tableIn (off := (63)) (tgt := 116) dX12_folk_53 (by rw [hk53_3]; decide) (by rw [hk53_3]; decide) (by rw [hk53_3]; rfl) (by decide) ?_
            refine ax_aload_n (pc' := 117) dX12_folk_116 rfl rfl ?_
            refine ax_iload_n (pc' := 118) dX12_folk_117 rfl rfl ?_
            refine ax_iconst (pc' := 119) (v := (0 : Int32)) dX12_folk_118 (by decide) rfl ?_
            refine ay_V2 (pc' := 122) (ce' := 0) (sl' := 0) (mc2 := 0) (ms2 := 0) (I2 := i_X12_sideOf) dX12_folk_119 ml_X12_351 sh_69 (by decide) rfl rfl rfl rfl rfl rfl rfl rfl rfl (ac_M.imp (o_X12_sideOf _ p1 (0 : Int32) H) ?_)
            rintro _ _ ⟨r119, s119, rfl, rfl, H⟩
            exact ax_iret dX12_folk_122 rfl rfl rfl ⟨_, _, rfl, rfl, H⟩
          have H := H.2
          by_cases hk53_4 : p2 = (4 : Int32)
          · have H := H.1 hk53_4
            refine ax_tableIn (off := (70)) (tgt := 123) dX12_folk_53 (by rw [hk53_4]; decide) (by rw [hk53_4]; decide) (by rw [hk53_4]; rfl) (by decide) ?_
            refine ax_aload_n (pc' := 124) dX12_folk_123 rfl rfl ?_
            refine ax_iload_n (pc' := 125) dX12_folk_124 rfl rfl ?_
            refine ax_iconst (pc' := 126) (v := (1 : Int32)) dX12_folk_125 (by decide) rfl ?_
            refine ay_V2 (pc' := 129) (ce' := 0) (sl' := 0) (mc2 := 0) (ms2 := 0) (I2 := i_X12_sideOf) dX12_folk_126 ml_X12_351 sh_69 (by decide) rfl rfl rfl rfl rfl rfl rfl rfl rfl (ac_M.imp (o_X12_sideOf _ p1 (1 : Int32) H) ?_)
            rintro _ _ ⟨r126, s126, rfl, rfl, H⟩
            exact ax_iret dX12_folk_129 rfl rfl rfl ⟨_, _, rfl, rfl, H⟩
          have H := H.2
          have H := H ⟨hk53_0, hk53_1, hk53_2, hk53_3, hk53_4⟩
          have hq0 : p2.toInt ≠ 0 := ac_ne hk53_0
          have hq1 : p2.toInt ≠ 1 := ac_ne hk53_1
          have hq2 : p2.toInt ≠ 2 := ac_ne hk53_2
          have hq3 : p2.toInt ≠ 3 := ac_ne hk53_3
          have hq4 : p2.toInt ≠ 4 := ac_ne hk53_4
          refine ax_tableOut (tgt := 130) dX12_folk_53 (by omega) (by decide) ?_
          refine ax_aload_n (pc' := 131) dX12_folk_130 rfl rfl ?_
          refine ax_aload_n (pc' := 132) dX12_folk_131 rfl rfl ?_
          refine ax_getR (pc' := 135) dX12_folk_132 fl_X12_67 sh_69 rfl rfl rfl ?_
          refine ax_iload_n (pc' := 136) dX12_folk_135 rfl rfl ?_
          refine ay_S2 (pc' := 139) (ce' := 0) (sl' := 0) (mc2 := 0) (ms2 := 0) (I2 := i_X12_onOne) dX12_folk_136 ml_X12_277 rfl rfl rfl rfl rfl rfl rfl rfl (ac_M.imp (o_X12_onOne _ 556 p1 sh_556 rfl H) ?_)
          rintro _ _ ⟨r136, s136, rfl, rfl, H⟩
          refine ay_V1 (pc' := 142) (ce' := 0) (sl' := 0) (mc2 := 0) (ms2 := 0) (I2 := i_X12_eaten) dX12_folk_139 ml_X12_345 sh_69 (by decide) rfl rfl rfl rfl rfl rfl rfl rfl rfl (ac_M.imp (o_X12_eaten _ r136 H) ?_)
          rintro _ _ ⟨r139, s139, rfl, rfl, H⟩
          exact ax_iret dX12_folk_142 rfl rfl rfl ⟨_, _, rfl, rfl, H⟩
        · have H := H.2 hc47
          refine ax_iconst (pc' := 51) (v := (0 : Int32)) dX12_folk_50 (by decide) rfl ?_
          exact ax_iret dX12_folk_51 rfl rfl rfl ⟨_, _, rfl, rfl, H⟩
      · have H := H.2 hc34
        refine ax_iconst (pc' := 38) (v := (1 : Int32)) dX12_folk_37 (by decide) rfl ?_
        refine ax_goto (tgt := 42) dX12_folk_38 (by decide) ?_
        refine ax_iconst (pc' := 43) (v := (2 : Int32)) dX12_folk_42 (by decide) rfl ?_
        refine ax_iconst (pc' := 44) (v := (1 : Int32)) dX12_folk_43 (by decide) rfl ?_
        refine ay_V3 (pc' := 47) (ce' := 0) (sl' := 0) (mc2 := 0) (ms2 := 0) (I2 := i_X12_bad) dX12_folk_44 ml_X12_183 sh_69 (by decide) rfl rfl rfl rfl rfl rfl rfl rfl rfl (ac_M.imp (o_X12_bad _ (1 : Int32) (2 : Int32) (1 : Int32) H) ?_)
        rintro _ _ ⟨r44, s44, rfl, rfl, H⟩
        refine ax_if_eq (pc' := 50) (tgt := 52) dX12_folk_47 (by decide) rfl (fun hc47 => ?_) (fun hc47 => ?_)
        · have H := H.1 hc47
          refine ax_iload_n (pc' := 53) dX12_folk_52 rfl rfl ?_
          by_cases hk53_0 : p2 = (0 : Int32)
          · have H := H.1 hk53_0
            refine ax_tableIn (off := (35)) (tgt := 88) dX12_folk_53 (by rw [hk53_0]; decide) (by rw [hk53_0]; decide) (by rw [hk53_0]; rfl) (by decide) ?_
            refine ax_aload_n (pc' := 89) dX12_folk_88 rfl rfl ?_
            refine ax_getR (pc' := 92) dX12_folk_89 fl_X12_67 sh_69 rfl rfl rfl ?_
            refine ax_bipush (pc' := 94) (v := (39 : Int32)) dX12_folk_92 (by decide) rfl ?_
            refine ax_iload_n (pc' := 95) dX12_folk_94 rfl rfl ?_
            refine ax_iadd (pc' := 96) dX12_folk_95 rfl ?_
            obtain ⟨hj96, H⟩ := H
            refine ax_iald (pc' := 97) dX12_folk_96 sh_556 hj96 rfl rfl ?_
            exact ax_iret dX12_folk_97 rfl rfl rfl ⟨_, _, rfl, rfl, H⟩
          have H := H.2
          by_cases hk53_1 : p2 = (1 : Int32)
          · have H := H.1 hk53_1
            refine ax_tableIn (off := (45)) (tgt := 98) dX12_folk_53 (by rw [hk53_1]; decide) (by rw [hk53_1]; decide) (by rw [hk53_1]; rfl) (by decide) ?_
            refine ax_aload_n (pc' := 99) dX12_folk_98 rfl rfl ?_
            refine ax_getR (pc' := 102) dX12_folk_99 fl_X12_31 sh_69 rfl rfl rfl ?_
            refine ax_iload_n (pc' := 103) dX12_folk_102 rfl rfl ?_
            obtain ⟨hj103, H⟩ := H
            refine ax_aald (pc' := 104) dX12_folk_103 sh_81 hj103 rfl rfl ?_
            refine ax_iconst (pc' := 105) (v := (1 : Int32)) dX12_folk_104 (by decide) rfl ?_
            refine ax_iald (pc' := 106) dX12_folk_105 (sh_r_82 _ (ac_lt hj103)) (ac_in (by decide)) (sh_n_82 _ (ac_lt hj103)) rfl ?_
            exact ax_iret dX12_folk_106 rfl rfl rfl ⟨_, _, rfl, rfl, H⟩
          have H := H.2
          by_cases hk53_2 : p2 = (2 : Int32)
          · have H := H.1 hk53_2
            refine ax_tableIn (off := (54)) (tgt := 107) dX12_folk_53 (by rw [hk53_2]; decide) (by rw [hk53_2]; decide) (by rw [hk53_2]; rfl) (by decide) ?_
            refine ax_aload_n (pc' := 108) dX12_folk_107 rfl rfl ?_
            refine ax_getR (pc' := 111) dX12_folk_108 fl_X12_67 sh_69 rfl rfl rfl ?_
            refine ax_iload_n (pc' := 112) dX12_folk_111 rfl rfl ?_
            refine ay_S2 (pc' := 115) (ce' := 0) (sl' := 0) (mc2 := 0) (ms2 := 0) (I2 := i_X12_onOne) dX12_folk_112 ml_X12_277 rfl rfl rfl rfl rfl rfl rfl rfl (ac_M.imp (o_X12_onOne _ 556 p1 sh_556 rfl H) ?_)
            rintro _ _ ⟨r112, s112, rfl, rfl, H⟩
            exact ax_iret dX12_folk_115 rfl rfl rfl ⟨_, _, rfl, rfl, H⟩
          have H := H.2
          by_cases hk53_3 : p2 = (3 : Int32)
          · have H := H.1 hk53_3
            refine ax_tableIn (off := (63)) (tgt := 116) dX12_folk_53 (by rw [hk53_3]; decide) (by rw [hk53_3]; decide) (by rw [hk53_3]; rfl) (by decide) ?_
            refine ax_aload_n (pc' := 117) dX12_folk_116 rfl rfl ?_
            refine ax_iload_n (pc' := 118) dX12_folk_117 rfl rfl ?_
            refine ax_iconst (pc' := 119) (v := (0 : Int32)) dX12_folk_118 (by decide) rfl ?_
            refine ay_V2 (pc' := 122) (ce' := 0) (sl' := 0) (mc2 := 0) (ms2 := 0) (I2 := i_X12_sideOf) dX12_folk_119 ml_X12_351 sh_69 (by decide) rfl rfl rfl rfl rfl rfl rfl rfl rfl (ac_M.imp (o_X12_sideOf _ p1 (0 : Int32) H) ?_)
            rintro _ _ ⟨r119, s119, rfl, rfl, H⟩
            exact ax_iret dX12_folk_122 rfl rfl rfl ⟨_, _, rfl, rfl, H⟩
          have H := H.2
          by_cases hk53_4 : p2 = (4 : Int32)
          · have H := H.1 hk53_4
            refine ax_tableIn (off := (70)) (tgt := 123) dX12_folk_53 (by rw [hk53_4]; decide) (by rw [hk53_4]; decide) (by rw [hk53_4]; rfl) (by decide) ?_
            refine ax_aload_n (pc' := 124) dX12_folk_123 rfl rfl ?_
            refine ax_iload_n (pc' := 125) dX12_folk_124 rfl rfl ?_
            refine ax_iconst (pc' := 126) (v := (1 : Int32)) dX12_folk_125 (by decide) rfl ?_
            refine ay_V2 (pc' := 129) (ce' := 0) (sl' := 0) (mc2 := 0) (ms2 := 0) (I2 := i_X12_sideOf) dX12_folk_126 ml_X12_351 sh_69 (by decide) rfl rfl rfl rfl rfl rfl rfl rfl rfl (ac_M.imp (o_X12_sideOf _ p1 (1 : Int32) H) ?_)
            rintro _ _ ⟨r126, s126, rfl, rfl, H⟩
            exact ax_iret dX12_folk_129 rfl rfl rfl ⟨_, _, rfl, rfl, H⟩
          have H := H.2
          have H := H ⟨hk53_0, hk53_1, hk53_2, hk53_3, hk53_4⟩
          have hq0 : p2.toInt ≠ 0 := ac_ne hk53_0
          have hq1 : p2.toInt ≠ 1 := ac_ne hk53_1
          have hq2 : p2.toInt ≠ 2 := ac_ne hk53_2
          have hq3 : p2.toInt ≠ 3 := ac_ne hk53_3
          have hq4 : p2.toInt ≠ 4 := ac_ne hk53_4
          refine ax_tableOut (tgt := 130) dX12_folk_53 (by omega) (by decide) ?_
          refine ax_aload_n (pc' := 131) dX12_folk_130 rfl rfl ?_
          refine ax_aload_n (pc' := 132) dX12_folk_131 rfl rfl ?_
          refine ax_getR (pc' := 135) dX12_folk_132 fl_X12_67 sh_69 rfl rfl rfl ?_
          refine ax_iload_n (pc' := 136) dX12_folk_135 rfl rfl ?_
          refine ay_S2 (pc' := 139) (ce' := 0) (sl' := 0) (mc2 := 0) (ms2 := 0) (I2 := i_X12_onOne) dX12_folk_136 ml_X12_277 rfl rfl rfl rfl rfl rfl rfl rfl (ac_M.imp (o_X12_onOne _ 556 p1 sh_556 rfl H) ?_)
          rintro _ _ ⟨r136, s136, rfl, rfl, H⟩
          refine ay_V1 (pc' := 142) (ce' := 0) (sl' := 0) (mc2 := 0) (ms2 := 0) (I2 := i_X12_eaten) dX12_folk_139 ml_X12_345 sh_69 (by decide) rfl rfl rfl rfl rfl rfl rfl rfl rfl (ac_M.imp (o_X12_eaten _ r136 H) ?_)
          rintro _ _ ⟨r139, s139, rfl, rfl, H⟩
          exact ax_iret dX12_folk_142 rfl rfl rfl ⟨_, _, rfl, rfl, H⟩
        · have H := H.2 hc47
          refine ax_iconst (pc' := 51) (v := (0 : Int32)) dX12_folk_50 (by decide) rfl ?_
          exact ax_iret dX12_folk_51 rfl rfl rfl ⟨_, _, rfl, rfl, H⟩
  · have H := H.2 hc11
    refine ax_iconst (pc' := 15) (v := (1 : Int32)) dX12_folk_14 (by decide) rfl ?_
    refine ax_goto (tgt := 19) dX12_folk_15 (by decide) ?_
    refine ax_iconst (pc' := 20) (v := (1 : Int32)) dX12_folk_19 (by decide) rfl ?_
    refine ax_iconst (pc' := 21) (v := (0 : Int32)) dX12_folk_20 (by decide) rfl ?_
    refine ay_V3 (pc' := 24) (ce' := 0) (sl' := 0) (mc2 := 0) (ms2 := 0) (I2 := i_X12_bad) dX12_folk_21 ml_X12_183 sh_69 (by decide) rfl rfl rfl rfl rfl rfl rfl rfl rfl (ac_M.imp (o_X12_bad _ (1 : Int32) (1 : Int32) (0 : Int32) H) ?_)
    rintro _ _ ⟨r21, s21, rfl, rfl, H⟩
    refine ax_if_ne (pc' := 27) (tgt := 50) dX12_folk_24 (by decide) rfl (fun hc24 => ?_) (fun hc24 => ?_)
    · have H := H.1 hc24
      refine ax_iconst (pc' := 51) (v := (0 : Int32)) dX12_folk_50 (by decide) rfl ?_
      exact ax_iret dX12_folk_51 rfl rfl rfl ⟨_, _, rfl, rfl, H⟩
    · have H := H.2 hc24
      refine ax_aload_n (pc' := 28) dX12_folk_27 rfl rfl ?_
      refine ax_iload_n (pc' := 29) dX12_folk_28 rfl rfl ?_
      refine ax_iconst (pc' := 30) (v := (0 : Int32)) dX12_folk_29 (by decide) rfl ?_
      refine ax_iconst (pc' := 31) (v := (5 : Int32)) dX12_folk_30 (by decide) rfl ?_
      refine ay_S3 (pc' := 34) (ce' := 0) (sl' := 0) (mc2 := 0) (ms2 := 0) (I2 := i_X12_in) dX12_folk_31 ml_X12_138 rfl rfl rfl rfl rfl rfl rfl rfl (ac_M.imp (o_X12_in _ p2 (0 : Int32) (5 : Int32) H) ?_)
      rintro _ _ ⟨r31, s31, rfl, rfl, H⟩
      refine ax_if_ne (pc' := 37) (tgt := 41) dX12_folk_34 (by decide) rfl (fun hc34 => ?_) (fun hc34 => ?_)
      · have H := H.1 hc34
        refine ax_iconst (pc' := 42) (v := (0 : Int32)) dX12_folk_41 (by decide) rfl ?_
        refine ax_iconst (pc' := 43) (v := (2 : Int32)) dX12_folk_42 (by decide) rfl ?_
        refine ax_iconst (pc' := 44) (v := (1 : Int32)) dX12_folk_43 (by decide) rfl ?_
        refine ay_V3 (pc' := 47) (ce' := 0) (sl' := 0) (mc2 := 0) (ms2 := 0) (I2 := i_X12_bad) dX12_folk_44 ml_X12_183 sh_69 (by decide) rfl rfl rfl rfl rfl rfl rfl rfl rfl (ac_M.imp (o_X12_bad _ (0 : Int32) (2 : Int32) (1 : Int32) H) ?_)
        rintro _ _ ⟨r44, s44, rfl, rfl, H⟩
        refine ax_if_eq (pc' := 50) (tgt := 52) dX12_folk_47 (by decide) rfl (fun hc47 => ?_) (fun hc47 => ?_)
        · have H := H.1 hc47
          refine ax_iload_n (pc' := 53) dX12_folk_52 rfl rfl ?_
          by_cases hk53_0 : p2 = (0 : Int32)
          · have H := H.1 hk53_0
            refine ax_tableIn (off := (35)) (tgt := 88) dX12_folk_53 (by rw [hk53_0]; decide) (by rw [hk53_0]; decide) (by rw [hk53_0]; rfl) (by decide) ?_
            refine ax_aload_n (pc' := 89) dX12_folk_88 rfl rfl ?_
            refine ax_getR (pc' := 92) dX12_folk_89 fl_X12_67 sh_69 rfl rfl rfl ?_
            refine ax_bipush (pc' := 94) (v := (39 : Int32)) dX12_folk_92 (by decide) rfl ?_
            refine ax_iload_n (pc' := 95) dX12_folk_94 rfl rfl ?_
            refine ax_iadd (pc' := 96) dX12_folk_95 rfl ?_
            obtain ⟨hj96, H⟩ := H
            refine ax_iald (pc' := 97) dX12_folk_96 sh_556 hj96 rfl rfl ?_
            exact ax_iret dX12_folk_97 rfl rfl rfl ⟨_, _, rfl, rfl, H⟩
          have H := H.2
          by_cases hk53_1 : p2 = (1 : Int32)
          · have H := H.1 hk53_1
            refine ax_tableIn (off := (45)) (tgt := 98) dX12_folk_53 (by rw [hk53_1]; decide) (by rw [hk53_1]; decide) (by rw [hk53_1]; rfl) (by decide) ?_
            refine ax_aload_n (pc' := 99) dX12_folk_98 rfl rfl ?_
            refine ax_getR (pc' := 102) dX12_folk_99 fl_X12_31 sh_69 rfl rfl rfl ?_
            refine ax_iload_n (pc' := 103) dX12_folk_102 rfl rfl ?_
            obtain ⟨hj103, H⟩ := H
            refine ax_aald (pc' := 104) dX12_folk_103 sh_81 hj103 rfl rfl ?_
            refine ax_iconst (pc' := 105) (v := (1 : Int32)) dX12_folk_104 (by decide) rfl ?_
            refine ax_iald (pc' := 106) dX12_folk_105 (sh_r_82 _ (ac_lt hj103)) (ac_in (by decide)) (sh_n_82 _ (ac_lt hj103)) rfl ?_
            exact ax_iret dX12_folk_106 rfl rfl rfl ⟨_, _, rfl, rfl, H⟩
          have H := H.2
          by_cases hk53_2 : p2 = (2 : Int32)
          · have H := H.1 hk53_2
            refine ax_tableIn (off := (54)) (tgt := 107) dX12_folk_53 (by rw [hk53_2]; decide) (by rw [hk53_2]; decide) (by rw [hk53_2]; rfl) (by decide) ?_
            refine ax_aload_n (pc' := 108) dX12_folk_107 rfl rfl ?_
            refine ax_getR (pc' := 111) dX12_folk_108 fl_X12_67 sh_69 rfl rfl rfl ?_
            refine ax_iload_n (pc' := 112) dX12_folk_111 rfl rfl ?_
            refine ay_S2 (pc' := 115) (ce' := 0) (sl' := 0) (mc2 := 0) (ms2 := 0) (I2 := i_X12_onOne) dX12_folk_112 ml_X12_277 rfl rfl rfl rfl rfl rfl rfl rfl (ac_M.imp (o_X12_onOne _ 556 p1 sh_556 rfl H) ?_)
            rintro _ _ ⟨r112, s112, rfl, rfl, H⟩
            exact ax_iret dX12_folk_115 rfl rfl rfl ⟨_, _, rfl, rfl, H⟩
          have H := H.2
          by_cases hk53_3 : p2 = (3 : Int32)
          · have H := H.1 hk53_3
            refine ax_tableIn (off := (63)) (tgt := 116) dX12_folk_53 (by rw [hk53_3]; decide) (by rw [hk53_3]; decide) (by rw [hk53_3]; rfl) (by decide) ?_
            refine ax_aload_n (pc' := 117) dX12_folk_116 rfl rfl ?_
            refine ax_iload_n (pc' := 118) dX12_folk_117 rfl rfl ?_
            refine ax_iconst (pc' := 119) (v := (0 : Int32)) dX12_folk_118 (by decide) rfl ?_
            refine ay_V2 (pc' := 122) (ce' := 0) (sl' := 0) (mc2 := 0) (ms2 := 0) (I2 := i_X12_sideOf) dX12_folk_119 ml_X12_351 sh_69 (by decide) rfl rfl rfl rfl rfl rfl rfl rfl rfl (ac_M.imp (o_X12_sideOf _ p1 (0 : Int32) H) ?_)
            rintro _ _ ⟨r119, s119, rfl, rfl, H⟩
            exact ax_iret dX12_folk_122 rfl rfl rfl ⟨_, _, rfl, rfl, H⟩
          have H := H.2
          by_cases hk53_4 : p2 = (4 : Int32)
          · have H := H.1 hk53_4
            refine ax_tableIn (off := (70)) (tgt := 123) dX12_folk_53 (by rw [hk53_4]; decide) (by rw [hk53_4]; decide) (by rw [hk53_4]; rfl) (by decide) ?_
            refine ax_aload_n (pc' := 124) dX12_folk_123 rfl rfl ?_
            refine ax_iload_n (pc' := 125) dX12_folk_124 rfl rfl ?_
            refine ax_iconst (pc' := 126) (v := (1 : Int32)) dX12_folk_125 (by decide) rfl ?_
            refine ay_V2 (pc' := 129) (ce' := 0) (sl' := 0) (mc2 := 0) (ms2 := 0) (I2 := i_X12_sideOf) dX12_folk_126 ml_X12_351 sh_69 (by decide) rfl rfl rfl rfl rfl rfl rfl rfl rfl (ac_M.imp (o_X12_sideOf _ p1 (1 : Int32) H) ?_)
            rintro _ _ ⟨r126, s126, rfl, rfl, H⟩
            exact ax_iret dX12_folk_129 rfl rfl rfl ⟨_, _, rfl, rfl, H⟩
          have H := H.2
          have H := H ⟨hk53_0, hk53_1, hk53_2, hk53_3, hk53_4⟩
          have hq0 : p2.toInt ≠ 0 := ac_ne hk53_0
          have hq1 : p2.toInt ≠ 1 := ac_ne hk53_1
          have hq2 : p2.toInt ≠ 2 := ac_ne hk53_2
          have hq3 : p2.toInt ≠ 3 := ac_ne hk53_3
          have hq4 : p2.toInt ≠ 4 := ac_ne hk53_4
          refine ax_tableOut (tgt := 130) dX12_folk_53 (by omega) (by decide) ?_
          refine ax_aload_n (pc' := 131) dX12_folk_130 rfl rfl ?_
          refine ax_aload_n (pc' := 132) dX12_folk_131 rfl rfl ?_
          refine ax_getR (pc' := 135) dX12_folk_132 fl_X12_67 sh_69 rfl rfl rfl ?_
          refine ax_iload_n (pc' := 136) dX12_folk_135 rfl rfl ?_
          refine ay_S2 (pc' := 139) (ce' := 0) (sl' := 0) (mc2 := 0) (ms2 := 0) (I2 := i_X12_onOne) dX12_folk_136 ml_X12_277 rfl rfl rfl rfl rfl rfl rfl rfl (ac_M.imp (o_X12_onOne _ 556 p1 sh_556 rfl H) ?_)
          rintro _ _ ⟨r136, s136, rfl, rfl, H⟩
          refine ay_V1 (pc' := 142) (ce' := 0) (sl' := 0) (mc2 := 0) (ms2 := 0) (I2 := i_X12_eaten) dX12_folk_139 ml_X12_345 sh_69 (by decide) rfl rfl rfl rfl rfl rfl rfl rfl rfl (ac_M.imp (o_X12_eaten _ r136 H) ?_)
          rintro _ _ ⟨r139, s139, rfl, rfl, H⟩
          exact ax_iret dX12_folk_142 rfl rfl rfl ⟨_, _, rfl, rfl, H⟩
        · have H := H.2 hc47
          refine ax_iconst (pc' := 51) (v := (0 : Int32)) dX12_folk_50 (by decide) rfl ?_
          exact ax_iret dX12_folk_51 rfl rfl rfl ⟨_, _, rfl, rfl, H⟩
      · have H := H.2 hc34
        refine ax_iconst (pc' := 38) (v := (1 : Int32)) dX12_folk_37 (by decide) rfl ?_
        refine ax_goto (tgt := 42) dX12_folk_38 (by decide) ?_
        refine ax_iconst (pc' := 43) (v := (2 : Int32)) dX12_folk_42 (by decide) rfl ?_
        refine ax_iconst (pc' := 44) (v := (1 : Int32)) dX12_folk_43 (by decide) rfl ?_
        refine ay_V3 (pc' := 47) (ce' := 0) (sl' := 0) (mc2 := 0) (ms2 := 0) (I2 := i_X12_bad) dX12_folk_44 ml_X12_183 sh_69 (by decide) rfl rfl rfl rfl rfl rfl rfl rfl rfl (ac_M.imp (o_X12_bad _ (1 : Int32) (2 : Int32) (1 : Int32) H) ?_)
        rintro _ _ ⟨r44, s44, rfl, rfl, H⟩
        refine ax_if_eq (pc' := 50) (tgt := 52) dX12_folk_47 (by decide) rfl (fun hc47 => ?_) (fun hc47 => ?_)
        · have H := H.1 hc47
          refine ax_iload_n (pc' := 53) dX12_folk_52 rfl rfl ?_
          by_cases hk53_0 : p2 = (0 : Int32)
          · have H := H.1 hk53_0
            refine ax_tableIn (off := (35)) (tgt := 88) dX12_folk_53 (by rw [hk53_0]; decide) (by rw [hk53_0]; decide) (by rw [hk53_0]; rfl) (by decide) ?_
            refine ax_aload_n (pc' := 89) dX12_folk_88 rfl rfl ?_
            refine ax_getR (pc' := 92) dX12_folk_89 fl_X12_67 sh_69 rfl rfl rfl ?_
            refine ax_bipush (pc' := 94) (v := (39 : Int32)) dX12_folk_92 (by decide) rfl ?_
            refine ax_iload_n (pc' := 95) dX12_folk_94 rfl rfl ?_
            refine ax_iadd (pc' := 96) dX12_folk_95 rfl ?_
            obtain ⟨hj96, H⟩ := H
            refine ax_iald (pc' := 97) dX12_folk_96 sh_556 hj96 rfl rfl ?_
            exact ax_iret dX12_folk_97 rfl rfl rfl ⟨_, _, rfl, rfl, H⟩
          have H := H.2
          by_cases hk53_1 : p2 = (1 : Int32)
          · have H := H.1 hk53_1
            refine ax_tableIn (off := (45)) (tgt := 98) dX12_folk_53 (by rw [hk53_1]; decide) (by rw [hk53_1]; decide) (by rw [hk53_1]; rfl) (by decide) ?_
            refine ax_aload_n (pc' := 99) dX12_folk_98 rfl rfl ?_
            refine ax_getR (pc' := 102) dX12_folk_99 fl_X12_31 sh_69 rfl rfl rfl ?_
            refine ax_iload_n (pc' := 103) dX12_folk_102 rfl rfl ?_
            obtain ⟨hj103, H⟩ := H
            refine ax_aald (pc' := 104) dX12_folk_103 sh_81 hj103 rfl rfl ?_
            refine ax_iconst (pc' := 105) (v := (1 : Int32)) dX12_folk_104 (by decide) rfl ?_
            refine ax_iald (pc' := 106) dX12_folk_105 (sh_r_82 _ (ac_lt hj103)) (ac_in (by decide)) (sh_n_82 _ (ac_lt hj103)) rfl ?_
            exact ax_iret dX12_folk_106 rfl rfl rfl ⟨_, _, rfl, rfl, H⟩
          have H := H.2
          by_cases hk53_2 : p2 = (2 : Int32)
          · have H := H.1 hk53_2
            refine ax_tableIn (off := (54)) (tgt := 107) dX12_folk_53 (by rw [hk53_2]; decide) (by rw [hk53_2]; decide) (by rw [hk53_2]; rfl) (by decide) ?_
            refine ax_aload_n (pc' := 108) dX12_folk_107 rfl rfl ?_
            refine ax_getR (pc' := 111) dX12_folk_108 fl_X12_67 sh_69 rfl rfl rfl ?_
            refine ax_iload_n (pc' := 112) dX12_folk_111 rfl rfl ?_
            refine ay_S2 (pc' := 115) (ce' := 0) (sl' := 0) (mc2 := 0) (ms2 := 0) (I2 := i_X12_onOne) dX12_folk_112 ml_X12_277 rfl rfl rfl rfl rfl rfl rfl rfl (ac_M.imp (o_X12_onOne _ 556 p1 sh_556 rfl H) ?_)
            rintro _ _ ⟨r112, s112, rfl, rfl, H⟩
            exact ax_iret dX12_folk_115 rfl rfl rfl ⟨_, _, rfl, rfl, H⟩
          have H := H.2
          by_cases hk53_3 : p2 = (3 : Int32)
          · have H := H.1 hk53_3
            refine ax_tableIn (off := (63)) (tgt := 116) dX12_folk_53 (by rw [hk53_3]; decide) (by rw [hk53_3]; decide) (by rw [hk53_3]; rfl) (by decide) ?_
            refine ax_aload_n (pc' := 117) dX12_folk_116 rfl rfl ?_
            refine ax_iload_n (pc' := 118) dX12_folk_117 rfl rfl ?_
            refine ax_iconst (pc' := 119) (v := (0 : Int32)) dX12_folk_118 (by decide) rfl ?_
            refine ay_V2 (pc' := 122) (ce' := 0) (sl' := 0) (mc2 := 0) (ms2 := 0) (I2 := i_X12_sideOf) dX12_folk_119 ml_X12_351 sh_69 (by decide) rfl rfl rfl rfl rfl rfl rfl rfl rfl (ac_M.imp (o_X12_sideOf _ p1 (0 : Int32) H) ?_)
            rintro _ _ ⟨r119, s119, rfl, rfl, H⟩
            exact ax_iret dX12_folk_122 rfl rfl rfl ⟨_, _, rfl, rfl, H⟩
          have H := H.2
          by_cases hk53_4 : p2 = (4 : Int32)
          · have H := H.1 hk53_4
            refine ax_tableIn (off := (70)) (tgt := 123) dX12_folk_53 (by rw [hk53_4]; decide) (by rw [hk53_4]; decide) (by rw [hk53_4]; rfl) (by decide) ?_
            refine ax_aload_n (pc' := 124) dX12_folk_123 rfl rfl ?_
            refine ax_iload_n (pc' := 125) dX12_folk_124 rfl rfl ?_
            refine ax_iconst (pc' := 126) (v := (1 : Int32)) dX12_folk_125 (by decide) rfl ?_
            refine ay_V2 (pc' := 129) (ce' := 0) (sl' := 0) (mc2 := 0) (ms2 := 0) (I2 := i_X12_sideOf) dX12_folk_126 ml_X12_351 sh_69 (by decide) rfl rfl rfl rfl rfl rfl rfl rfl rfl (ac_M.imp (o_X12_sideOf _ p1 (1 : Int32) H) ?_)
            rintro _ _ ⟨r126, s126, rfl, rfl, H⟩
            exact ax_iret dX12_folk_129 rfl rfl rfl ⟨_, _, rfl, rfl, H⟩
          have H := H.2
          have H := H ⟨hk53_0, hk53_1, hk53_2, hk53_3, hk53_4⟩
          have hq0 : p2.toInt ≠ 0 := ac_ne hk53_0
          have hq1 : p2.toInt ≠ 1 := ac_ne hk53_1
          have hq2 : p2.toInt ≠ 2 := ac_ne hk53_2
          have hq3 : p2.toInt ≠ 3 := ac_ne hk53_3
          have hq4 : p2.toInt ≠ 4 := ac_ne hk53_4
          refine ax_tableOut (tgt := 130) dX12_folk_53 (by omega) (by decide) ?_
          refine ax_aload_n (pc' := 131) dX12_folk_130 rfl rfl ?_
          refine ax_aload_n (pc' := 132) dX12_folk_131 rfl rfl ?_
          refine ax_getR (pc' := 135) dX12_folk_132 fl_X12_67 sh_69 rfl rfl rfl ?_
          refine ax_iload_n (pc' := 136) dX12_folk_135 rfl rfl ?_
          refine ay_S2 (pc' := 139) (ce' := 0) (sl' := 0) (mc2 := 0) (ms2 := 0) (I2 := i_X12_onOne) dX12_folk_136 ml_X12_277 rfl rfl rfl rfl rfl rfl rfl rfl (ac_M.imp (o_X12_onOne _ 556 p1 sh_556 rfl H) ?_)
          rintro _ _ ⟨r136, s136, rfl, rfl, H⟩
          refine ay_V1 (pc' := 142) (ce' := 0) (sl' := 0) (mc2 := 0) (ms2 := 0) (I2 := i_X12_eaten) dX12_folk_139 ml_X12_345 sh_69 (by decide) rfl rfl rfl rfl rfl rfl rfl rfl rfl (ac_M.imp (o_X12_eaten _ r136 H) ?_)
          rintro _ _ ⟨r139, s139, rfl, rfl, H⟩
          exact ax_iret dX12_folk_142 rfl rfl rfl ⟨_, _, rfl, rfl, H⟩
        · have H := H.2 hc47
          refine ax_iconst (pc' := 51) (v := (0 : Int32)) dX12_folk_50 (by decide) rfl ?_
          exact ax_iret dX12_folk_51 rfl rfl rfl ⟨_, _, rfl, rfl, H⟩
theorem o_X12_beast {g : ac_G} {τ : Nat → Nat → Int64} (d : Nat) (p1 : Int32) (p2 : Int32) {Q : Int32 → ac_m → Prop} {s : ac_m} (H : w_X12_beast p1 p2 Q s) : ac_M g i_X12_beast (d + 5) 0 0 [.ref 69, .int p1, .int p2] (false, 586, SH, s, τ) (liI τ Q) := by
  refine ac_ofX (by decide +kernel) rfl rfl rfl ?_
  refine ax_aload_n (pc' := 1) dX12_beast_0 rfl rfl ?_
  refine ax_iconst (pc' := 2) (v := (0 : Int32)) dX12_beast_1 (by decide) rfl ?_
  refine ax_putI (pc' := 5) dX12_beast_2 fp_X12_104 sh_69 rfl rfl rfl ?_
  refine ax_aload_n (pc' := 6) dX12_beast_5 rfl rfl ?_
  refine ax_aload_n (pc' := 7) dX12_beast_6 rfl rfl ?_
  refine ax_iload_n (pc' := 8) dX12_beast_7 rfl rfl ?_
  refine ay_V1 (pc' := 11) (ce' := 0) (sl' := 0) (mc2 := 0) (ms2 := 0) (I2 := i_X12_isBeast) dX12_beast_8 ml_X12_354 sh_69 (by decide) rfl rfl rfl rfl rfl rfl rfl rfl rfl (ac_M.imp (o_X12_isBeast _ p1 H) ?_)
  rintro _ _ ⟨r8, s8, rfl, rfl, H⟩
  refine ax_if_ne (pc' := 14) (tgt := 18) dX12_beast_11 (by decide) rfl (fun hc11 => ?_) (fun hc11 => ?_)
  · have H := H.1 hc11
    refine ax_iconst (pc' := 19) (v := (0 : Int32)) dX12_beast_18 (by decide) rfl ?_
    refine ax_iconst (pc' := 20) (v := (1 : Int32)) dX12_beast_19 (by decide) rfl ?_
    refine ax_iconst (pc' := 21) (v := (0 : Int32)) dX12_beast_20 (by decide) rfl ?_
    refine ay_V3 (pc' := 24) (ce' := 0) (sl' := 0) (mc2 := 0) (ms2 := 0) (I2 := i_X12_bad) dX12_beast_21 ml_X12_183 sh_69 (by decide) rfl rfl rfl rfl rfl rfl rfl rfl rfl (ac_M.imp (o_X12_bad _ (0 : Int32) (1 : Int32) (0 : Int32) H) ?_)
    rintro _ _ ⟨r21, s21, rfl, rfl, H⟩
    refine ax_if_ne (pc' := 27) (tgt := 51) dX12_beast_24 (by decide) rfl (fun hc24 => ?_) (fun hc24 => ?_)
    · have H := H.1 hc24
      refine ax_iconst (pc' := 52) (v := (0 : Int32)) dX12_beast_51 (by decide) rfl ?_
      exact ax_iret dX12_beast_52 rfl rfl rfl ⟨_, _, rfl, rfl, H⟩
    · have H := H.2 hc24
      refine ax_aload_n (pc' := 28) dX12_beast_27 rfl rfl ?_
      refine ax_iload_n (pc' := 29) dX12_beast_28 rfl rfl ?_
      refine ax_iconst (pc' := 30) (v := (0 : Int32)) dX12_beast_29 (by decide) rfl ?_
      refine ax_bipush (pc' := 32) (v := (6 : Int32)) dX12_beast_30 (by decide) rfl ?_
      refine ay_S3 (pc' := 35) (ce' := 0) (sl' := 0) (mc2 := 0) (ms2 := 0) (I2 := i_X12_in) dX12_beast_32 ml_X12_138 rfl rfl rfl rfl rfl rfl rfl rfl (ac_M.imp (o_X12_in _ p2 (0 : Int32) (6 : Int32) H) ?_)
      rintro _ _ ⟨r32, s32, rfl, rfl, H⟩
      refine ax_if_ne (pc' := 38) (tgt := 42) dX12_beast_35 (by decide) rfl (fun hc35 => ?_) (fun hc35 => ?_)
      · have H := H.1 hc35
        refine ax_iconst (pc' := 43) (v := (0 : Int32)) dX12_beast_42 (by decide) rfl ?_
        refine ax_iconst (pc' := 44) (v := (2 : Int32)) dX12_beast_43 (by decide) rfl ?_
        refine ax_iconst (pc' := 45) (v := (1 : Int32)) dX12_beast_44 (by decide) rfl ?_
        refine ay_V3 (pc' := 48) (ce' := 0) (sl' := 0) (mc2 := 0) (ms2 := 0) (I2 := i_X12_bad) dX12_beast_45 ml_X12_183 sh_69 (by decide) rfl rfl rfl rfl rfl rfl rfl rfl rfl (ac_M.imp (o_X12_bad _ (0 : Int32) (2 : Int32) (1 : Int32) H) ?_)
        rintro _ _ ⟨r45, s45, rfl, rfl, H⟩
        refine ax_if_eq (pc' := 51) (tgt := 53) dX12_beast_48 (by decide) rfl (fun hc48 => ?_) (fun hc48 => ?_)
        · have H := H.1 hc48
          refine ax_iload_n (pc' := 54) dX12_beast_53 rfl rfl ?_
          by_cases hk54_0 : p2 = (0 : Int32)
          · have H := H.1 hk54_0
            refine ax_tableIn (off := (38)) (tgt := 92) dX12_beast_54 (by rw [hk54_0]; decide) (by rw [hk54_0]; decide) (by rw [hk54_0]; rfl) (by decide) ?_
            refine ax_aload_n (pc' := 93) dX12_beast_92 rfl rfl ?_
            refine ax_getR (pc' := 96) dX12_beast_93 fl_X12_37 sh_69 rfl rfl rfl ?_
            refine ax_iload_n (pc' := 97) dX12_beast_96 rfl rfl ?_
            obtain ⟨hj97, H⟩ := H
            refine ax_aald (pc' := 98) dX12_beast_97 sh_101 hj97 rfl rfl ?_
            refine ax_iload_n (pc' := 99) dX12_beast_98 rfl rfl ?_
            obtain ⟨hj99, H⟩ := H
            refine ax_iald (pc' := 100) dX12_beast_99 (sh_r_102 _ (ac_lt hj97)) hj99 (sh_n_102 _ (ac_lt hj97)) rfl ?_
            exact ax_iret dX12_beast_100 rfl rfl rfl ⟨_, _, rfl, rfl, H⟩
          have H := H.2
          by_cases hk54_1 : p2 = (1 : Int32)
          · have H := H.1 hk54_1
            refine ax_tableIn (off := (38)) (tgt := 92) dX12_beast_54 (by rw [hk54_1]; decide) (by rw [hk54_1]; decide) (by rw [hk54_1]; rfl) (by decide) ?_
            refine ax_aload_n (pc' := 93) dX12_beast_92 rfl rfl ?_
            refine ax_getR (pc' := 96) dX12_beast_93 fl_X12_37 sh_69 rfl rfl rfl ?_
            refine ax_iload_n (pc' := 97) dX12_beast_96 rfl rfl ?_
            obtain ⟨hj97, H⟩ := H
            refine ax_aald (pc' := 98) dX12_beast_97 sh_101 hj97 rfl rfl ?_
            refine ax_iload_n (pc' := 99) dX12_beast_98 rfl rfl ?_
            obtain ⟨hj99, H⟩ := H
            refine ax_iald (pc' := 100) dX12_beast_99 (sh_r_102 _ (ac_lt hj97)) hj99 (sh_n_102 _ (ac_lt hj97)) rfl ?_
            exact ax_iret dX12_beast_100 rfl rfl rfl ⟨_, _, rfl, rfl, H⟩
          have H := H.2
          by_cases hk54_2 : p2 = (2 : Int32)
          · have H := H.1 hk54_2
            refine ax_tableIn (off := (38)) (tgt := 92) dX12_beast_54 (by rw [hk54_2]; decide) (by rw [hk54_2]; decide) (by rw [hk54_2]; rfl) (by decide) ?_
            refine ax_aload_n (pc' := 93) dX12_beast_92 rfl rfl ?_
            refine ax_getR (pc' := 96) dX12_beast_93 fl_X12_37 sh_69 rfl rfl rfl ?_
            refine ax_iload_n (pc' := 97) dX12_beast_96 rfl rfl ?_
            obtain ⟨hj97, H⟩ := H
            refine ax_aald (pc' := 98) dX12_beast_97 sh_101 hj97 rfl rfl ?_
            refine ax_iload_n (pc' := 99) dX12_beast_98 rfl rfl ?_
            obtain ⟨hj99, H⟩ := H
            refine ax_iald (pc' := 100) dX12_beast_99 (sh_r_102 _ (ac_lt hj97)) hj99 (sh_n_102 _ (ac_lt hj97)) rfl ?_
            exact ax_iret dX12_beast_100 rfl rfl rfl ⟨_, _, rfl, rfl, H⟩
          have H := H.2
          by_cases hk54_3 : p2 = (3 : Int32)
          · have H := H.1 hk54_3
            refine ax_tableIn (off := (47)) (tgt := 101) dX12_beast_54 (by rw [hk54_3]; decide) (by rw [hk54_3]; decide) (by rw [hk54_3]; rfl) (by decide) ?_
            refine ax_aload_n (pc' := 102) dX12_beast_101 rfl rfl ?_
            refine ax_getR (pc' := 105) dX12_beast_102 fl_X12_67 sh_69 rfl rfl rfl ?_
            refine ax_iconst (pc' := 106) (v := (0 : Int32)) dX12_beast_105 (by decide) rfl ?_
            refine ax_iload_n (pc' := 107) dX12_beast_106 rfl rfl ?_
            refine ax_iadd (pc' := 108) dX12_beast_107 rfl ?_
            obtain ⟨hj108, H⟩ := H
            refine ax_iald (pc' := 109) dX12_beast_108 sh_556 hj108 rfl rfl ?_
            exact ax_iret dX12_beast_109 rfl rfl rfl ⟨_, _, rfl, rfl, H⟩
          have H := H.2
          by_cases hk54_4 : p2 = (4 : Int32)
          · have H := H.1 hk54_4
            refine ax_tableIn (off := (56)) (tgt := 110) dX12_beast_54 (by rw [hk54_4]; decide) (by rw [hk54_4]; decide) (by rw [hk54_4]; rfl) (by decide) ?_
            refine ax_aload_n (pc' := 111) dX12_beast_110 rfl rfl ?_
            refine ax_getR (pc' := 114) dX12_beast_111 fl_X12_67 sh_69 rfl rfl rfl ?_
            refine ax_bipush (pc' := 116) (v := (26 : Int32)) dX12_beast_114 (by decide) rfl ?_
            refine ax_iload_n (pc' := 117) dX12_beast_116 rfl rfl ?_
            refine ax_iadd (pc' := 118) dX12_beast_117 rfl ?_
            obtain ⟨hj118, H⟩ := H
            refine ax_iald (pc' := 119) dX12_beast_118 sh_556 hj118 rfl rfl ?_
            exact ax_iret dX12_beast_119 rfl rfl rfl ⟨_, _, rfl, rfl, H⟩
          have H := H.2
          by_cases hk54_5 : p2 = (5 : Int32)
          · have H := H.1 hk54_5
            refine ax_tableIn (off := (66)) (tgt := 120) dX12_beast_54 (by rw [hk54_5]; decide) (by rw [hk54_5]; decide) (by rw [hk54_5]; rfl) (by decide) ?_
            refine ax_aload_n (pc' := 121) dX12_beast_120 rfl rfl ?_
            refine ax_getR (pc' := 124) dX12_beast_121 fl_X12_67 sh_69 rfl rfl rfl ?_
            refine ax_bipush (pc' := 126) (v := (13 : Int32)) dX12_beast_124 (by decide) rfl ?_
            refine ax_iload_n (pc' := 127) dX12_beast_126 rfl rfl ?_
            refine ax_iadd (pc' := 128) dX12_beast_127 rfl ?_
            obtain ⟨hj128, H⟩ := H
            refine ax_iald (pc' := 129) dX12_beast_128 sh_556 hj128 rfl rfl ?_
            exact ax_iret dX12_beast_129 rfl rfl rfl ⟨_, _, rfl, rfl, H⟩
          have H := H.2
          have H := H ⟨hk54_0, hk54_1, hk54_2, hk54_3, hk54_4, hk54_5⟩
          have hq0 : p2.toInt ≠ 0 := ac_ne hk54_0
          have hq1 : p2.toInt ≠ 1 := ac_ne hk54_1
          have hq2 : p2.toInt ≠ 2 := ac_ne hk54_2
          have hq3 : p2.toInt ≠ 3 := ac_ne hk54_3
          have hq4 : p2.toInt ≠ 4 := ac_ne hk54_4
          have hq5 : p2.toInt ≠ 5 := ac_ne hk54_5
          refine ax_tableOut (tgt := 130) dX12_beast_54 (by omega) (by decide) ?_
          refine ax_aload_n (pc' := 131) dX12_beast_130 rfl rfl ?_
          refine ax_aload_n (pc' := 132) dX12_beast_131 rfl rfl ?_
          refine ax_getR (pc' := 135) dX12_beast_132 fl_X12_67 sh_69 rfl rfl rfl ?_
          refine ax_iload_n (pc' := 136) dX12_beast_135 rfl rfl ?_
          refine ay_V2 (pc' := 139) (ce' := 0) (sl' := 0) (mc2 := 0) (ms2 := 0) (I2 := i_X12_eatOf) dX12_beast_136 ml_X12_294 sh_69 (by decide) rfl rfl rfl rfl rfl rfl rfl rfl rfl (ac_M.imp (o_X12_eatOf _ 556 p1 sh_556 rfl H) ?_)
          rintro _ _ ⟨r136, s136, rfl, rfl, H⟩
          exact ax_iret dX12_beast_139 rfl rfl rfl ⟨_, _, rfl, rfl, H⟩
        · have H := H.2 hc48
          refine ax_iconst (pc' := 52) (v := (0 : Int32)) dX12_beast_51 (by decide) rfl ?_
          exact ax_iret dX12_beast_52 rfl rfl rfl ⟨_, _, rfl, rfl, H⟩
      · have H := H.2 hc35
        refine ax_iconst (pc' := 39) (v := (1 : Int32)) dX12_beast_38 (by decide) rfl ?_
        refine ax_goto (tgt := 43) dX12_beast_39 (by decide) ?_
        refine ax_iconst (pc' := 44) (v := (2 : Int32)) dX12_beast_43 (by decide) rfl ?_
        refine ax_iconst (pc' := 45) (v := (1 : Int32)) dX12_beast_44 (by decide) rfl ?_
        refine ay_V3 (pc' := 48) (ce' := 0) (sl' := 0) (mc2 := 0) (ms2 := 0) (I2 := i_X12_bad) dX12_beast_45 ml_X12_183 sh_69 (by decide) rfl rfl rfl rfl rfl rfl rfl rfl rfl (ac_M.imp (o_X12_bad _ (1 : Int32) (2 : Int32) (1 : Int32) H) ?_)
        rintro _ _ ⟨r45, s45, rfl, rfl, H⟩
        refine ax_if_eq (pc' := 51) (tgt := 53) dX12_beast_48 (by decide) rfl (fun hc48 => ?_) (fun hc48 => ?_)
        · have H := H.1 hc48
          refine ax_iload_n (pc' := 54) dX12_beast_53 rfl rfl ?_
          by_cases hk54_0 : p2 = (0 : Int32)
          · have H := H.1 hk54_0
            refine ax_tableIn (off := (38)) (tgt := 92) dX12_beast_54 (by rw [hk54_0]; decide) (by rw [hk54_0]; decide) (by rw [hk54_0]; rfl) (by decide) ?_
            refine ax_aload_n (pc' := 93) dX12_beast_92 rfl rfl ?_
            refine ax_getR (pc' := 96) dX12_beast_93 fl_X12_37 sh_69 rfl rfl rfl ?_
            refine ax_iload_n (pc' := 97) dX12_beast_96 rfl rfl ?_
            obtain ⟨hj97, H⟩ := H
            refine ax_aald (pc' := 98) dX12_beast_97 sh_101 hj97 rfl rfl ?_
            refine ax_iload_n (pc' := 99) dX12_beast_98 rfl rfl ?_
            obtain ⟨hj99, H⟩ := H
            refine ax_iald (pc' := 100) dX12_beast_99 (sh_r_102 _ (ac_lt hj97)) hj99 (sh_n_102 _ (ac_lt hj97)) rfl ?_
            exact ax_iret dX12_beast_100 rfl rfl rfl ⟨_, _, rfl, rfl, H⟩
          have H := H.2
          by_cases hk54_1 : p2 = (1 : Int32)
          · have H := H.1 hk54_1
            refine ax_tableIn (off := (38)) (tgt := 92) dX12_beast_54 (by rw [hk54_1]; decide) (by rw [hk54_1]; decide) (by rw [hk54_1]; rfl) (by decide) ?_
            refine ax_aload_n (pc' := 93) dX12_beast_92 rfl rfl ?_
            refine ax_getR (pc' := 96) dX12_beast_93 fl_X12_37 sh_69 rfl rfl rfl ?_
            refine ax_iload_n (pc' := 97) dX12_beast_96 rfl rfl ?_
            obtain ⟨hj97, H⟩ := H
            refine ax_aald (pc' := 98) dX12_beast_97 sh_101 hj97 rfl rfl ?_
            refine ax_iload_n (pc' := 99) dX12_beast_98 rfl rfl ?_
            obtain ⟨hj99, H⟩ := H
            refine ax_iald (pc' := 100) dX12_beast_99 (sh_r_102 _ (ac_lt hj97)) hj99 (sh_n_102 _ (ac_lt hj97)) rfl ?_
            exact ax_iret dX12_beast_100 rfl rfl rfl ⟨_, _, rfl, rfl, H⟩
          have H := H.2
          by_cases hk54_2 : p2 = (2 : Int32)
          · have H := H.1 hk54_2
            refine ax_tableIn (off := (38)) (tgt := 92) dX12_beast_54 (by rw [hk54_2]; decide) (by rw [hk54_2]; decide) (by rw [hk54_2]; rfl) (by decide) ?_
            refine ax_aload_n (pc' := 93) dX12_beast_92 rfl rfl ?_
            refine ax_getR (pc' := 96) dX12_beast_93 fl_X12_37 sh_69 rfl rfl rfl ?_
            refine ax_iload_n (pc' := 97) dX12_beast_96 rfl rfl ?_
            obtain ⟨hj97, H⟩ := H
            refine ax_aald (pc' := 98) dX12_beast_97 sh_101 hj97 rfl rfl ?_
            refine ax_iload_n (pc' := 99) dX12_beast_98 rfl rfl ?_
            obtain ⟨hj99, H⟩ := H
            refine ax_iald (pc' := 100) dX12_beast_99 (sh_r_102 _ (ac_lt hj97)) hj99 (sh_n_102 _ (ac_lt hj97)) rfl ?_
            exact ax_iret dX12_beast_100 rfl rfl rfl ⟨_, _, rfl, rfl, H⟩
          have H := H.2
          by_cases hk54_3 : p2 = (3 : Int32)
          · have H := H.1 hk54_3
            refine ax_tableIn (off := (47)) (tgt := 101) dX12_beast_54 (by rw [hk54_3]; decide) (by rw [hk54_3]; decide) (by rw [hk54_3]; rfl) (by decide) ?_
            refine ax_aload_n (pc' := 102) dX12_beast_101 rfl rfl ?_
            refine ax_getR (pc' := 105) dX12_beast_102 fl_X12_67 sh_69 rfl rfl rfl ?_
            refine ax_iconst (pc' := 106) (v := (0 : Int32)) dX12_beast_105 (by decide) rfl ?_
            refine ax_iload_n (pc' := 107) dX12_beast_106 rfl rfl ?_
            refine ax_iadd (pc' := 108) dX12_beast_107 rfl ?_
            obtain ⟨hj108, H⟩ := H
            refine ax_iald (pc' := 109) dX12_beast_108 sh_556 hj108 rfl rfl ?_
            exact ax_iret dX12_beast_109 rfl rfl rfl ⟨_, _, rfl, rfl, H⟩
          have H := H.2
          by_cases hk54_4 : p2 = (4 : Int32)
          · have H := H.1 hk54_4
            refine ax_tableIn (off := (56)) (tgt := 110) dX12_beast_54 (by rw [hk54_4]; decide) (by rw [hk54_4]; decide) (by rw [hk54_4]; rfl) (by decide) ?_
            refine ax_aload_n (pc' := 111) dX12_beast_110 rfl rfl ?_
            refine ax_getR (pc' := 114) dX12_beast_111 fl_X12_67 sh_69 rfl rfl rfl ?_
            refine ax_bipush (pc' := 116) (v := (26 : Int32)) dX12_beast_114 (by decide) rfl ?_
            refine ax_iload_n (pc' := 117) dX12_beast_116 rfl rfl ?_
            refine ax_iadd (pc' := 118) dX12_beast_117 rfl ?_
            obtain ⟨hj118, H⟩ := H
            refine ax_iald (pc' := 119) dX12_beast_118 sh_556 hj118 rfl rfl ?_
            exact ax_iret dX12_beast_119 rfl rfl rfl ⟨_, _, rfl, rfl, H⟩
          have H := H.2
          by_cases hk54_5 : p2 = (5 : Int32)
          · have H := H.1 hk54_5
            refine ax_tableIn (off := (66)) (tgt := 120) dX12_beast_54 (by rw [hk54_5]; decide) (by rw [hk54_5]; decide) (by rw [hk54_5]; rfl) (by decide) ?_
            refine ax_aload_n (pc' := 121) dX12_beast_120 rfl rfl ?_
            refine ax_getR (pc' := 124) dX12_beast_121 fl_X12_67 sh_69 rfl rfl rfl ?_
            refine ax_bipush (pc' := 126) (v := (13 : Int32)) dX12_beast_124 (by decide) rfl ?_
            refine ax_iload_n (pc' := 127) dX12_beast_126 rfl rfl ?_
            refine ax_iadd (pc' := 128) dX12_beast_127 rfl ?_
            obtain ⟨hj128, H⟩ := H
            refine ax_iald (pc' := 129) dX12_beast_128 sh_556 hj128 rfl rfl ?_
            exact ax_iret dX12_beast_129 rfl rfl rfl ⟨_, _, rfl, rfl, H⟩
          have H := H.2
          have H := H ⟨hk54_0, hk54_1, hk54_2, hk54_3, hk54_4, hk54_5⟩
          have hq0 : p2.toInt ≠ 0 := ac_ne hk54_0
          have hq1 : p2.toInt ≠ 1 := ac_ne hk54_1
          have hq2 : p2.toInt ≠ 2 := ac_ne hk54_2
          have hq3 : p2.toInt ≠ 3 := ac_ne hk54_3
          have hq4 : p2.toInt ≠ 4 := ac_ne hk54_4
          have hq5 : p2.toInt ≠ 5 := ac_ne hk54_5
          refine ax_tableOut (tgt := 130) dX12_beast_54 (by omega) (by decide) ?_
          refine ax_aload_n (pc' := 131) dX12_beast_130 rfl rfl ?_
          refine ax_aload_n (pc' := 132) dX12_beast_131 rfl rfl ?_
          refine ax_getR (pc' := 135) dX12_beast_132 fl_X12_67 sh_69 rfl rfl rfl ?_
          refine ax_iload_n (pc' := 136) dX12_beast_135 rfl rfl ?_
          refine ay_V2 (pc' := 139) (ce' := 0) (sl' := 0) (mc2 := 0) (ms2 := 0) (I2 := i_X12_eatOf) dX12_beast_136 ml_X12_294 sh_69 (by decide) rfl rfl rfl rfl rfl rfl rfl rfl rfl (ac_M.imp (o_X12_eatOf _ 556 p1 sh_556 rfl H) ?_)
          rintro _ _ ⟨r136, s136, rfl, rfl, H⟩
          exact ax_iret dX12_beast_139 rfl rfl rfl ⟨_, _, rfl, rfl, H⟩
        · have H := H.2 hc48
          refine ax_iconst (pc' := 52) (v := (0 : Int32)) dX12_beast_51 (by decide) rfl ?_
          exact ax_iret dX12_beast_52 rfl rfl rfl ⟨_, _, rfl, rfl, H⟩
  · have H := H.2 hc11
    refine ax_iconst (pc' := 15) (v := (1 : Int32)) dX12_beast_14 (by decide) rfl ?_
    refine ax_goto (tgt := 19) dX12_beast_15 (by decide) ?_
    refine ax_iconst (pc' := 20) (v := (1 : Int32)) dX12_beast_19 (by decide) rfl ?_
    refine ax_iconst (pc' := 21) (v := (0 : Int32)) dX12_beast_20 (by decide) rfl ?_
    refine ay_V3 (pc' := 24) (ce' := 0) (sl' := 0) (mc2 := 0) (ms2 := 0) (I2 := i_X12_bad) dX12_beast_21 ml_X12_183 sh_69 (by decide) rfl rfl rfl rfl rfl rfl rfl rfl rfl (ac_M.imp (o_X12_bad _ (1 : Int32) (1 : Int32) (0 : Int32) H) ?_)
    rintro _ _ ⟨r21, s21, rfl, rfl, H⟩
    refine ax_if_ne (pc' := 27) (tgt := 51) dX12_beast_24 (by decide) rfl (fun hc24 => ?_) (fun hc24 => ?_)
    · have H := H.1 hc24
      refine ax_iconst (pc' := 52) (v := (0 : Int32)) dX12_beast_51 (by decide) rfl ?_
      exact ax_iret dX12_beast_52 rfl rfl rfl ⟨_, _, rfl, rfl, H⟩
    · have H := H.2 hc24
      refine ax_aload_n (pc' := 28) dX12_beast_27 rfl rfl ?_
      refine ax_iload_n (pc' := 29) dX12_beast_28 rfl rfl ?_
      refine ax_iconst (pc' := 30) (v := (0 : Int32)) dX12_beast_29 (by decide) rfl ?_
      refine ax_bipush (pc' := 32) (v := (6 : Int32)) dX12_beast_30 (by decide) rfl ?_
      refine ay_S3 (pc' := 35) (ce' := 0) (sl' := 0) (mc2 := 0) (ms2 := 0) (I2 := i_X12_in) dX12_beast_32 ml_X12_138 rfl rfl rfl rfl rfl rfl rfl rfl (ac_M.imp (o_X12_in _ p2 (0 : Int32) (6 : Int32) H) ?_)
      rintro _ _ ⟨r32, s32, rfl, rfl, H⟩
      refine ax_if_ne (pc' := 38) (tgt := 42) dX12_beast_35 (by decide) rfl (fun hc35 => ?_) (fun hc35 => ?_)
      · have H := H.1 hc35
        refine ax_iconst (pc' := 43) (v := (0 : Int32)) dX12_beast_42 (by decide) rfl ?_
        refine ax_iconst (pc' := 44) (v := (2 : Int32)) dX12_beast_43 (by decide) rfl ?_
        refine ax_iconst (pc' := 45) (v := (1 : Int32)) dX12_beast_44 (by decide) rfl ?_
        refine ay_V3 (pc' := 48) (ce' := 0) (sl' := 0) (mc2 := 0) (ms2 := 0) (I2 := i_X12_bad) dX12_beast_45 ml_X12_183 sh_69 (by decide) rfl rfl rfl rfl rfl rfl rfl rfl rfl (ac_M.imp (o_X12_bad _ (0 : Int32) (2 : Int32) (1 : Int32) H) ?_)
        rintro _ _ ⟨r45, s45, rfl, rfl, H⟩
        refine ax_if_eq (pc' := 51) (tgt := 53) dX12_beast_48 (by decide) rfl (fun hc48 => ?_) (fun hc48 => ?_)
        · have H := H.1 hc48
          refine ax_iload_n (pc' := 54) dX12_beast_53 rfl rfl ?_
          by_cases hk54_0 : p2 = (0 : Int32)
          · have H := H.1 hk54_0
            refine ax_tableIn (off := (38)) (tgt := 92) dX12_beast_54 (by rw [hk54_0]; decide) (by rw [hk54_0]; decide) (by rw [hk54_0]; rfl) (by decide) ?_
            refine ax_aload_n (pc' := 93) dX12_beast_92 rfl rfl ?_
            refine ax_getR (pc' := 96) dX12_beast_93 fl_X12_37 sh_69 rfl rfl rfl ?_
            refine ax_iload_n (pc' := 97) dX12_beast_96 rfl rfl ?_
            obtain ⟨hj97, H⟩ := H
            refine ax_aald (pc' := 98) dX12_beast_97 sh_101 hj97 rfl rfl ?_
            refine ax_iload_n (pc' := 99) dX12_beast_98 rfl rfl ?_
            obtain ⟨hj99, H⟩ := H
            refine ax_iald (pc' := 100) dX12_beast_99 (sh_r_102 _ (ac_lt hj97)) hj99 (sh_n_102 _ (ac_lt hj97)) rfl ?_
            exact ax_iret dX12_beast_100 rfl rfl rfl ⟨_, _, rfl, rfl, H⟩
          have H := H.2
          by_cases hk54_1 : p2 = (1 : Int32)
          · have H := H.1 hk54_1
            refine ax_tableIn (off := (38)) (tgt := 92) dX12_beast_54 (by rw [hk54_1]; decide) (by rw [hk54_1]; decide) (by rw [hk54_1]; rfl) (by decide) ?_
            refine ax_aload_n (pc' := 93) dX12_beast_92 rfl rfl ?_
            refine ax_getR (pc' := 96) dX12_beast_93 fl_X12_37 sh_69 rfl rfl rfl ?_
            refine ax_iload_n (pc' := 97) dX12_beast_96 rfl rfl ?_
            obtain ⟨hj97, H⟩ := H
            refine ax_aald (pc' := 98) dX12_beast_97 sh_101 hj97 rfl rfl ?_
            refine ax_iload_n (pc' := 99) dX12_beast_98 rfl rfl ?_
            obtain ⟨hj99, H⟩ := H
            refine ax_iald (pc' := 100) dX12_beast_99 (sh_r_102 _ (ac_lt hj97)) hj99 (sh_n_102 _ (ac_lt hj97)) rfl ?_
            exact ax_iret dX12_beast_100 rfl rfl rfl ⟨_, _, rfl, rfl, H⟩
          have H := H.2
          by_cases hk54_2 : p2 = (2 : Int32)
          · have H := H.1 hk54_2
            refine ax_tableIn (off := (38)) (tgt := 92) dX12_beast_54 (by rw [hk54_2]; decide) (by rw [hk54_2]; decide) (by rw [hk54_2]; rfl) (by decide) ?_
            refine ax_aload_n (pc' := 93) dX12_beast_92 rfl rfl ?_
            refine ax_getR (pc' := 96) dX12_beast_93 fl_X12_37 sh_69 rfl rfl rfl ?_
            refine ax_iload_n (pc' := 97) dX12_beast_96 rfl rfl ?_
            obtain ⟨hj97, H⟩ := H
            refine ax_aald (pc' := 98) dX12_beast_97 sh_101 hj97 rfl rfl ?_
            refine ax_iload_n (pc' := 99) dX12_beast_98 rfl rfl ?_
            obtain ⟨hj99, H⟩ := H
            refine ax_iald (pc' := 100) dX12_beast_99 (sh_r_102 _ (ac_lt hj97)) hj99 (sh_n_102 _ (ac_lt hj97)) rfl ?_
            exact ax_iret dX12_beast_100 rfl rfl rfl ⟨_, _, rfl, rfl, H⟩
          have H := H.2
          by_cases hk54_3 : p2 = (3 : Int32)
          · have H := H.1 hk54_3
            refine ax_tableIn (off := (47)) (tgt := 101) dX12_beast_54 (by rw [hk54_3]; decide) (by rw [hk54_3]; decide) (by rw [hk54_3]; rfl) (by decide) ?_
            refine ax_aload_n (pc' := 102) dX12_beast_101 rfl rfl ?_
            refine ax_getR (pc' := 105) dX12_beast_102 fl_X12_67 sh_69 rfl rfl rfl ?_
            refine ax_iconst (pc' := 106) (v := (0 : Int32)) dX12_beast_105 (by decide) rfl ?_
            refine ax_iload_n (pc' := 107) dX12_beast_106 rfl rfl ?_
            refine ax_iadd (pc' := 108) dX12_beast_107 rfl ?_
            obtain ⟨hj108, H⟩ := H
            refine ax_iald (pc' := 109) dX12_beast_108 sh_556 hj108 rfl rfl ?_
            exact ax_iret dX12_beast_109 rfl rfl rfl ⟨_, _, rfl, rfl, H⟩
          have H := H.2
          by_cases hk54_4 : p2 = (4 : Int32)
          · have H := H.1 hk54_4
            refine ax_tableIn (off := (56)) (tgt := 110) dX12_beast_54 (by rw [hk54_4]; decide) (by rw [hk54_4]; decide) (by rw [hk54_4]; rfl) (by decide) ?_
            refine ax_aload_n (pc' := 111) dX12_beast_110 rfl rfl ?_
            refine ax_getR (pc' := 114) dX12_beast_111 fl_X12_67 sh_69 rfl rfl rfl ?_
            refine ax_bipush (pc' := 116) (v := (26 : Int32)) dX12_beast_114 (by decide) rfl ?_
            refine ax_iload_n (pc' := 117) dX12_beast_116 rfl rfl ?_
            refine ax_iadd (pc' := 118) dX12_beast_117 rfl ?_
            obtain ⟨hj118, H⟩ := H
            refine ax_iald (pc' := 119) dX12_beast_118 sh_556 hj118 rfl rfl ?_
            exact ax_iret dX12_beast_119 rfl rfl rfl ⟨_, _, rfl, rfl, H⟩
          have H := H.2
          by_cases hk54_5 : p2 = (5 : Int32)
          · have H := H.1 hk54_5
            refine ax_tableIn (off := (66)) (tgt := 120) dX12_beast_54 (by rw [hk54_5]; decide) (by rw [hk54_5]; decide) (by rw [hk54_5]; rfl) (by decide) ?_
            refine ax_aload_n (pc' := 121) dX12_beast_120 rfl rfl ?_
            refine ax_getR (pc' := 124) dX12_beast_121 fl_X12_67 sh_69 rfl rfl rfl ?_
            refine ax_bipush (pc' := 126) (v := (13 : Int32)) dX12_beast_124 (by decide) rfl ?_
            refine ax_iload_n (pc' := 127) dX12_beast_126 rfl rfl ?_
            refine ax_iadd (pc' := 128) dX12_beast_127 rfl ?_
            obtain ⟨hj128, H⟩ := H
            refine ax_iald (pc' := 129) dX12_beast_128 sh_556 hj128 rfl rfl ?_
            exact ax_iret dX12_beast_129 rfl rfl rfl ⟨_, _, rfl, rfl, H⟩
          have H := H.2
          have H := H ⟨hk54_0, hk54_1, hk54_2, hk54_3, hk54_4, hk54_5⟩
          have hq0 : p2.toInt ≠ 0 := ac_ne hk54_0
          have hq1 : p2.toInt ≠ 1 := ac_ne hk54_1
          have hq2 : p2.toInt ≠ 2 := ac_ne hk54_2
          have hq3 : p2.toInt ≠ 3 := ac_ne hk54_3
          have hq4 : p2.toInt ≠ 4 := ac_ne hk54_4
          have hq5 : p2.toInt ≠ 5 := ac_ne hk54_5
          refine ax_tableOut (tgt := 130) dX12_beast_54 (by omega) (by decide) ?_
          refine ax_aload_n (pc' := 131) dX12_beast_130 rfl rfl ?_
          refine ax_aload_n (pc' := 132) dX12_beast_131 rfl rfl ?_
          refine ax_getR (pc' := 135) dX12_beast_132 fl_X12_67 sh_69 rfl rfl rfl ?_
          refine ax_iload_n (pc' := 136) dX12_beast_135 rfl rfl ?_
          refine ay_V2 (pc' := 139) (ce' := 0) (sl' := 0) (mc2 := 0) (ms2 := 0) (I2 := i_X12_eatOf) dX12_beast_136 ml_X12_294 sh_69 (by decide) rfl rfl rfl rfl rfl rfl rfl rfl rfl (ac_M.imp (o_X12_eatOf _ 556 p1 sh_556 rfl H) ?_)
          rintro _ _ ⟨r136, s136, rfl, rfl, H⟩
          exact ax_iret dX12_beast_139 rfl rfl rfl ⟨_, _, rfl, rfl, H⟩
        · have H := H.2 hc48
          refine ax_iconst (pc' := 52) (v := (0 : Int32)) dX12_beast_51 (by decide) rfl ?_
          exact ax_iret dX12_beast_52 rfl rfl rfl ⟨_, _, rfl, rfl, H⟩
      · have H := H.2 hc35
        refine ax_iconst (pc' := 39) (v := (1 : Int32)) dX12_beast_38 (by decide) rfl ?_
        refine ax_goto (tgt := 43) dX12_beast_39 (by decide) ?_
        refine ax_iconst (pc' := 44) (v := (2 : Int32)) dX12_beast_43 (by decide) rfl ?_
        refine ax_iconst (pc' := 45) (v := (1 : Int32)) dX12_beast_44 (by decide) rfl ?_
        refine ay_V3 (pc' := 48) (ce' := 0) (sl' := 0) (mc2 := 0) (ms2 := 0) (I2 := i_X12_bad) dX12_beast_45 ml_X12_183 sh_69 (by decide) rfl rfl rfl rfl rfl rfl rfl rfl rfl (ac_M.imp (o_X12_bad _ (1 : Int32) (2 : Int32) (1 : Int32) H) ?_)
        rintro _ _ ⟨r45, s45, rfl, rfl, H⟩
        refine ax_if_eq (pc' := 51) (tgt := 53) dX12_beast_48 (by decide) rfl (fun hc48 => ?_) (fun hc48 => ?_)
        · have H := H.1 hc48
          refine ax_iload_n (pc' := 54) dX12_beast_53 rfl rfl ?_
          by_cases hk54_0 : p2 = (0 : Int32)
          · have H := H.1 hk54_0
            refine ax_tableIn (off := (38)) (tgt := 92) dX12_beast_54 (by rw [hk54_0]; decide) (by rw [hk54_0]; decide) (by rw [hk54_0]; rfl) (by decide) ?_
            refine ax_aload_n (pc' := 93) dX12_beast_92 rfl rfl ?_
            refine ax_getR (pc' := 96) dX12_beast_93 fl_X12_37 sh_69 rfl rfl rfl ?_
            refine ax_iload_n (pc' := 97) dX12_beast_96 rfl rfl ?_
            obtain ⟨hj97, H⟩ := H
            refine ax_aald (pc' := 98) dX12_beast_97 sh_101 hj97 rfl rfl ?_
            refine ax_iload_n (pc' := 99) dX12_beast_98 rfl rfl ?_
            obtain ⟨hj99, H⟩ := H
            refine ax_iald (pc' := 100) dX12_beast_99 (sh_r_102 _ (ac_lt hj97)) hj99 (sh_n_102 _ (ac_lt hj97)) rfl ?_
            exact ax_iret dX12_beast_100 rfl rfl rfl ⟨_, _, rfl, rfl, H⟩
          have H := H.2
          by_cases hk54_1 : p2 = (1 : Int32)
          · have H := H.1 hk54_1
            refine ax_tableIn (off := (38)) (tgt := 92) dX12_beast_54 (by rw [hk54_1]; decide) (by rw [hk54_1]; decide) (by rw [hk54_1]; rfl) (by decide) ?_
            refine ax_aload_n (pc' := 93) dX12_beast_92 rfl rfl ?_
            refine ax_getR (pc' := 96) dX12_beast_93 fl_X12_37 sh_69 rfl rfl rfl ?_
            refine ax_iload_n (pc' := 97) dX12_beast_96 rfl rfl ?_
            obtain ⟨hj97, H⟩ := H
            refine ax_aald (pc' := 98) dX12_beast_97 sh_101 hj97 rfl rfl ?_
            refine ax_iload_n (pc' := 99) dX12_beast_98 rfl rfl ?_
            obtain ⟨hj99, H⟩ := H
            refine ax_iald (pc' := 100) dX12_beast_99 (sh_r_102 _ (ac_lt hj97)) hj99 (sh_n_102 _ (ac_lt hj97)) rfl ?_
            exact ax_iret dX12_beast_100 rfl rfl rfl ⟨_, _, rfl, rfl, H⟩
          have H := H.2
          by_cases hk54_2 : p2 = (2 : Int32)
          · have H := H.1 hk54_2
            refine ax_tableIn (off := (38)) (tgt := 92) dX12_beast_54 (by rw [hk54_2]; decide) (by rw [hk54_2]; decide) (by rw [hk54_2]; rfl) (by decide) ?_
            refine ax_aload_n (pc' := 93) dX12_beast_92 rfl rfl ?_
            refine ax_getR (pc' := 96) dX12_beast_93 fl_X12_37 sh_69 rfl rfl rfl ?_
            refine ax_iload_n (pc' := 97) dX12_beast_96 rfl rfl ?_
            obtain ⟨hj97, H⟩ := H
            refine ax_aald (pc' := 98) dX12_beast_97 sh_101 hj97 rfl rfl ?_
            refine ax_iload_n (pc' := 99) dX12_beast_98 rfl rfl ?_
            obtain ⟨hj99, H⟩ := H
            refine ax_iald (pc' := 100) dX12_beast_99 (sh_r_102 _ (ac_lt hj97)) hj99 (sh_n_102 _ (ac_lt hj97)) rfl ?_
            exact ax_iret dX12_beast_100 rfl rfl rfl ⟨_, _, rfl, rfl, H⟩
          have H := H.2
          by_cases hk54_3 : p2 = (3 : Int32)
          · have H := H.1 hk54_3
            refine ax_tableIn (off := (47)) (tgt := 101) dX12_beast_54 (by rw [hk54_3]; decide) (by rw [hk54_3]; decide) (by rw [hk54_3]; rfl) (by decide) ?_
            refine ax_aload_n (pc' := 102) dX12_beast_101 rfl rfl ?_
            refine ax_getR (pc' := 105) dX12_beast_102 fl_X12_67 sh_69 rfl rfl rfl ?_
            refine ax_iconst (pc' := 106) (v := (0 : Int32)) dX12_beast_105 (by decide) rfl ?_
            refine ax_iload_n (pc' := 107) dX12_beast_106 rfl rfl ?_
            refine ax_iadd (pc' := 108) dX12_beast_107 rfl ?_
            obtain ⟨hj108, H⟩ := H
            refine ax_iald (pc' := 109) dX12_beast_108 sh_556 hj108 rfl rfl ?_
            exact ax_iret dX12_beast_109 rfl rfl rfl ⟨_, _, rfl, rfl, H⟩
          have H := H.2
          by_cases hk54_4 : p2 = (4 : Int32)
          · have H := H.1 hk54_4
            refine ax_tableIn (off := (56)) (tgt := 110) dX12_beast_54 (by rw [hk54_4]; decide) (by rw [hk54_4]; decide) (by rw [hk54_4]; rfl) (by decide) ?_
            refine ax_aload_n (pc' := 111) dX12_beast_110 rfl rfl ?_
            refine ax_getR (pc' := 114) dX12_beast_111 fl_X12_67 sh_69 rfl rfl rfl ?_
            refine ax_bipush (pc' := 116) (v := (26 : Int32)) dX12_beast_114 (by decide) rfl ?_
            refine ax_iload_n (pc' := 117) dX12_beast_116 rfl rfl ?_
            refine ax_iadd (pc' := 118) dX12_beast_117 rfl ?_
            obtain ⟨hj118, H⟩ := H
            refine ax_iald (pc' := 119) dX12_beast_118 sh_556 hj118 rfl rfl ?_
            exact ax_iret dX12_beast_119 rfl rfl rfl ⟨_, _, rfl, rfl, H⟩
          have H := H.2
          by_cases hk54_5 : p2 = (5 : Int32)
          · have H := H.1 hk54_5
            refine ax_tableIn (off := (66)) (tgt := 120) dX12_beast_54 (by rw [hk54_5]; decide) (by rw [hk54_5]; decide) (by rw [hk54_5]; rfl) (by decide) ?_
            refine ax_aload_n (pc' := 121) dX12_beast_120 rfl rfl ?_
            refine ax_getR (pc' := 124) dX12_beast_121 fl_X12_67 sh_69 rfl rfl rfl ?_
            refine ax_bipush (pc' := 126) (v := (13 : Int32)) dX12_beast_124 (by decide) rfl ?_
            refine ax_iload_n (pc' := 127) dX12_beast_126 rfl rfl ?_
            refine ax_iadd (pc' := 128) dX12_beast_127 rfl ?_
            obtain ⟨hj128, H⟩ := H
            refine ax_iald (pc' := 129) dX12_beast_128 sh_556 hj128 rfl rfl ?_
            exact ax_iret dX12_beast_129 rfl rfl rfl ⟨_, _, rfl, rfl, H⟩
          have H := H.2
          have H := H ⟨hk54_0, hk54_1, hk54_2, hk54_3, hk54_4, hk54_5⟩
          have hq0 : p2.toInt ≠ 0 := ac_ne hk54_0
          have hq1 : p2.toInt ≠ 1 := ac_ne hk54_1
          have hq2 : p2.toInt ≠ 2 := ac_ne hk54_2
          have hq3 : p2.toInt ≠ 3 := ac_ne hk54_3
          have hq4 : p2.toInt ≠ 4 := ac_ne hk54_4
          have hq5 : p2.toInt ≠ 5 := ac_ne hk54_5
          refine ax_tableOut (tgt := 130) dX12_beast_54 (by omega) (by decide) ?_
          refine ax_aload_n (pc' := 131) dX12_beast_130 rfl rfl ?_
          refine ax_aload_n (pc' := 132) dX12_beast_131 rfl rfl ?_
          refine ax_getR (pc' := 135) dX12_beast_132 fl_X12_67 sh_69 rfl rfl rfl ?_
          refine ax_iload_n (pc' := 136) dX12_beast_135 rfl rfl ?_
          refine ay_V2 (pc' := 139) (ce' := 0) (sl' := 0) (mc2 := 0) (ms2 := 0) (I2 := i_X12_eatOf) dX12_beast_136 ml_X12_294 sh_69 (by decide) rfl rfl rfl rfl rfl rfl rfl rfl rfl (ac_M.imp (o_X12_eatOf _ 556 p1 sh_556 rfl H) ?_)
          rintro _ _ ⟨r136, s136, rfl, rfl, H⟩
          exact ax_iret dX12_beast_139 rfl rfl rfl ⟨_, _, rfl, rfl, H⟩
        · have H := H.2 hc48
          refine ax_iconst (pc' := 52) (v := (0 : Int32)) dX12_beast_51 (by decide) rfl ?_
          exact ax_iret dX12_beast_52 rfl rfl rfl ⟨_, _, rfl, rfl, H⟩
