theorem o_X12_by {g : ac_G} {τ : Nat → Nat → Int64} (d : Nat) (p1 : Int32) (p2 : Int32) (p3 : Int32) {Q : Int32 → ac_m → Prop} {s : ac_m} (H : w_X12_by p1 p2 p3 Q s) : ac_M g i_X12_by (d + 1) 0 0 [.int p1, .int p2, .int p3] (false, 586, SH, s, τ) (liI τ Q) := by
  refine ac_ofX (by decide +kernel) rfl rfl rfl ?_
  refine ax_iload_n (pc' := 1) dX12_by_0 rfl rfl ?_
  by_cases hk1_2 : p1 = (2 : Int32)
  · have H := H.1 hk1_2
    refine ax_tableIn (off := (39)) (tgt := 40) dX12_by_1 (by rw [hk1_2]; decide) (by rw [hk1_2]; decide) (by rw [hk1_2]; rfl) (by decide) ?_
    refine ax_iload_n (pc' := 41) dX12_by_40 rfl rfl ?_
    refine ax_iload_n (pc' := 42) dX12_by_41 rfl rfl ?_
    refine ax_iadd (pc' := 43) dX12_by_42 rfl ?_
    exact ax_iret dX12_by_43 rfl rfl rfl ⟨_, _, rfl, rfl, H⟩
  have H := H.2
  by_cases hk1_3 : p1 = (3 : Int32)
  · have H := H.1 hk1_3
    refine ax_tableIn (off := (43)) (tgt := 44) dX12_by_1 (by rw [hk1_3]; decide) (by rw [hk1_3]; decide) (by rw [hk1_3]; rfl) (by decide) ?_
    refine ax_iload_n (pc' := 45) dX12_by_44 rfl rfl ?_
    refine ax_iload_n (pc' := 46) dX12_by_45 rfl rfl ?_
    refine ax_isub (pc' := 47) dX12_by_46 rfl ?_
    exact ax_iret dX12_by_47 rfl rfl rfl ⟨_, _, rfl, rfl, H⟩
  have H := H.2
  by_cases hk1_4 : p1 = (4 : Int32)
  · have H := H.1 hk1_4
    refine ax_tableIn (off := (47)) (tgt := 48) dX12_by_1 (by rw [hk1_4]; decide) (by rw [hk1_4]; decide) (by rw [hk1_4]; rfl) (by decide) ?_
    refine ax_iload_n (pc' := 49) dX12_by_48 rfl rfl ?_
    refine ax_iload_n (pc' := 50) dX12_by_49 rfl rfl ?_
    refine ax_imul (pc' := 51) dX12_by_50 rfl ?_
    exact ax_iret dX12_by_51 rfl rfl rfl ⟨_, _, rfl, rfl, H⟩
  have H := H.2
  by_cases hk1_5 : p1 = (5 : Int32)
  · have H := H.1 hk1_5
    refine ax_tableIn (off := (51)) (tgt := 52) dX12_by_1 (by rw [hk1_5]; decide) (by rw [hk1_5]; decide) (by rw [hk1_5]; rfl) (by decide) ?_
    refine ax_iload_n (pc' := 53) dX12_by_52 rfl rfl ?_
    refine ax_if_ne (pc' := 56) (tgt := 60) dX12_by_53 (by decide) rfl (fun hc53 => ?_) (fun hc53 => ?_)
    · have H := H.1 hc53
      refine ax_iload_n (pc' := 61) dX12_by_60 rfl rfl ?_
      refine ax_iconst (pc' := 62) (v := (-1 : Int32)) dX12_by_61 (by decide) rfl ?_
      refine ax_icmp_ne (pc' := 65) (tgt := 70) dX12_by_62 (by decide) rfl (fun hc62 => ?_) (fun hc62 => ?_)
      · have H := H.1 hc62
        refine ax_iload_n (pc' := 71) dX12_by_70 rfl rfl ?_
        refine ax_iload_n (pc' := 72) dX12_by_71 rfl rfl ?_
        obtain ⟨hz, H⟩ := H
        refine ax_idiv (pc' := 73) dX12_by_72 hz rfl ?_
        exact ax_iret dX12_by_73 rfl rfl rfl ⟨_, _, rfl, rfl, H⟩
      · have H := H.2 hc62
        refine ax_iload_n (pc' := 66) dX12_by_65 rfl rfl ?_
        refine ax_ineg (pc' := 67) dX12_by_66 rfl ?_
        refine ax_goto (tgt := 73) dX12_by_67 (by decide) ?_
        exact ax_iret dX12_by_73 rfl rfl rfl ⟨_, _, rfl, rfl, H⟩
    · have H := H.2 hc53
      refine ax_iconst (pc' := 57) (v := (0 : Int32)) dX12_by_56 (by decide) rfl ?_
      refine ax_goto (tgt := 73) dX12_by_57 (by decide) ?_
      exact ax_iret dX12_by_73 rfl rfl rfl ⟨_, _, rfl, rfl, H⟩
  have H := H.2
  by_cases hk1_6 : p1 = (6 : Int32)
  · have H := H.1 hk1_6
    refine ax_tableIn (off := (73)) (tgt := 74) dX12_by_1 (by rw [hk1_6]; decide) (by rw [hk1_6]; decide) (by rw [hk1_6]; rfl) (by decide) ?_
    refine ax_iload_n (pc' := 75) dX12_by_74 rfl rfl ?_
    refine ax_if_eq (pc' := 78) (tgt := 83) dX12_by_75 (by decide) rfl (fun hc75 => ?_) (fun hc75 => ?_)
    · have H := H.1 hc75
      refine ax_iconst (pc' := 84) (v := (0 : Int32)) dX12_by_83 (by decide) rfl ?_
      refine ax_goto (tgt := 90) dX12_by_84 (by decide) ?_
      exact ax_iret dX12_by_90 rfl rfl rfl ⟨_, _, rfl, rfl, H⟩
    · have H := H.2 hc75
      refine ax_iload_n (pc' := 79) dX12_by_78 rfl rfl ?_
      refine ax_iconst (pc' := 80) (v := (-1 : Int32)) dX12_by_79 (by decide) rfl ?_
      refine ax_icmp_ne (pc' := 83) (tgt := 87) dX12_by_80 (by decide) rfl (fun hc80 => ?_) (fun hc80 => ?_)
      · have H := H.1 hc80
        refine ax_iload_n (pc' := 88) dX12_by_87 rfl rfl ?_
        refine ax_iload_n (pc' := 89) dX12_by_88 rfl rfl ?_
        obtain ⟨hz, H⟩ := H
        refine ax_irem (pc' := 90) dX12_by_89 hz rfl ?_
        exact ax_iret dX12_by_90 rfl rfl rfl ⟨_, _, rfl, rfl, H⟩
      · have H := H.2 hc80
        refine ax_iconst (pc' := 84) (v := (0 : Int32)) dX12_by_83 (by decide) rfl ?_
        refine ax_goto (tgt := 90) dX12_by_84 (by decide) ?_
        exact ax_iret dX12_by_90 rfl rfl rfl ⟨_, _, rfl, rfl, H⟩
  have H := H.2
  by_cases hk1_7 : p1 = (7 : Int32)
  · have H := H.1 hk1_7
    refine ax_tableIn (off := (90)) (tgt := 91) dX12_by_1 (by rw [hk1_7]; decide) (by rw [hk1_7]; decide) (by rw [hk1_7]; rfl) (by decide) ?_
    refine ax_iload_n (pc' := 92) dX12_by_91 rfl rfl ?_
    refine ax_iload_n (pc' := 93) dX12_by_92 rfl rfl ?_
    refine ay_S2 (pc' := 96) (ce' := 0) (sl' := 0) (mc2 := 0) (ms2 := 0) (I2 := i_X12_less) dX12_by_93 ml_X12_247 rfl rfl rfl rfl rfl rfl rfl rfl (ac_M.imp (o_X12_less _ p2 p3 H) ?_)
    rintro _ _ ⟨r93, s93, rfl, rfl, H⟩
    exact ax_iret dX12_by_96 rfl rfl rfl ⟨_, _, rfl, rfl, H⟩
  have H := H.2
  have H := H ⟨hk1_2, hk1_3, hk1_4, hk1_5, hk1_6, hk1_7⟩
  have hq2 : p1.toInt ≠ 2 := ac_ne hk1_2
  have hq3 : p1.toInt ≠ 3 := ac_ne hk1_3
  have hq4 : p1.toInt ≠ 4 := ac_ne hk1_4
  have hq5 : p1.toInt ≠ 5 := ac_ne hk1_5
  have hq6 : p1.toInt ≠ 6 := ac_ne hk1_6
  have hq7 : p1.toInt ≠ 7 := ac_ne hk1_7
  refine ax_tableOut (tgt := 97) dX12_by_1 (by omega) (by decide) ?_
  refine ax_iload_n (pc' := 98) dX12_by_97 rfl rfl ?_
  refine ax_iload_n (pc' := 99) dX12_by_98 rfl rfl ?_
  refine ay_S2 (pc' := 102) (ce' := 0) (sl' := 0) (mc2 := 0) (ms2 := 0) (I2 := i_X12_more) dX12_by_99 ml_X12_250 rfl rfl rfl rfl rfl rfl rfl rfl (ac_M.imp (o_X12_more _ p2 p3 H) ?_)
  rintro _ _ ⟨r99, s99, rfl, rfl, H⟩
  exact ax_iret dX12_by_102 rfl rfl rfl ⟨_, _, rfl, rfl, H⟩
theorem ol_X12_byLaw_21 {g : ac_G} {τ : Nat → Nat → Int64} (d : Nat)  {Q : Int32 → ac_m → Prop}    {x1 : Int32} {x2 : Int32} {s : ac_m} (H : l_X12_byLaw_21  Q    x1 x2 s) : ac_X g i_X12_byLaw (d + 2) 0 0 (liI τ Q) 0 0 21 [some (.ref 69), some (.int x1), some (.int x2)] [] (false, 586, SH, s, τ) := by
  refine H (fun x1 x2 s => ac_X g i_X12_byLaw (d + 2) 0 0 (liI τ Q) 0 0 21 [some (.ref 69), some (.int x1), some (.int x2)] [] (false, 586, SH, s, τ)) ?_
  intro x1 x2 s H
  refine ax_iload_n (pc' := 22) dX12_byLaw_21 rfl rfl ?_
  refine ax_aload_n (pc' := 23) dX12_byLaw_22 rfl rfl ?_
  refine ax_getI (pc' := 26) dX12_byLaw_23 fl_X12_204 sh_69 rfl rfl rfl ?_
  refine ax_icmp_ge (pc' := 29) (tgt := 130) dX12_byLaw_26 (by decide) rfl (fun hc26 => ?_) (fun hc26 => ?_)
  · have H := H.1 hc26
    refine ax_bipush (pc' := 132) (v := (20 : Int32)) dX12_byLaw_130 (by decide) rfl ?_
    refine ax_iconst (pc' := 133) (v := (0 : Int32)) dX12_byLaw_132 (by decide) rfl ?_
    refine ax_aload_n (pc' := 134) dX12_byLaw_133 rfl rfl ?_
    refine ax_getR (pc' := 137) dX12_byLaw_134 fl_X12_58 sh_69 rfl rfl rfl ?_
    refine ax_iconst (pc' := 138) (v := (0 : Int32)) dX12_byLaw_137 (by decide) rfl ?_
    refine ax_iald (pc' := 139) dX12_byLaw_138 sh_473 (ac_in (by decide)) rfl rfl ?_
    refine ay_S2 (pc' := 142) (ce' := 0) (sl' := 0) (mc2 := 0) (ms2 := 0) (I2 := i_X12_more) dX12_byLaw_139 ml_X12_250 rfl rfl rfl rfl rfl rfl rfl rfl (ac_M.imp (o_X12_more _ (0 : Int32) (s 473 (0 : Int32).toNatClampNeg) H) ?_)
    rintro _ _ ⟨r139, s139, rfl, rfl, H⟩
    refine ay_S2 (pc' := 145) (ce' := 0) (sl' := 0) (mc2 := 0) (ms2 := 0) (I2 := i_X12_less) dX12_byLaw_142 ml_X12_247 rfl rfl rfl rfl rfl rfl rfl rfl (ac_M.imp (o_X12_less _ (20 : Int32) r139 H) ?_)
    rintro _ _ ⟨r142, s142, rfl, rfl, H⟩
    exact ax_iret dX12_byLaw_145 rfl rfl rfl ⟨_, _, rfl, rfl, H⟩
  · have H := H.2 hc26
    refine ax_aload_n (pc' := 30) dX12_byLaw_29 rfl rfl ?_
    refine ax_getR (pc' := 33) dX12_byLaw_30 fl_X12_46 sh_69 rfl rfl rfl ?_
    refine ax_iload_n (pc' := 34) dX12_byLaw_33 rfl rfl ?_
    obtain ⟨hj34, H⟩ := H
    refine ax_aald (pc' := 35) dX12_byLaw_34 sh_137 hj34 rfl rfl ?_
    refine ax_iconst (pc' := 36) (v := (0 : Int32)) dX12_byLaw_35 (by decide) rfl ?_
    refine ax_iald (pc' := 37) dX12_byLaw_36 (sh_r_138 _ (ac_lt hj34)) (ac_in (by decide)) (sh_n_138 _ (ac_lt hj34)) rfl ?_
    refine ax_iconst (pc' := 38) (v := (2 : Int32)) dX12_byLaw_37 (by decide) rfl ?_
    refine ax_icmp_ge (pc' := 41) (tgt := 88) dX12_byLaw_38 (by decide) rfl (fun hc38 => ?_) (fun hc38 => ?_)
    · have H := H.1 hc38
      refine ax_iinc (pc' := 91) (v := (x1 + (-1 : Int32))) dX12_byLaw_88 rfl rfl rfl rfl rfl ?_
      refine ax_aload_n (pc' := 92) dX12_byLaw_91 rfl rfl ?_
      refine ax_getR (pc' := 95) dX12_byLaw_92 fl_X12_58 sh_69 rfl rfl rfl ?_
      refine ax_iload_n (pc' := 96) dX12_byLaw_95 rfl rfl ?_
      refine ax_iconst (pc' := 97) (v := (1 : Int32)) dX12_byLaw_96 (by decide) rfl ?_
      refine ax_isub (pc' := 98) dX12_byLaw_97 rfl ?_
      refine ax_aload_n (pc' := 99) dX12_byLaw_98 rfl rfl ?_
      refine ax_getR (pc' := 102) dX12_byLaw_99 fl_X12_46 sh_69 rfl rfl rfl ?_
      refine ax_iload_n (pc' := 103) dX12_byLaw_102 rfl rfl ?_
      obtain ⟨hj103, H⟩ := H
      refine ax_aald (pc' := 104) dX12_byLaw_103 sh_137 hj103 rfl rfl ?_
      refine ax_iconst (pc' := 105) (v := (0 : Int32)) dX12_byLaw_104 (by decide) rfl ?_
      refine ax_iald (pc' := 106) dX12_byLaw_105 (sh_r_138 _ (ac_lt hj103)) (ac_in (by decide)) (sh_n_138 _ (ac_lt hj103)) rfl ?_
      refine ax_aload_n (pc' := 107) dX12_byLaw_106 rfl rfl ?_
      refine ax_getR (pc' := 110) dX12_byLaw_107 fl_X12_58 sh_69 rfl rfl rfl ?_
      refine ax_iload_n (pc' := 111) dX12_byLaw_110 rfl rfl ?_
      refine ax_iconst (pc' := 112) (v := (1 : Int32)) dX12_byLaw_111 (by decide) rfl ?_
      refine ax_isub (pc' := 113) dX12_byLaw_112 rfl ?_
      obtain ⟨hj113, H⟩ := H
      refine ax_iald (pc' := 114) dX12_byLaw_113 sh_473 hj113 rfl rfl ?_
      refine ax_aload_n (pc' := 115) dX12_byLaw_114 rfl rfl ?_
      refine ax_getR (pc' := 118) dX12_byLaw_115 fl_X12_58 sh_69 rfl rfl rfl ?_
      refine ax_iload_n (pc' := 119) dX12_byLaw_118 rfl rfl ?_
      obtain ⟨hj119, H⟩ := H
      refine ax_iald (pc' := 120) dX12_byLaw_119 sh_473 hj119 rfl rfl ?_
      refine ay_S3 (pc' := 123) (ce' := 0) (sl' := 0) (mc2 := 0) (ms2 := 0) (I2 := i_X12_by) dX12_byLaw_120 ml_X12_253 rfl rfl rfl rfl rfl rfl rfl rfl (ac_M.imp (o_X12_by _ (s (138 + x2.toNatClampNeg) (0 : Int32).toNatClampNeg) (s 473 ((x1 + (-1 : Int32)) - (1 : Int32)).toNatClampNeg) (s 473 (x1 + (-1 : Int32)).toNatClampNeg) H) ?_)
      rintro _ _ ⟨r120, s120, rfl, rfl, H⟩
      obtain ⟨hj123, H⟩ := H
      refine ax_iast (pc' := 124) dX12_byLaw_123 sh_473 hj123 rfl rfl ?_
      refine ax_iinc (pc' := 127) (v := (x2 + (1 : Int32))) dX12_byLaw_124 rfl rfl rfl rfl rfl ?_
      refine ax_goto (tgt := 21) dX12_byLaw_127 (by decide) ?_
      exact H
    · have H := H.2 hc38
      refine ax_aload_n (pc' := 42) dX12_byLaw_41 rfl rfl ?_
      refine ax_getR (pc' := 45) dX12_byLaw_42 fl_X12_58 sh_69 rfl rfl rfl ?_
      refine ax_iload_n (pc' := 46) dX12_byLaw_45 rfl rfl ?_
      refine ax_aload_n (pc' := 47) dX12_byLaw_46 rfl rfl ?_
      refine ax_getR (pc' := 50) dX12_byLaw_47 fl_X12_46 sh_69 rfl rfl rfl ?_
      refine ax_iload_n (pc' := 51) dX12_byLaw_50 rfl rfl ?_
      obtain ⟨hj51, H⟩ := H
      refine ax_aald (pc' := 52) dX12_byLaw_51 sh_137 hj51 rfl rfl ?_
      refine ax_iconst (pc' := 53) (v := (0 : Int32)) dX12_byLaw_52 (by decide) rfl ?_
      refine ax_iald (pc' := 54) dX12_byLaw_53 (sh_r_138 _ (ac_lt hj51)) (ac_in (by decide)) (sh_n_138 _ (ac_lt hj51)) rfl ?_
      refine ax_if_ne (pc' := 57) (tgt := 68) dX12_byLaw_54 (by decide) rfl (fun hc54 => ?_) (fun hc54 => ?_)
      · have H := H.1 hc54
        refine ax_aload_n (pc' := 69) dX12_byLaw_68 rfl rfl ?_
        refine ax_getR (pc' := 72) dX12_byLaw_69 fl_X12_61 sh_69 rfl rfl rfl ?_
        refine ax_aload_n (pc' := 73) dX12_byLaw_72 rfl rfl ?_
        refine ax_getR (pc' := 76) dX12_byLaw_73 fl_X12_46 sh_69 rfl rfl rfl ?_
        refine ax_iload_n (pc' := 77) dX12_byLaw_76 rfl rfl ?_
        obtain ⟨hj77, H⟩ := H
        refine ax_aald (pc' := 78) dX12_byLaw_77 sh_137 hj77 rfl rfl ?_
        refine ax_iconst (pc' := 79) (v := (1 : Int32)) dX12_byLaw_78 (by decide) rfl ?_
        refine ax_iald (pc' := 80) dX12_byLaw_79 (sh_r_138 _ (ac_lt hj77)) (ac_in (by decide)) (sh_n_138 _ (ac_lt hj77)) rfl ?_
        obtain ⟨hj80, H⟩ := H
        refine ax_iald (pc' := 81) dX12_byLaw_80 sh_474 hj80 rfl rfl ?_
        obtain ⟨hj81, H⟩ := H
        refine ax_iast (pc' := 82) dX12_byLaw_81 sh_473 hj81 rfl rfl ?_
        refine ax_iinc (pc' := 85) (v := (x1 + (1 : Int32))) dX12_byLaw_82 rfl rfl rfl rfl rfl ?_
        refine ax_goto (tgt := 124) dX12_byLaw_85 (by decide) ?_
        refine ax_iinc (pc' := 127) (v := (x2 + (1 : Int32))) dX12_byLaw_124 rfl rfl rfl rfl rfl ?_
        refine ax_goto (tgt := 21) dX12_byLaw_127 (by decide) ?_
        exact H
      · have H := H.2 hc54
        refine ax_aload_n (pc' := 58) dX12_byLaw_57 rfl rfl ?_
        refine ax_getR (pc' := 61) dX12_byLaw_58 fl_X12_46 sh_69 rfl rfl rfl ?_
        refine ax_iload_n (pc' := 62) dX12_byLaw_61 rfl rfl ?_
        obtain ⟨hj62, H⟩ := H
        refine ax_aald (pc' := 63) dX12_byLaw_62 sh_137 hj62 rfl rfl ?_
        refine ax_iconst (pc' := 64) (v := (1 : Int32)) dX12_byLaw_63 (by decide) rfl ?_
        refine ax_iald (pc' := 65) dX12_byLaw_64 (sh_r_138 _ (ac_lt hj62)) (ac_in (by decide)) (sh_n_138 _ (ac_lt hj62)) rfl ?_
        refine ax_goto (tgt := 81) dX12_byLaw_65 (by decide) ?_
        obtain ⟨hj81, H⟩ := H
        refine ax_iast (pc' := 82) dX12_byLaw_81 sh_473 hj81 rfl rfl ?_
        refine ax_iinc (pc' := 85) (v := (x1 + (1 : Int32))) dX12_byLaw_82 rfl rfl rfl rfl rfl ?_
        refine ax_goto (tgt := 124) dX12_byLaw_85 (by decide) ?_
        refine ax_iinc (pc' := 127) (v := (x2 + (1 : Int32))) dX12_byLaw_124 rfl rfl rfl rfl rfl ?_
        refine ax_goto (tgt := 21) dX12_byLaw_127 (by decide) ?_
        exact H
theorem o_X12_byLaw {g : ac_G} {τ : Nat → Nat → Int64} (d : Nat)  {Q : Int32 → ac_m → Prop} {s : ac_m} (H : w_X12_byLaw  Q s) : ac_M g i_X12_byLaw (d + 2) 0 0 [.ref 69] (false, 586, SH, s, τ) (liI τ Q) := by
  refine ac_ofX (by decide +kernel) rfl rfl rfl ?_
  refine ax_iconst (pc' := 1) (v := (0 : Int32)) dX12_byLaw_0 (by decide) rfl ?_
  refine ax_istore_n (pc' := 2) dX12_byLaw_1 rfl rfl rfl ?_
  refine ax_aload_n (pc' := 3) dX12_byLaw_2 rfl rfl ?_
  refine ax_getR (pc' := 6) dX12_byLaw_3 fl_X12_58 sh_69 rfl rfl rfl ?_
  refine ax_iconst (pc' := 7) (v := (0 : Int32)) dX12_byLaw_6 (by decide) rfl ?_
  refine ax_iconst (pc' := 8) (v := (1 : Int32)) dX12_byLaw_7 (by decide) rfl ?_
  refine ax_aload_n (pc' := 9) dX12_byLaw_8 rfl rfl ?_
  refine ax_getR (pc' := 12) dX12_byLaw_9 fl_X12_61 sh_69 rfl rfl rfl ?_
  refine ax_iconst (pc' := 13) (v := (0 : Int32)) dX12_byLaw_12 (by decide) rfl ?_
  refine ax_iald (pc' := 14) dX12_byLaw_13 sh_474 (ac_in (by decide)) rfl rfl ?_
  refine ax_bipush (pc' := 16) (v := (10 : Int32)) dX12_byLaw_14 (by decide) rfl ?_
  refine ax_idiv (pc' := 17) dX12_byLaw_16 (by decide) rfl ?_
  refine ax_iadd (pc' := 18) dX12_byLaw_17 rfl ?_
  refine ax_iast (pc' := 19) dX12_byLaw_18 sh_473 (ac_in (by decide)) rfl rfl ?_
  refine ax_iconst (pc' := 20) (v := (0 : Int32)) dX12_byLaw_19 (by decide) rfl ?_
  refine ax_istore_n (pc' := 21) dX12_byLaw_20 rfl rfl rfl ?_
  refine ol_X12_byLaw_21 d       H
theorem o_X12_stepHere {g : ac_G} {τ : Nat → Nat → Int64} (d : Nat)  {Q : Int32 → ac_m → Prop} {s : ac_m} (H : w_X12_stepHere  Q s) : ac_M g i_X12_stepHere (d + 4) 0 0 [.ref 69] (false, 586, SH, s, τ) (liI τ Q) := by
  refine ac_ofX (by decide +kernel) rfl rfl rfl ?_
  refine ax_aload_n (pc' := 1) dX12_stepHere_0 rfl rfl ?_
  refine ax_iconst (pc' := 2) (v := (1 : Int32)) dX12_stepHere_1 (by decide) rfl ?_
  refine ax_bipush (pc' := 4) (v := (19 : Int32)) dX12_stepHere_2 (by decide) rfl ?_
  refine ax_bipush (pc' := 6) (v := (11 : Int32)) dX12_stepHere_4 (by decide) rfl ?_
  refine ax_iconst (pc' := 7) (v := (0 : Int32)) dX12_stepHere_6 (by decide) rfl ?_
  refine ax_iconst (pc' := 8) (v := (0 : Int32)) dX12_stepHere_7 (by decide) rfl ?_
  refine ax_iconst (pc' := 9) (v := (0 : Int32)) dX12_stepHere_8 (by decide) rfl ?_
  refine ay_V6 (pc' := 12) (ce' := 0) (sl' := 0) (mc2 := 0) (ms2 := 0) (I2 := i_X12_isWord) dX12_stepHere_9 ml_X12_153 sh_69 (by decide) rfl rfl rfl rfl rfl rfl rfl rfl rfl (ac_M.imp (o_X12_isWord _ (1 : Int32) (19 : Int32) (11 : Int32) (0 : Int32) (0 : Int32) (0 : Int32) H) ?_)
  rintro _ _ ⟨r9, s9, rfl, rfl, H⟩
  refine ax_if_eq (pc' := 15) (tgt := 17) dX12_stepHere_12 (by decide) rfl (fun hc12 => ?_) (fun hc12 => ?_)
  · have H := H.1 hc12
    refine ax_aload_n (pc' := 18) dX12_stepHere_17 rfl rfl ?_
    refine ax_iconst (pc' := 19) (v := (4 : Int32)) dX12_stepHere_18 (by decide) rfl ?_
    refine ax_bipush (pc' := 21) (v := (18 : Int32)) dX12_stepHere_19 (by decide) rfl ?_
    refine ax_bipush (pc' := 23) (v := (9 : Int32)) dX12_stepHere_21 (by decide) rfl ?_
    refine ax_bipush (pc' := 25) (v := (22 : Int32)) dX12_stepHere_23 (by decide) rfl ?_
    refine ax_iconst (pc' := 26) (v := (5 : Int32)) dX12_stepHere_25 (by decide) rfl ?_
    refine ax_iconst (pc' := 27) (v := (0 : Int32)) dX12_stepHere_26 (by decide) rfl ?_
    refine ay_V6 (pc' := 30) (ce' := 0) (sl' := 0) (mc2 := 0) (ms2 := 0) (I2 := i_X12_isWord) dX12_stepHere_27 ml_X12_153 sh_69 (by decide) rfl rfl rfl rfl rfl rfl rfl rfl rfl (ac_M.imp (o_X12_isWord _ (4 : Int32) (18 : Int32) (9 : Int32) (22 : Int32) (5 : Int32) (0 : Int32) H) ?_)
    rintro _ _ ⟨r27, s27, rfl, rfl, H⟩
    refine ax_if_eq (pc' := 33) (tgt := 35) dX12_stepHere_30 (by decide) rfl (fun hc30 => ?_) (fun hc30 => ?_)
    · have H := H.1 hc30
      refine ax_aload_n (pc' := 36) dX12_stepHere_35 rfl rfl ?_
      refine ax_bipush (pc' := 38) (v := (11 : Int32)) dX12_stepHere_36 (by decide) rfl ?_
      refine ax_bipush (pc' := 40) (v := (9 : Int32)) dX12_stepHere_38 (by decide) rfl ?_
      refine ax_bipush (pc' := 42) (v := (12 : Int32)) dX12_stepHere_40 (by decide) rfl ?_
      refine ax_bipush (pc' := 44) (v := (12 : Int32)) dX12_stepHere_42 (by decide) rfl ?_
      refine ax_iconst (pc' := 45) (v := (0 : Int32)) dX12_stepHere_44 (by decide) rfl ?_
      refine ax_iconst (pc' := 46) (v := (0 : Int32)) dX12_stepHere_45 (by decide) rfl ?_
      refine ay_V6 (pc' := 49) (ce' := 0) (sl' := 0) (mc2 := 0) (ms2 := 0) (I2 := i_X12_isWord) dX12_stepHere_46 ml_X12_153 sh_69 (by decide) rfl rfl rfl rfl rfl rfl rfl rfl rfl (ac_M.imp (o_X12_isWord _ (11 : Int32) (9 : Int32) (12 : Int32) (12 : Int32) (0 : Int32) (0 : Int32) H) ?_)
      rintro _ _ ⟨r46, s46, rfl, rfl, H⟩
      refine ax_if_eq (pc' := 52) (tgt := 54) dX12_stepHere_49 (by decide) rfl (fun hc49 => ?_) (fun hc49 => ?_)
      · have H := H.1 hc49
        refine ax_aload_n (pc' := 55) dX12_stepHere_54 rfl rfl ?_
        refine ay_V0 (pc' := 58) (ce' := 0) (sl' := 0) (mc2 := 0) (ms2 := 0) (I2 := i_X12_wordHere) dX12_stepHere_55 ml_X12_145 sh_69 (by decide) rfl rfl rfl rfl rfl rfl rfl rfl rfl (ac_M.imp (o_X12_wordHere _  H) ?_)
        rintro _ _ ⟨r55, s55, rfl, rfl, H⟩
        refine ax_bipush (pc' := 60) (v := (123 : Int32)) dX12_stepHere_58 (by decide) rfl ?_
        refine ax_icmp_ne (pc' := 63) (tgt := 65) dX12_stepHere_60 (by decide) rfl (fun hc60 => ?_) (fun hc60 => ?_)
        · have H := H.1 hc60
          refine ax_aload_n (pc' := 66) dX12_stepHere_65 rfl rfl ?_
          refine ax_bipush (pc' := 68) (v := (8 : Int32)) dX12_stepHere_66 (by decide) rfl ?_
          refine ax_iconst (pc' := 69) (v := (1 : Int32)) dX12_stepHere_68 (by decide) rfl ?_
          refine ax_bipush (pc' := 71) (v := (25 : Int32)) dX12_stepHere_69 (by decide) rfl ?_
          refine ax_iconst (pc' := 72) (v := (0 : Int32)) dX12_stepHere_71 (by decide) rfl ?_
          refine ax_iconst (pc' := 73) (v := (0 : Int32)) dX12_stepHere_72 (by decide) rfl ?_
          refine ax_iconst (pc' := 74) (v := (0 : Int32)) dX12_stepHere_73 (by decide) rfl ?_
          refine ay_V6 (pc' := 77) (ce' := 0) (sl' := 0) (mc2 := 0) (ms2 := 0) (I2 := i_X12_isWord) dX12_stepHere_74 ml_X12_153 sh_69 (by decide) rfl rfl rfl rfl rfl rfl rfl rfl rfl (ac_M.imp (o_X12_isWord _ (8 : Int32) (1 : Int32) (25 : Int32) (0 : Int32) (0 : Int32) (0 : Int32) H) ?_)
          rintro _ _ ⟨r74, s74, rfl, rfl, H⟩
          refine ax_if_eq (pc' := 80) (tgt := 82) dX12_stepHere_77 (by decide) rfl (fun hc77 => ?_) (fun hc77 => ?_)
          · have H := H.1 hc77
            refine ax_aload_n (pc' := 83) dX12_stepHere_82 rfl rfl ?_
            refine ax_iconst (pc' := 84) (v := (4 : Int32)) dX12_stepHere_83 (by decide) rfl ?_
            refine ax_iconst (pc' := 85) (v := (1 : Int32)) dX12_stepHere_84 (by decide) rfl ?_
            refine ax_bipush (pc' := 87) (v := (25 : Int32)) dX12_stepHere_85 (by decide) rfl ?_
            refine ax_iconst (pc' := 88) (v := (0 : Int32)) dX12_stepHere_87 (by decide) rfl ?_
            refine ax_iconst (pc' := 89) (v := (0 : Int32)) dX12_stepHere_88 (by decide) rfl ?_
            refine ax_iconst (pc' := 90) (v := (0 : Int32)) dX12_stepHere_89 (by decide) rfl ?_
            refine ay_V6 (pc' := 93) (ce' := 0) (sl' := 0) (mc2 := 0) (ms2 := 0) (I2 := i_X12_isWord) dX12_stepHere_90 ml_X12_153 sh_69 (by decide) rfl rfl rfl rfl rfl rfl rfl rfl rfl (ac_M.imp (o_X12_isWord _ (4 : Int32) (1 : Int32) (25 : Int32) (0 : Int32) (0 : Int32) (0 : Int32) H) ?_)
            rintro _ _ ⟨r90, s90, rfl, rfl, H⟩
            refine ax_if_eq (pc' := 96) (tgt := 98) dX12_stepHere_93 (by decide) rfl (fun hc93 => ?_) (fun hc93 => ?_)
            · have H := H.1 hc93
              refine ax_aload_n (pc' := 99) dX12_stepHere_98 rfl rfl ?_
              refine ax_iconst (pc' := 100) (v := (1 : Int32)) dX12_stepHere_99 (by decide) rfl ?_
              refine ax_bipush (pc' := 102) (v := (7 : Int32)) dX12_stepHere_100 (by decide) rfl ?_
              refine ax_iconst (pc' := 103) (v := (1 : Int32)) dX12_stepHere_102 (by decide) rfl ?_
              refine ax_bipush (pc' := 105) (v := (9 : Int32)) dX12_stepHere_103 (by decide) rfl ?_
              refine ax_bipush (pc' := 107) (v := (14 : Int32)) dX12_stepHere_105 (by decide) rfl ?_
              refine ax_iconst (pc' := 108) (v := (0 : Int32)) dX12_stepHere_107 (by decide) rfl ?_
              refine ay_V6 (pc' := 111) (ce' := 0) (sl' := 0) (mc2 := 0) (ms2 := 0) (I2 := i_X12_isWord) dX12_stepHere_108 ml_X12_153 sh_69 (by decide) rfl rfl rfl rfl rfl rfl rfl rfl rfl (ac_M.imp (o_X12_isWord _ (1 : Int32) (7 : Int32) (1 : Int32) (9 : Int32) (14 : Int32) (0 : Int32) H) ?_)
              rintro _ _ ⟨r108, s108, rfl, rfl, H⟩
              refine ax_if_eq (pc' := 114) (tgt := 119) dX12_stepHere_111 (by decide) rfl (fun hc111 => ?_) (fun hc111 => ?_)
              · have H := H.1 hc111
                refine ax_iconst (pc' := 120) (v := (-1 : Int32)) dX12_stepHere_119 (by decide) rfl ?_
                exact ax_iret dX12_stepHere_120 rfl rfl rfl ⟨_, _, rfl, rfl, H⟩
              · have H := H.2 hc111
                refine ax_bipush (pc' := 116) (v := (6 : Int32)) dX12_stepHere_114 (by decide) rfl ?_
                refine ax_goto (tgt := 120) dX12_stepHere_116 (by decide) ?_
                exact ax_iret dX12_stepHere_120 rfl rfl rfl ⟨_, _, rfl, rfl, H⟩
            · have H := H.2 hc93
              refine ax_iconst (pc' := 97) (v := (5 : Int32)) dX12_stepHere_96 (by decide) rfl ?_
              exact ax_iret dX12_stepHere_97 rfl rfl rfl ⟨_, _, rfl, rfl, H⟩
          · have H := H.2 hc77
            refine ax_iconst (pc' := 81) (v := (4 : Int32)) dX12_stepHere_80 (by decide) rfl ?_
            exact ax_iret dX12_stepHere_81 rfl rfl rfl ⟨_, _, rfl, rfl, H⟩
        · have H := H.2 hc60
          refine ax_iconst (pc' := 64) (v := (3 : Int32)) dX12_stepHere_63 (by decide) rfl ?_
          exact ax_iret dX12_stepHere_64 rfl rfl rfl ⟨_, _, rfl, rfl, H⟩
      · have H := H.2 hc49
        refine ax_iconst (pc' := 53) (v := (2 : Int32)) dX12_stepHere_52 (by decide) rfl ?_
        exact ax_iret dX12_stepHere_53 rfl rfl rfl ⟨_, _, rfl, rfl, H⟩
    · have H := H.2 hc30
      refine ax_iconst (pc' := 34) (v := (1 : Int32)) dX12_stepHere_33 (by decide) rfl ?_
      exact ax_iret dX12_stepHere_34 rfl rfl rfl ⟨_, _, rfl, rfl, H⟩
  · have H := H.2 hc12
    refine ax_iconst (pc' := 16) (v := (0 : Int32)) dX12_stepHere_15 (by decide) rfl ?_
    exact ax_iret dX12_stepHere_16 rfl rfl rfl ⟨_, _, rfl, rfl, H⟩
theorem ol_X12_readsStep_168 {g : ac_G} {τ : Nat → Nat → Int64} (d : Nat)  {Rr : (ac_m → Prop) → ac_m → Prop} (hRr : ∀ (e : Nat)  (Q : ac_m → Prop) (s : ac_m), Rr  Q s → ac_M g i_X12_readsStep (d + e) 0 0 [.ref 69] (false, 586, SH, s, τ) (liV τ Q)) {Q : ac_m → Prop}   (q2 : Nat)  {s : ac_m} (hq2 : SH q2 = .inl (0, 4, 0)) (hm2 : Nat.blt q2 586 = true) (H : l_X12_readsStep_168  Q Rr   q2  s) : ac_X g i_X12_readsStep (d + 5) 0 0 (liV τ Q) 0 0 168 [some (.ref 69), none, some (.ref q2)] [] (false, 586, SH, s, τ) := by
  refine H (fun  s => ac_X g i_X12_readsStep (d + 5) 0 0 (liV τ Q) 0 0 168 [some (.ref 69), none, some (.ref q2)] [] (false, 586, SH, s, τ)) ?_
  intro  s H
  refine ax_aload_n (pc' := 169) dX12_readsStep_168 rfl rfl ?_
  refine ax_getI (pc' := 172) dX12_readsStep_169 fl_X12_120 sh_69 rfl rfl rfl ?_
  refine ax_if_ne (pc' := 175) (tgt := 199) dX12_readsStep_172 (by decide) rfl (fun hc172 => ?_) (fun hc172 => ?_)
  · have H := H.1 hc172
    refine ax_aload_n (pc' := 200) dX12_readsStep_199 rfl rfl ?_
    refine ax_bipush (pc' := 202) (v := (93 : Int32)) dX12_readsStep_200 (by decide) rfl ?_
    refine ay_V1 (pc' := 205) (ce' := 0) (sl' := 0) (mc2 := 0) (ms2 := 0) (I2 := i_X12_sign) dX12_readsStep_202 ml_X12_179 sh_69 (by decide) rfl rfl rfl rfl rfl rfl rfl rfl rfl (ac_M.imp (o_X12_sign _ (93 : Int32) H) ?_)
    rintro _ _ ⟨s202, rfl, rfl, H⟩
    refine ax_aload_n (pc' := 206) dX12_readsStep_205 rfl rfl ?_
    refine ax_dup (pc' := 207) dX12_readsStep_206 rfl rfl ?_
    refine ax_getI (pc' := 210) dX12_readsStep_207 fl_X12_163 sh_69 rfl rfl rfl ?_
    refine ax_iconst (pc' := 211) (v := (1 : Int32)) dX12_readsStep_210 (by decide) rfl ?_
    refine ax_isub (pc' := 212) dX12_readsStep_211 rfl ?_
    refine ax_putI (pc' := 215) dX12_readsStep_212 fp_X12_163 sh_69 rfl rfl rfl ?_
    refine ax_aload_n (pc' := 216) dX12_readsStep_215 rfl rfl ?_
    refine ax_iconst (pc' := 217) (v := (3 : Int32)) dX12_readsStep_216 (by decide) rfl ?_
    refine ax_aload_n (pc' := 218) dX12_readsStep_217 rfl rfl ?_
    refine ax_getI (pc' := 221) dX12_readsStep_218 fl_X12_260 sh_69 rfl rfl rfl ?_
    refine ax_iast (pc' := 222) dX12_readsStep_221 hq2 (ac_in (by decide)) hm2 rfl ?_
    refine ax_aload_n (pc' := 223) dX12_readsStep_222 rfl rfl ?_
    refine ax_bipush (pc' := 225) (v := (59 : Int32)) dX12_readsStep_223 (by decide) rfl ?_
    refine ay_V1 (pc' := 228) (ce' := 0) (sl' := 0) (mc2 := 0) (ms2 := 0) (I2 := i_X12_sign) dX12_readsStep_225 ml_X12_179 sh_69 (by decide) rfl rfl rfl rfl rfl rfl rfl rfl rfl (ac_M.imp (o_X12_sign _ (59 : Int32) H) ?_)
    rintro _ _ ⟨s225, rfl, rfl, H⟩
    exact ax_vret dX12_readsStep_228 rfl rfl rfl ⟨_, rfl, rfl, H⟩
  · have H := H.2 hc172
    refine ax_aload_n (pc' := 176) dX12_readsStep_175 rfl rfl ?_
    refine ax_aload_n (pc' := 177) dX12_readsStep_176 rfl rfl ?_
    refine ax_getI (pc' := 180) dX12_readsStep_177 fl_X12_113 sh_69 rfl rfl rfl ?_
    refine ay_V1 (pc' := 183) (ce' := 0) (sl' := 0) (mc2 := 0) (ms2 := 0) (I2 := i_X12_byteAt) dX12_readsStep_180 ml_X12_116 sh_69 (by decide) rfl rfl rfl rfl rfl rfl rfl rfl rfl (ac_M.imp (o_X12_byteAt _ (s 69 4) H) ?_)
    rintro _ _ ⟨r180, s180, rfl, rfl, H⟩
    refine ax_bipush (pc' := 185) (v := (93 : Int32)) dX12_readsStep_183 (by decide) rfl ?_
    refine ax_icmp_eq (pc' := 188) (tgt := 199) dX12_readsStep_185 (by decide) rfl (fun hc185 => ?_) (fun hc185 => ?_)
    · have H := H.1 hc185
      refine ax_aload_n (pc' := 200) dX12_readsStep_199 rfl rfl ?_
      refine ax_bipush (pc' := 202) (v := (93 : Int32)) dX12_readsStep_200 (by decide) rfl ?_
      refine ay_V1 (pc' := 205) (ce' := 0) (sl' := 0) (mc2 := 0) (ms2 := 0) (I2 := i_X12_sign) dX12_readsStep_202 ml_X12_179 sh_69 (by decide) rfl rfl rfl rfl rfl rfl rfl rfl rfl (ac_M.imp (o_X12_sign _ (93 : Int32) H) ?_)
      rintro _ _ ⟨s202, rfl, rfl, H⟩
      refine ax_aload_n (pc' := 206) dX12_readsStep_205 rfl rfl ?_
      refine ax_dup (pc' := 207) dX12_readsStep_206 rfl rfl ?_
      refine ax_getI (pc' := 210) dX12_readsStep_207 fl_X12_163 sh_69 rfl rfl rfl ?_
      refine ax_iconst (pc' := 211) (v := (1 : Int32)) dX12_readsStep_210 (by decide) rfl ?_
      refine ax_isub (pc' := 212) dX12_readsStep_211 rfl ?_
      refine ax_putI (pc' := 215) dX12_readsStep_212 fp_X12_163 sh_69 rfl rfl rfl ?_
      refine ax_aload_n (pc' := 216) dX12_readsStep_215 rfl rfl ?_
      refine ax_iconst (pc' := 217) (v := (3 : Int32)) dX12_readsStep_216 (by decide) rfl ?_
      refine ax_aload_n (pc' := 218) dX12_readsStep_217 rfl rfl ?_
      refine ax_getI (pc' := 221) dX12_readsStep_218 fl_X12_260 sh_69 rfl rfl rfl ?_
      refine ax_iast (pc' := 222) dX12_readsStep_221 hq2 (ac_in (by decide)) hm2 rfl ?_
      refine ax_aload_n (pc' := 223) dX12_readsStep_222 rfl rfl ?_
      refine ax_bipush (pc' := 225) (v := (59 : Int32)) dX12_readsStep_223 (by decide) rfl ?_
      refine ay_V1 (pc' := 228) (ce' := 0) (sl' := 0) (mc2 := 0) (ms2 := 0) (I2 := i_X12_sign) dX12_readsStep_225 ml_X12_179 sh_69 (by decide) rfl rfl rfl rfl rfl rfl rfl rfl rfl (ac_M.imp (o_X12_sign _ (59 : Int32) H) ?_)
      rintro _ _ ⟨s225, rfl, rfl, H⟩
      exact ax_vret dX12_readsStep_228 rfl rfl rfl ⟨_, rfl, rfl, H⟩
    · have H := H.2 hc185
      refine ax_aload_n (pc' := 189) dX12_readsStep_188 rfl rfl ?_
      refine ay_V0 (pc' := 192) (ce' := 0) (sl' := 0) (mc2 := 0) (ms2 := 0) (I2 := i_X12_readsStep) dX12_readsStep_189 ml_X12_263 sh_69 (by decide) rfl rfl rfl rfl rfl rfl rfl rfl rfl (ac_M.imp (hRr _  _ _ H) ?_)
      rintro _ _ ⟨s189, rfl, rfl, H⟩
      refine ax_aload_n (pc' := 193) dX12_readsStep_192 rfl rfl ?_
      refine ay_V0 (pc' := 196) (ce' := 0) (sl' := 0) (mc2 := 0) (ms2 := 0) (I2 := i_X12_blanks) dX12_readsStep_193 ml_X12_126 sh_69 (by decide) rfl rfl rfl rfl rfl rfl rfl rfl rfl (ac_M.imp (o_X12_blanks _  H) ?_)
      rintro _ _ ⟨s193, rfl, rfl, H⟩
      refine ax_goto (tgt := 168) dX12_readsStep_196 (by decide) ?_
      exact H
theorem o_X12_readsStep {g : ac_G} {τ : Nat → Nat → Int64} (d : Nat)  {Rr : (ac_m → Prop) → ac_m → Prop} (hRr : ∀ (e : Nat)  (Q : ac_m → Prop) (s : ac_m), Rr  Q s → ac_M g i_X12_readsStep (d + e) 0 0 [.ref 69] (false, 586, SH, s, τ) (liV τ Q)) {Q : ac_m → Prop} {s : ac_m} (H : w_X12_readsStep  Q Rr s) : ac_M g i_X12_readsStep (d + 5) 0 0 [.ref 69] (false, 586, SH, s, τ) (liV τ Q) := by
  refine ac_ofX (by decide +kernel) rfl rfl rfl ?_
  refine ax_aload_n (pc' := 1) dX12_readsStep_0 rfl rfl ?_
  refine ay_V0 (pc' := 4) (ce' := 0) (sl' := 0) (mc2 := 0) (ms2 := 0) (I2 := i_X12_stepHere) dX12_readsStep_1 ml_X12_257 sh_69 (by decide) rfl rfl rfl rfl rfl rfl rfl rfl rfl (ac_M.imp (o_X12_stepHere _  H) ?_)
  rintro _ _ ⟨r1, s1, rfl, rfl, H⟩
  refine ax_istore_n (pc' := 5) dX12_readsStep_4 rfl rfl rfl ?_
  refine ax_iload_n (pc' := 6) dX12_readsStep_5 rfl rfl ?_
  refine ax_iconst (pc' := 7) (v := (-1 : Int32)) dX12_readsStep_6 (by decide) rfl ?_
  refine ax_icmp_ne (pc' := 10) (tgt := 19) dX12_readsStep_7 (by decide) rfl (fun hc7 => ?_) (fun hc7 => ?_)
  · have H := H.1 hc7
    refine ax_iload_n (pc' := 20) dX12_readsStep_19 rfl rfl ?_
    refine ax_bipush (pc' := 22) (v := (6 : Int32)) dX12_readsStep_20 (by decide) rfl ?_
    refine ax_icmp_ne (pc' := 25) (tgt := 33) dX12_readsStep_22 (by decide) rfl (fun hc22 => ?_) (fun hc22 => ?_)
    · have H := H.1 hc22
      refine ax_aload_n (pc' := 34) dX12_readsStep_33 rfl rfl ?_
      refine ax_getI (pc' := 37) dX12_readsStep_34 fl_X12_120 sh_69 rfl rfl rfl ?_
      refine ax_if_eq (pc' := 40) (tgt := 41) dX12_readsStep_37 (by decide) rfl (fun hc37 => ?_) (fun hc37 => ?_)
      · have H := H.1 hc37
        refine ax_aload_n (pc' := 42) dX12_readsStep_41 rfl rfl ?_
        refine ay_V0 (pc' := 45) (ce' := 0) (sl' := 0) (mc2 := 0) (ms2 := 0) (I2 := i_X12_skipWord) dX12_readsStep_42 ml_X12_157 sh_69 (by decide) rfl rfl rfl rfl rfl rfl rfl rfl rfl (ac_M.imp (o_X12_skipWord _  H) ?_)
        rintro _ _ ⟨s42, rfl, rfl, H⟩
        refine ax_aload_n (pc' := 46) dX12_readsStep_45 rfl rfl ?_
        refine ax_getR (pc' := 49) dX12_readsStep_46 fl_X12_64 sh_69 rfl rfl rfl ?_
        refine ax_aload_n (pc' := 50) dX12_readsStep_49 rfl rfl ?_
        refine ax_getI (pc' := 53) dX12_readsStep_50 fl_X12_260 sh_69 rfl rfl rfl ?_
        obtain ⟨hj53, H⟩ := H
        refine ax_aald (pc' := 54) dX12_readsStep_53 sh_475 hj53 rfl rfl ?_
        refine ax_astore_n (pc' := 55) dX12_readsStep_54 rfl rfl rfl ?_
        refine ax_aload_n (pc' := 56) dX12_readsStep_55 rfl rfl ?_
        refine ax_dup (pc' := 57) dX12_readsStep_56 rfl rfl ?_
        refine ax_getI (pc' := 60) dX12_readsStep_57 fl_X12_260 sh_69 rfl rfl rfl ?_
        refine ax_iconst (pc' := 61) (v := (1 : Int32)) dX12_readsStep_60 (by decide) rfl ?_
        refine ax_iadd (pc' := 62) dX12_readsStep_61 rfl ?_
        refine ax_putI (pc' := 65) dX12_readsStep_62 fp_X12_260 sh_69 rfl rfl rfl ?_
        refine ax_aload_n (pc' := 66) dX12_readsStep_65 rfl rfl ?_
        refine ax_iconst (pc' := 67) (v := (0 : Int32)) dX12_readsStep_66 (by decide) rfl ?_
        refine ax_iload_n (pc' := 68) dX12_readsStep_67 rfl rfl ?_
        refine ax_iast (pc' := 69) dX12_readsStep_68 (sh_r_476 _ (ac_lt hj53)) (ac_in (by decide)) (sh_n_476 _ (ac_lt hj53)) rfl ?_
        refine ax_iload_n (pc' := 70) dX12_readsStep_69 rfl rfl ?_
        refine ax_iconst (pc' := 71) (v := (4 : Int32)) dX12_readsStep_70 (by decide) rfl ?_
        refine ax_icmp_ge (pc' := 74) (tgt := 90) dX12_readsStep_71 (by decide) rfl (fun hc71 => ?_) (fun hc71 => ?_)
        · have H := H.1 hc71
          refine ax_iload_n (pc' := 91) dX12_readsStep_90 rfl rfl ?_
          refine ax_iconst (pc' := 92) (v := (1 : Int32)) dX12_readsStep_91 (by decide) rfl ?_
          refine ax_icmp_ne (pc' := 95) (tgt := 111) dX12_readsStep_92 (by decide) rfl (fun hc92 => ?_) (fun hc92 => ?_)
          · have H := H.1 hc92
            refine ax_iload_n (pc' := 112) dX12_readsStep_111 rfl rfl ?_
            refine ax_iconst (pc' := 113) (v := (4 : Int32)) dX12_readsStep_112 (by decide) rfl ?_
            refine ax_icmp_ne (pc' := 116) (tgt := 142) dX12_readsStep_113 (by decide) rfl (fun hc113 => ?_) (fun hc113 => ?_)
            · have H := H.1 hc113
              refine ax_iload_n (pc' := 143) dX12_readsStep_142 rfl rfl ?_
              refine ax_bipush (pc' := 145) (v := (6 : Int32)) dX12_readsStep_143 (by decide) rfl ?_
              refine ax_icmp_ne (pc' := 148) (tgt := 215) dX12_readsStep_145 (by decide) rfl (fun hc145 => ?_) (fun hc145 => ?_)
              · have H := H.1 hc145
                refine ax_aload_n (pc' := 216) dX12_readsStep_215 rfl rfl ?_
                refine ax_iconst (pc' := 217) (v := (3 : Int32)) dX12_readsStep_216 (by decide) rfl ?_
                refine ax_aload_n (pc' := 218) dX12_readsStep_217 rfl rfl ?_
                refine ax_getI (pc' := 221) dX12_readsStep_218 fl_X12_260 sh_69 rfl rfl rfl ?_
                refine ax_iast (pc' := 222) dX12_readsStep_221 (sh_r_476 _ (ac_lt hj53)) (ac_in (by decide)) (sh_n_476 _ (ac_lt hj53)) rfl ?_
                refine ax_aload_n (pc' := 223) dX12_readsStep_222 rfl rfl ?_
                refine ax_bipush (pc' := 225) (v := (59 : Int32)) dX12_readsStep_223 (by decide) rfl ?_
                refine ay_V1 (pc' := 228) (ce' := 0) (sl' := 0) (mc2 := 0) (ms2 := 0) (I2 := i_X12_sign) dX12_readsStep_225 ml_X12_179 sh_69 (by decide) rfl rfl rfl rfl rfl rfl rfl rfl rfl (ac_M.imp (o_X12_sign _ (59 : Int32) H) ?_)
                rintro _ _ ⟨s225, rfl, rfl, H⟩
                exact ax_vret dX12_readsStep_228 rfl rfl rfl ⟨_, rfl, rfl, H⟩
              · have H := H.2 hc145
                refine ax_aload_n (pc' := 149) dX12_readsStep_148 rfl rfl ?_
                refine ax_iconst (pc' := 150) (v := (1 : Int32)) dX12_readsStep_149 (by decide) rfl ?_
                refine ax_aload_n (pc' := 151) dX12_readsStep_150 rfl rfl ?_
                refine ax_iconst (pc' := 152) (v := (0 : Int32)) dX12_readsStep_151 (by decide) rfl ?_
                refine ax_bipush (pc' := 154) (v := (60 : Int32)) dX12_readsStep_152 (by decide) rfl ?_
                refine ay_V2 (pc' := 157) (ce' := 0) (sl' := 0) (mc2 := 0) (ms2 := 0) (I2 := i_X12_number) dX12_readsStep_154 ml_X12_166 sh_69 (by decide) rfl rfl rfl rfl rfl rfl rfl rfl rfl (ac_M.imp (o_X12_number _ (0 : Int32) (60 : Int32) H) ?_)
                rintro _ _ ⟨r154, s154, rfl, rfl, H⟩
                refine ax_iast (pc' := 158) dX12_readsStep_157 (sh_r_476 _ (ac_lt hj53)) (ac_in (by decide)) (sh_n_476 _ (ac_lt hj53)) rfl ?_
                refine ax_aload_n (pc' := 159) dX12_readsStep_158 rfl rfl ?_
                refine ax_bipush (pc' := 161) (v := (91 : Int32)) dX12_readsStep_159 (by decide) rfl ?_
                refine ay_V1 (pc' := 164) (ce' := 0) (sl' := 0) (mc2 := 0) (ms2 := 0) (I2 := i_X12_sign) dX12_readsStep_161 ml_X12_179 sh_69 (by decide) rfl rfl rfl rfl rfl rfl rfl rfl rfl (ac_M.imp (o_X12_sign _ (91 : Int32) H) ?_)
                rintro _ _ ⟨s161, rfl, rfl, H⟩
                refine ax_aload_n (pc' := 165) dX12_readsStep_164 rfl rfl ?_
                refine ay_V0 (pc' := 168) (ce' := 0) (sl' := 0) (mc2 := 0) (ms2 := 0) (I2 := i_X12_blanks) dX12_readsStep_165 ml_X12_126 sh_69 (by decide) rfl rfl rfl rfl rfl rfl rfl rfl rfl (ac_M.imp (o_X12_blanks _  H) ?_)
                rintro _ _ ⟨s165, rfl, rfl, H⟩
                refine ax_drop 1 rfl ?_
                refine ol_X12_readsStep_168 d  hRr  _ (sh_r_476 _ (ac_lt hj53)) (sh_n_476 _ (ac_lt hj53))  H
            · have H := H.2 hc113
              refine ax_aload_n (pc' := 117) dX12_readsStep_116 rfl rfl ?_
              refine ax_iconst (pc' := 118) (v := (1 : Int32)) dX12_readsStep_117 (by decide) rfl ?_
              refine ax_aload_n (pc' := 119) dX12_readsStep_118 rfl rfl ?_
              refine ax_iconst (pc' := 120) (v := (0 : Int32)) dX12_readsStep_119 (by decide) rfl ?_
              refine ax_aload_n (pc' := 121) dX12_readsStep_120 rfl rfl ?_
              refine ax_getR (pc' := 124) dX12_readsStep_121 fl_X12_23 sh_69 rfl rfl rfl ?_
              refine ax_iconst (pc' := 125) (v := (0 : Int32)) dX12_readsStep_124 (by decide) rfl ?_
              refine ax_iald (pc' := 126) dX12_readsStep_125 sh_73 (ac_in (by decide)) rfl rfl ?_
              refine ax_iconst (pc' := 127) (v := (1 : Int32)) dX12_readsStep_126 (by decide) rfl ?_
              refine ax_isub (pc' := 128) dX12_readsStep_127 rfl ?_
              refine ay_V2 (pc' := 131) (ce' := 0) (sl' := 0) (mc2 := 0) (ms2 := 0) (I2 := i_X12_number) dX12_readsStep_128 ml_X12_166 sh_69 (by decide) rfl rfl rfl rfl rfl rfl rfl rfl rfl (ac_M.imp (o_X12_number _ (0 : Int32) (((ac_u (ac_u s42 69 28 ((s42 69 28) + (1 : Int32))) (476 + (s42 69 28).toNatClampNeg) (0 : Int32).toNatClampNeg r1) 73 (0 : Int32).toNatClampNeg) - (1 : Int32)) H) ?_)
              rintro _ _ ⟨r128, s128, rfl, rfl, H⟩
              refine ax_iast (pc' := 132) dX12_readsStep_131 (sh_r_476 _ (ac_lt hj53)) (ac_in (by decide)) (sh_n_476 _ (ac_lt hj53)) rfl ?_
              refine ax_aload_n (pc' := 133) dX12_readsStep_132 rfl rfl ?_
              refine ax_iconst (pc' := 134) (v := (2 : Int32)) dX12_readsStep_133 (by decide) rfl ?_
              refine ax_aload_n (pc' := 135) dX12_readsStep_134 rfl rfl ?_
              refine ax_iconst (pc' := 136) (v := (1 : Int32)) dX12_readsStep_135 (by decide) rfl ?_
              refine ax_bipush (pc' := 138) (v := (60 : Int32)) dX12_readsStep_136 (by decide) rfl ?_
              refine ay_V2 (pc' := 141) (ce' := 0) (sl' := 0) (mc2 := 0) (ms2 := 0) (I2 := i_X12_number) dX12_readsStep_138 ml_X12_166 sh_69 (by decide) rfl rfl rfl rfl rfl rfl rfl rfl rfl (ac_M.imp (o_X12_number _ (1 : Int32) (60 : Int32) H) ?_)
              rintro _ _ ⟨r138, s138, rfl, rfl, H⟩
              refine ax_iast (pc' := 142) dX12_readsStep_141 (sh_r_476 _ (ac_lt hj53)) (ac_in (by decide)) (sh_n_476 _ (ac_lt hj53)) rfl ?_
              refine ax_iload_n (pc' := 143) dX12_readsStep_142 rfl rfl ?_
              refine ax_bipush (pc' := 145) (v := (6 : Int32)) dX12_readsStep_143 (by decide) rfl ?_
              refine ax_icmp_ne (pc' := 148) (tgt := 215) dX12_readsStep_145 (by decide) rfl (fun hc145 => ?_) (fun hc145 => ?_)
              · have H := H.1 hc145
                refine ax_aload_n (pc' := 216) dX12_readsStep_215 rfl rfl ?_
                refine ax_iconst (pc' := 217) (v := (3 : Int32)) dX12_readsStep_216 (by decide) rfl ?_
                refine ax_aload_n (pc' := 218) dX12_readsStep_217 rfl rfl ?_
                refine ax_getI (pc' := 221) dX12_readsStep_218 fl_X12_260 sh_69 rfl rfl rfl ?_
                refine ax_iast (pc' := 222) dX12_readsStep_221 (sh_r_476 _ (ac_lt hj53)) (ac_in (by decide)) (sh_n_476 _ (ac_lt hj53)) rfl ?_
                refine ax_aload_n (pc' := 223) dX12_readsStep_222 rfl rfl ?_
                refine ax_bipush (pc' := 225) (v := (59 : Int32)) dX12_readsStep_223 (by decide) rfl ?_
                refine ay_V1 (pc' := 228) (ce' := 0) (sl' := 0) (mc2 := 0) (ms2 := 0) (I2 := i_X12_sign) dX12_readsStep_225 ml_X12_179 sh_69 (by decide) rfl rfl rfl rfl rfl rfl rfl rfl rfl (ac_M.imp (o_X12_sign _ (59 : Int32) H) ?_)
                rintro _ _ ⟨s225, rfl, rfl, H⟩
                exact ax_vret dX12_readsStep_228 rfl rfl rfl ⟨_, rfl, rfl, H⟩
              · have H := H.2 hc145
                refine ax_aload_n (pc' := 149) dX12_readsStep_148 rfl rfl ?_
                refine ax_iconst (pc' := 150) (v := (1 : Int32)) dX12_readsStep_149 (by decide) rfl ?_
                refine ax_aload_n (pc' := 151) dX12_readsStep_150 rfl rfl ?_
                refine ax_iconst (pc' := 152) (v := (0 : Int32)) dX12_readsStep_151 (by decide) rfl ?_
                refine ax_bipush (pc' := 154) (v := (60 : Int32)) dX12_readsStep_152 (by decide) rfl ?_
                refine ay_V2 (pc' := 157) (ce' := 0) (sl' := 0) (mc2 := 0) (ms2 := 0) (I2 := i_X12_number) dX12_readsStep_154 ml_X12_166 sh_69 (by decide) rfl rfl rfl rfl rfl rfl rfl rfl rfl (ac_M.imp (o_X12_number _ (0 : Int32) (60 : Int32) H) ?_)
                rintro _ _ ⟨r154, s154, rfl, rfl, H⟩
                refine ax_iast (pc' := 158) dX12_readsStep_157 (sh_r_476 _ (ac_lt hj53)) (ac_in (by decide)) (sh_n_476 _ (ac_lt hj53)) rfl ?_
                refine ax_aload_n (pc' := 159) dX12_readsStep_158 rfl rfl ?_
                refine ax_bipush (pc' := 161) (v := (91 : Int32)) dX12_readsStep_159 (by decide) rfl ?_
                refine ay_V1 (pc' := 164) (ce' := 0) (sl' := 0) (mc2 := 0) (ms2 := 0) (I2 := i_X12_sign) dX12_readsStep_161 ml_X12_179 sh_69 (by decide) rfl rfl rfl rfl rfl rfl rfl rfl rfl (ac_M.imp (o_X12_sign _ (91 : Int32) H) ?_)
                rintro _ _ ⟨s161, rfl, rfl, H⟩
                refine ax_aload_n (pc' := 165) dX12_readsStep_164 rfl rfl ?_
                refine ay_V0 (pc' := 168) (ce' := 0) (sl' := 0) (mc2 := 0) (ms2 := 0) (I2 := i_X12_blanks) dX12_readsStep_165 ml_X12_126 sh_69 (by decide) rfl rfl rfl rfl rfl rfl rfl rfl rfl (ac_M.imp (o_X12_blanks _  H) ?_)
                rintro _ _ ⟨s165, rfl, rfl, H⟩
                refine ax_drop 1 rfl ?_
                refine ol_X12_readsStep_168 d  hRr  _ (sh_r_476 _ (ac_lt hj53)) (sh_n_476 _ (ac_lt hj53))  H
          · have H := H.2 hc92
            refine ax_aload_n (pc' := 96) dX12_readsStep_95 rfl rfl ?_
            refine ax_iconst (pc' := 97) (v := (2 : Int32)) dX12_readsStep_96 (by decide) rfl ?_
            refine ax_aload_n (pc' := 98) dX12_readsStep_97 rfl rfl ?_
            refine ax_iconst (pc' := 99) (v := (0 : Int32)) dX12_readsStep_98 (by decide) rfl ?_
            refine ax_aload_n (pc' := 100) dX12_readsStep_99 rfl rfl ?_
            refine ax_getR (pc' := 103) dX12_readsStep_100 fl_X12_23 sh_69 rfl rfl rfl ?_
            refine ax_iconst (pc' := 104) (v := (0 : Int32)) dX12_readsStep_103 (by decide) rfl ?_
            refine ax_iald (pc' := 105) dX12_readsStep_104 sh_73 (ac_in (by decide)) rfl rfl ?_
            refine ax_iconst (pc' := 106) (v := (1 : Int32)) dX12_readsStep_105 (by decide) rfl ?_
            refine ax_isub (pc' := 107) dX12_readsStep_106 rfl ?_
            refine ay_V2 (pc' := 110) (ce' := 0) (sl' := 0) (mc2 := 0) (ms2 := 0) (I2 := i_X12_number) dX12_readsStep_107 ml_X12_166 sh_69 (by decide) rfl rfl rfl rfl rfl rfl rfl rfl rfl (ac_M.imp (o_X12_number _ (0 : Int32) (((ac_u (ac_u s42 69 28 ((s42 69 28) + (1 : Int32))) (476 + (s42 69 28).toNatClampNeg) (0 : Int32).toNatClampNeg r1) 73 (0 : Int32).toNatClampNeg) - (1 : Int32)) H) ?_)
            rintro _ _ ⟨r107, s107, rfl, rfl, H⟩
            refine ax_iast (pc' := 111) dX12_readsStep_110 (sh_r_476 _ (ac_lt hj53)) (ac_in (by decide)) (sh_n_476 _ (ac_lt hj53)) rfl ?_
            refine ax_iload_n (pc' := 112) dX12_readsStep_111 rfl rfl ?_
            refine ax_iconst (pc' := 113) (v := (4 : Int32)) dX12_readsStep_112 (by decide) rfl ?_
            refine ax_icmp_ne (pc' := 116) (tgt := 142) dX12_readsStep_113 (by decide) rfl (fun hc113 => ?_) (fun hc113 => ?_)
            · have H := H.1 hc113
              refine ax_iload_n (pc' := 143) dX12_readsStep_142 rfl rfl ?_
              refine ax_bipush (pc' := 145) (v := (6 : Int32)) dX12_readsStep_143 (by decide) rfl ?_
              refine ax_icmp_ne (pc' := 148) (tgt := 215) dX12_readsStep_145 (by decide) rfl (fun hc145 => ?_) (fun hc145 => ?_)
              · have H := H.1 hc145
                refine ax_aload_n (pc' := 216) dX12_readsStep_215 rfl rfl ?_
                refine ax_iconst (pc' := 217) (v := (3 : Int32)) dX12_readsStep_216 (by decide) rfl ?_
                refine ax_aload_n (pc' := 218) dX12_readsStep_217 rfl rfl ?_
                refine ax_getI (pc' := 221) dX12_readsStep_218 fl_X12_260 sh_69 rfl rfl rfl ?_
                refine ax_iast (pc' := 222) dX12_readsStep_221 (sh_r_476 _ (ac_lt hj53)) (ac_in (by decide)) (sh_n_476 _ (ac_lt hj53)) rfl ?_
                refine ax_aload_n (pc' := 223) dX12_readsStep_222 rfl rfl ?_
                refine ax_bipush (pc' := 225) (v := (59 : Int32)) dX12_readsStep_223 (by decide) rfl ?_
                refine ay_V1 (pc' := 228) (ce' := 0) (sl' := 0) (mc2 := 0) (ms2 := 0) (I2 := i_X12_sign) dX12_readsStep_225 ml_X12_179 sh_69 (by decide) rfl rfl rfl rfl rfl rfl rfl rfl rfl (ac_M.imp (o_X12_sign _ (59 : Int32) H) ?_)
                rintro _ _ ⟨s225, rfl, rfl, H⟩
                exact ax_vret dX12_readsStep_228 rfl rfl rfl ⟨_, rfl, rfl, H⟩
              · have H := H.2 hc145
                refine ax_aload_n (pc' := 149) dX12_readsStep_148 rfl rfl ?_
                refine ax_iconst (pc' := 150) (v := (1 : Int32)) dX12_readsStep_149 (by decide) rfl ?_
                refine ax_aload_n (pc' := 151) dX12_readsStep_150 rfl rfl ?_
                refine ax_iconst (pc' := 152) (v := (0 : Int32)) dX12_readsStep_151 (by decide) rfl ?_
                refine ax_bipush (pc' := 154) (v := (60 : Int32)) dX12_readsStep_152 (by decide) rfl ?_
                refine ay_V2 (pc' := 157) (ce' := 0) (sl' := 0) (mc2 := 0) (ms2 := 0) (I2 := i_X12_number) dX12_readsStep_154 ml_X12_166 sh_69 (by decide) rfl rfl rfl rfl rfl rfl rfl rfl rfl (ac_M.imp (o_X12_number _ (0 : Int32) (60 : Int32) H) ?_)
                rintro _ _ ⟨r154, s154, rfl, rfl, H⟩
                refine ax_iast (pc' := 158) dX12_readsStep_157 (sh_r_476 _ (ac_lt hj53)) (ac_in (by decide)) (sh_n_476 _ (ac_lt hj53)) rfl ?_
                refine ax_aload_n (pc' := 159) dX12_readsStep_158 rfl rfl ?_
                refine ax_bipush (pc' := 161) (v := (91 : Int32)) dX12_readsStep_159 (by decide) rfl ?_
                refine ay_V1 (pc' := 164) (ce' := 0) (sl' := 0) (mc2 := 0) (ms2 := 0) (I2 := i_X12_sign) dX12_readsStep_161 ml_X12_179 sh_69 (by decide) rfl rfl rfl rfl rfl rfl rfl rfl rfl (ac_M.imp (o_X12_sign _ (91 : Int32) H) ?_)
                rintro _ _ ⟨s161, rfl, rfl, H⟩
                refine ax_aload_n (pc' := 165) dX12_readsStep_164 rfl rfl ?_
                refine ay_V0 (pc' := 168) (ce' := 0) (sl' := 0) (mc2 := 0) (ms2 := 0) (I2 := i_X12_blanks) dX12_readsStep_165 ml_X12_126 sh_69 (by decide) rfl rfl rfl rfl rfl rfl rfl rfl rfl (ac_M.imp (o_X12_blanks _  H) ?_)
                rintro _ _ ⟨s165, rfl, rfl, H⟩
                refine ax_drop 1 rfl ?_
                refine ol_X12_readsStep_168 d  hRr  _ (sh_r_476 _ (ac_lt hj53)) (sh_n_476 _ (ac_lt hj53))  H
            · have H := H.2 hc113
              refine ax_aload_n (pc' := 117) dX12_readsStep_116 rfl rfl ?_
              refine ax_iconst (pc' := 118) (v := (1 : Int32)) dX12_readsStep_117 (by decide) rfl ?_
              refine ax_aload_n (pc' := 119) dX12_readsStep_118 rfl rfl ?_
              refine ax_iconst (pc' := 120) (v := (0 : Int32)) dX12_readsStep_119 (by decide) rfl ?_
              refine ax_aload_n (pc' := 121) dX12_readsStep_120 rfl rfl ?_
              refine ax_getR (pc' := 124) dX12_readsStep_121 fl_X12_23 sh_69 rfl rfl rfl ?_
              refine ax_iconst (pc' := 125) (v := (0 : Int32)) dX12_readsStep_124 (by decide) rfl ?_
              refine ax_iald (pc' := 126) dX12_readsStep_125 sh_73 (ac_in (by decide)) rfl rfl ?_
              refine ax_iconst (pc' := 127) (v := (1 : Int32)) dX12_readsStep_126 (by decide) rfl ?_
              refine ax_isub (pc' := 128) dX12_readsStep_127 rfl ?_
              refine ay_V2 (pc' := 131) (ce' := 0) (sl' := 0) (mc2 := 0) (ms2 := 0) (I2 := i_X12_number) dX12_readsStep_128 ml_X12_166 sh_69 (by decide) rfl rfl rfl rfl rfl rfl rfl rfl rfl (ac_M.imp (o_X12_number _ (0 : Int32) (((ac_u s107 (476 + (s42 69 28).toNatClampNeg) (2 : Int32).toNatClampNeg r107) 73 (0 : Int32).toNatClampNeg) - (1 : Int32)) H) ?_)
              rintro _ _ ⟨r128, s128, rfl, rfl, H⟩
              refine ax_iast (pc' := 132) dX12_readsStep_131 (sh_r_476 _ (ac_lt hj53)) (ac_in (by decide)) (sh_n_476 _ (ac_lt hj53)) rfl ?_
              refine ax_aload_n (pc' := 133) dX12_readsStep_132 rfl rfl ?_
              refine ax_iconst (pc' := 134) (v := (2 : Int32)) dX12_readsStep_133 (by decide) rfl ?_
              refine ax_aload_n (pc' := 135) dX12_readsStep_134 rfl rfl ?_
              refine ax_iconst (pc' := 136) (v := (1 : Int32)) dX12_readsStep_135 (by decide) rfl ?_
              refine ax_bipush (pc' := 138) (v := (60 : Int32)) dX12_readsStep_136 (by decide) rfl ?_
              refine ay_V2 (pc' := 141) (ce' := 0) (sl' := 0) (mc2 := 0) (ms2 := 0) (I2 := i_X12_number) dX12_readsStep_138 ml_X12_166 sh_69 (by decide) rfl rfl rfl rfl rfl rfl rfl rfl rfl (ac_M.imp (o_X12_number _ (1 : Int32) (60 : Int32) H) ?_)
              rintro _ _ ⟨r138, s138, rfl, rfl, H⟩
              refine ax_iast (pc' := 142) dX12_readsStep_141 (sh_r_476 _ (ac_lt hj53)) (ac_in (by decide)) (sh_n_476 _ (ac_lt hj53)) rfl ?_
              refine ax_iload_n (pc' := 143) dX12_readsStep_142 rfl rfl ?_
              refine ax_bipush (pc' := 145) (v := (6 : Int32)) dX12_readsStep_143 (by decide) rfl ?_
              refine ax_icmp_ne (pc' := 148) (tgt := 215) dX12_readsStep_145 (by decide) rfl (fun hc145 => ?_) (fun hc145 => ?_)
              · have H := H.1 hc145
                refine ax_aload_n (pc' := 216) dX12_readsStep_215 rfl rfl ?_
                refine ax_iconst (pc' := 217) (v := (3 : Int32)) dX12_readsStep_216 (by decide) rfl ?_
                refine ax_aload_n (pc' := 218) dX12_readsStep_217 rfl rfl ?_
                refine ax_getI (pc' := 221) dX12_readsStep_218 fl_X12_260 sh_69 rfl rfl rfl ?_
                refine ax_iast (pc' := 222) dX12_readsStep_221 (sh_r_476 _ (ac_lt hj53)) (ac_in (by decide)) (sh_n_476 _ (ac_lt hj53)) rfl ?_
                refine ax_aload_n (pc' := 223) dX12_readsStep_222 rfl rfl ?_
                refine ax_bipush (pc' := 225) (v := (59 : Int32)) dX12_readsStep_223 (by decide) rfl ?_
                refine ay_V1 (pc' := 228) (ce' := 0) (sl' := 0) (mc2 := 0) (ms2 := 0) (I2 := i_X12_sign) dX12_readsStep_225 ml_X12_179 sh_69 (by decide) rfl rfl rfl rfl rfl rfl rfl rfl rfl (ac_M.imp (o_X12_sign _ (59 : Int32) H) ?_)
                rintro _ _ ⟨s225, rfl, rfl, H⟩
                exact ax_vret dX12_readsStep_228 rfl rfl rfl ⟨_, rfl, rfl, H⟩
              · have H := H.2 hc145
                refine ax_aload_n (pc' := 149) dX12_readsStep_148 rfl rfl ?_
                refine ax_iconst (pc' := 150) (v := (1 : Int32)) dX12_readsStep_149 (by decide) rfl ?_
                refine ax_aload_n (pc' := 151) dX12_readsStep_150 rfl rfl ?_
                refine ax_iconst (pc' := 152) (v := (0 : Int32)) dX12_readsStep_151 (by decide) rfl ?_
                refine ax_bipush (pc' := 154) (v := (60 : Int32)) dX12_readsStep_152 (by decide) rfl ?_
                refine ay_V2 (pc' := 157) (ce' := 0) (sl' := 0) (mc2 := 0) (ms2 := 0) (I2 := i_X12_number) dX12_readsStep_154 ml_X12_166 sh_69 (by decide) rfl rfl rfl rfl rfl rfl rfl rfl rfl (ac_M.imp (o_X12_number _ (0 : Int32) (60 : Int32) H) ?_)
                rintro _ _ ⟨r154, s154, rfl, rfl, H⟩
                refine ax_iast (pc' := 158) dX12_readsStep_157 (sh_r_476 _ (ac_lt hj53)) (ac_in (by decide)) (sh_n_476 _ (ac_lt hj53)) rfl ?_
                refine ax_aload_n (pc' := 159) dX12_readsStep_158 rfl rfl ?_
                refine ax_bipush (pc' := 161) (v := (91 : Int32)) dX12_readsStep_159 (by decide) rfl ?_
                refine ay_V1 (pc' := 164) (ce' := 0) (sl' := 0) (mc2 := 0) (ms2 := 0) (I2 := i_X12_sign) dX12_readsStep_161 ml_X12_179 sh_69 (by decide) rfl rfl rfl rfl rfl rfl rfl rfl rfl (ac_M.imp (o_X12_sign _ (91 : Int32) H) ?_)
                rintro _ _ ⟨s161, rfl, rfl, H⟩
                refine ax_aload_n (pc' := 165) dX12_readsStep_164 rfl rfl ?_
                refine ay_V0 (pc' := 168) (ce' := 0) (sl' := 0) (mc2 := 0) (ms2 := 0) (I2 := i_X12_blanks) dX12_readsStep_165 ml_X12_126 sh_69 (by decide) rfl rfl rfl rfl rfl rfl rfl rfl rfl (ac_M.imp (o_X12_blanks _  H) ?_)
                rintro _ _ ⟨s165, rfl, rfl, H⟩
                refine ax_drop 1 rfl ?_
                refine ol_X12_readsStep_168 d  hRr  _ (sh_r_476 _ (ac_lt hj53)) (sh_n_476 _ (ac_lt hj53))  H
        · have H := H.2 hc71
          refine ax_aload_n (pc' := 75) dX12_readsStep_74 rfl rfl ?_
          refine ax_iconst (pc' := 76) (v := (1 : Int32)) dX12_readsStep_75 (by decide) rfl ?_
          refine ax_aload_n (pc' := 77) dX12_readsStep_76 rfl rfl ?_
          refine ax_iconst (pc' := 78) (v := (0 : Int32)) dX12_readsStep_77 (by decide) rfl ?_
          refine ax_aload_n (pc' := 79) dX12_readsStep_78 rfl rfl ?_
          refine ax_getR (pc' := 82) dX12_readsStep_79 fl_X12_23 sh_69 rfl rfl rfl ?_
          refine ax_iconst (pc' := 83) (v := (1 : Int32)) dX12_readsStep_82 (by decide) rfl ?_
          refine ax_iald (pc' := 84) dX12_readsStep_83 sh_73 (ac_in (by decide)) rfl rfl ?_
          refine ax_iconst (pc' := 85) (v := (1 : Int32)) dX12_readsStep_84 (by decide) rfl ?_
          refine ax_isub (pc' := 86) dX12_readsStep_85 rfl ?_
          refine ay_V2 (pc' := 89) (ce' := 0) (sl' := 0) (mc2 := 0) (ms2 := 0) (I2 := i_X12_number) dX12_readsStep_86 ml_X12_166 sh_69 (by decide) rfl rfl rfl rfl rfl rfl rfl rfl rfl (ac_M.imp (o_X12_number _ (0 : Int32) (((ac_u (ac_u s42 69 28 ((s42 69 28) + (1 : Int32))) (476 + (s42 69 28).toNatClampNeg) (0 : Int32).toNatClampNeg r1) 73 (1 : Int32).toNatClampNeg) - (1 : Int32)) H) ?_)
          rintro _ _ ⟨r86, s86, rfl, rfl, H⟩
          refine ax_iast (pc' := 90) dX12_readsStep_89 (sh_r_476 _ (ac_lt hj53)) (ac_in (by decide)) (sh_n_476 _ (ac_lt hj53)) rfl ?_
          refine ax_iload_n (pc' := 91) dX12_readsStep_90 rfl rfl ?_
          refine ax_iconst (pc' := 92) (v := (1 : Int32)) dX12_readsStep_91 (by decide) rfl ?_
          refine ax_icmp_ne (pc' := 95) (tgt := 111) dX12_readsStep_92 (by decide) rfl (fun hc92 => ?_) (fun hc92 => ?_)
          · have H := H.1 hc92
            refine ax_iload_n (pc' := 112) dX12_readsStep_111 rfl rfl ?_
            refine ax_iconst (pc' := 113) (v := (4 : Int32)) dX12_readsStep_112 (by decide) rfl ?_
            refine ax_icmp_ne (pc' := 116) (tgt := 142) dX12_readsStep_113 (by decide) rfl (fun hc113 => ?_) (fun hc113 => ?_)
            · have H := H.1 hc113
              refine ax_iload_n (pc' := 143) dX12_readsStep_142 rfl rfl ?_
              refine ax_bipush (pc' := 145) (v := (6 : Int32)) dX12_readsStep_143 (by decide) rfl ?_
              refine ax_icmp_ne (pc' := 148) (tgt := 215) dX12_readsStep_145 (by decide) rfl (fun hc145 => ?_) (fun hc145 => ?_)
              · have H := H.1 hc145
                refine ax_aload_n (pc' := 216) dX12_readsStep_215 rfl rfl ?_
                refine ax_iconst (pc' := 217) (v := (3 : Int32)) dX12_readsStep_216 (by decide) rfl ?_
                refine ax_aload_n (pc' := 218) dX12_readsStep_217 rfl rfl ?_
                refine ax_getI (pc' := 221) dX12_readsStep_218 fl_X12_260 sh_69 rfl rfl rfl ?_
                refine ax_iast (pc' := 222) dX12_readsStep_221 (sh_r_476 _ (ac_lt hj53)) (ac_in (by decide)) (sh_n_476 _ (ac_lt hj53)) rfl ?_
                refine ax_aload_n (pc' := 223) dX12_readsStep_222 rfl rfl ?_
                refine ax_bipush (pc' := 225) (v := (59 : Int32)) dX12_readsStep_223 (by decide) rfl ?_
                refine ay_V1 (pc' := 228) (ce' := 0) (sl' := 0) (mc2 := 0) (ms2 := 0) (I2 := i_X12_sign) dX12_readsStep_225 ml_X12_179 sh_69 (by decide) rfl rfl rfl rfl rfl rfl rfl rfl rfl (ac_M.imp (o_X12_sign _ (59 : Int32) H) ?_)
                rintro _ _ ⟨s225, rfl, rfl, H⟩
                exact ax_vret dX12_readsStep_228 rfl rfl rfl ⟨_, rfl, rfl, H⟩
              · have H := H.2 hc145
                refine ax_aload_n (pc' := 149) dX12_readsStep_148 rfl rfl ?_
                refine ax_iconst (pc' := 150) (v := (1 : Int32)) dX12_readsStep_149 (by decide) rfl ?_
                refine ax_aload_n (pc' := 151) dX12_readsStep_150 rfl rfl ?_
                refine ax_iconst (pc' := 152) (v := (0 : Int32)) dX12_readsStep_151 (by decide) rfl ?_
                refine ax_bipush (pc' := 154) (v := (60 : Int32)) dX12_readsStep_152 (by decide) rfl ?_
                refine ay_V2 (pc' := 157) (ce' := 0) (sl' := 0) (mc2 := 0) (ms2 := 0) (I2 := i_X12_number) dX12_readsStep_154 ml_X12_166 sh_69 (by decide) rfl rfl rfl rfl rfl rfl rfl rfl rfl (ac_M.imp (o_X12_number _ (0 : Int32) (60 : Int32) H) ?_)
                rintro _ _ ⟨r154, s154, rfl, rfl, H⟩
                refine ax_iast (pc' := 158) dX12_readsStep_157 (sh_r_476 _ (ac_lt hj53)) (ac_in (by decide)) (sh_n_476 _ (ac_lt hj53)) rfl ?_
                refine ax_aload_n (pc' := 159) dX12_readsStep_158 rfl rfl ?_
                refine ax_bipush (pc' := 161) (v := (91 : Int32)) dX12_readsStep_159 (by decide) rfl ?_
                refine ay_V1 (pc' := 164) (ce' := 0) (sl' := 0) (mc2 := 0) (ms2 := 0) (I2 := i_X12_sign) dX12_readsStep_161 ml_X12_179 sh_69 (by decide) rfl rfl rfl rfl rfl rfl rfl rfl rfl (ac_M.imp (o_X12_sign _ (91 : Int32) H) ?_)
                rintro _ _ ⟨s161, rfl, rfl, H⟩
                refine ax_aload_n (pc' := 165) dX12_readsStep_164 rfl rfl ?_
                refine ay_V0 (pc' := 168) (ce' := 0) (sl' := 0) (mc2 := 0) (ms2 := 0) (I2 := i_X12_blanks) dX12_readsStep_165 ml_X12_126 sh_69 (by decide) rfl rfl rfl rfl rfl rfl rfl rfl rfl (ac_M.imp (o_X12_blanks _  H) ?_)
                rintro _ _ ⟨s165, rfl, rfl, H⟩
                refine ax_drop 1 rfl ?_
                refine ol_X12_readsStep_168 d  hRr  _ (sh_r_476 _ (ac_lt hj53)) (sh_n_476 _ (ac_lt hj53))  H
            · have H := H.2 hc113
              refine ax_aload_n (pc' := 117) dX12_readsStep_116 rfl rfl ?_
              refine ax_iconst (pc' := 118) (v := (1 : Int32)) dX12_readsStep_117 (by decide) rfl ?_
              refine ax_aload_n (pc' := 119) dX12_readsStep_118 rfl rfl ?_
              refine ax_iconst (pc' := 120) (v := (0 : Int32)) dX12_readsStep_119 (by decide) rfl ?_
              refine ax_aload_n (pc' := 121) dX12_readsStep_120 rfl rfl ?_
              refine ax_getR (pc' := 124) dX12_readsStep_121 fl_X12_23 sh_69 rfl rfl rfl ?_
              refine ax_iconst (pc' := 125) (v := (0 : Int32)) dX12_readsStep_124 (by decide) rfl ?_
              refine ax_iald (pc' := 126) dX12_readsStep_125 sh_73 (ac_in (by decide)) rfl rfl ?_
              refine ax_iconst (pc' := 127) (v := (1 : Int32)) dX12_readsStep_126 (by decide) rfl ?_
              refine ax_isub (pc' := 128) dX12_readsStep_127 rfl ?_
              refine ay_V2 (pc' := 131) (ce' := 0) (sl' := 0) (mc2 := 0) (ms2 := 0) (I2 := i_X12_number) dX12_readsStep_128 ml_X12_166 sh_69 (by decide) rfl rfl rfl rfl rfl rfl rfl rfl rfl (ac_M.imp (o_X12_number _ (0 : Int32) (((ac_u s86 (476 + (s42 69 28).toNatClampNeg) (1 : Int32).toNatClampNeg r86) 73 (0 : Int32).toNatClampNeg) - (1 : Int32)) H) ?_)
              rintro _ _ ⟨r128, s128, rfl, rfl, H⟩
              refine ax_iast (pc' := 132) dX12_readsStep_131 (sh_r_476 _ (ac_lt hj53)) (ac_in (by decide)) (sh_n_476 _ (ac_lt hj53)) rfl ?_
              refine ax_aload_n (pc' := 133) dX12_readsStep_132 rfl rfl ?_
              refine ax_iconst (pc' := 134) (v := (2 : Int32)) dX12_readsStep_133 (by decide) rfl ?_
              refine ax_aload_n (pc' := 135) dX12_readsStep_134 rfl rfl ?_
              refine ax_iconst (pc' := 136) (v := (1 : Int32)) dX12_readsStep_135 (by decide) rfl ?_
              refine ax_bipush (pc' := 138) (v := (60 : Int32)) dX12_readsStep_136 (by decide) rfl ?_
              refine ay_V2 (pc' := 141) (ce' := 0) (sl' := 0) (mc2 := 0) (ms2 := 0) (I2 := i_X12_number) dX12_readsStep_138 ml_X12_166 sh_69 (by decide) rfl rfl rfl rfl rfl rfl rfl rfl rfl (ac_M.imp (o_X12_number _ (1 : Int32) (60 : Int32) H) ?_)
              rintro _ _ ⟨r138, s138, rfl, rfl, H⟩
              refine ax_iast (pc' := 142) dX12_readsStep_141 (sh_r_476 _ (ac_lt hj53)) (ac_in (by decide)) (sh_n_476 _ (ac_lt hj53)) rfl ?_
              refine ax_iload_n (pc' := 143) dX12_readsStep_142 rfl rfl ?_
              refine ax_bipush (pc' := 145) (v := (6 : Int32)) dX12_readsStep_143 (by decide) rfl ?_
              refine ax_icmp_ne (pc' := 148) (tgt := 215) dX12_readsStep_145 (by decide) rfl (fun hc145 => ?_) (fun hc145 => ?_)
              · have H := H.1 hc145
                refine ax_aload_n (pc' := 216) dX12_readsStep_215 rfl rfl ?_
                refine ax_iconst (pc' := 217) (v := (3 : Int32)) dX12_readsStep_216 (by decide) rfl ?_
                refine ax_aload_n (pc' := 218) dX12_readsStep_217 rfl rfl ?_
                refine ax_getI (pc' := 221) dX12_readsStep_218 fl_X12_260 sh_69 rfl rfl rfl ?_
                refine ax_iast (pc' := 222) dX12_readsStep_221 (sh_r_476 _ (ac_lt hj53)) (ac_in (by decide)) (sh_n_476 _ (ac_lt hj53)) rfl ?_
                refine ax_aload_n (pc' := 223) dX12_readsStep_222 rfl rfl ?_
                refine ax_bipush (pc' := 225) (v := (59 : Int32)) dX12_readsStep_223 (by decide) rfl ?_
                refine ay_V1 (pc' := 228) (ce' := 0) (sl' := 0) (mc2 := 0) (ms2 := 0) (I2 := i_X12_sign) dX12_readsStep_225 ml_X12_179 sh_69 (by decide) rfl rfl rfl rfl rfl rfl rfl rfl rfl (ac_M.imp (o_X12_sign _ (59 : Int32) H) ?_)
                rintro _ _ ⟨s225, rfl, rfl, H⟩
                exact ax_vret dX12_readsStep_228 rfl rfl rfl ⟨_, rfl, rfl, H⟩
              · have H := H.2 hc145
                refine ax_aload_n (pc' := 149) dX12_readsStep_148 rfl rfl ?_
                refine ax_iconst (pc' := 150) (v := (1 : Int32)) dX12_readsStep_149 (by decide) rfl ?_
                refine ax_aload_n (pc' := 151) dX12_readsStep_150 rfl rfl ?_
                refine ax_iconst (pc' := 152) (v := (0 : Int32)) dX12_readsStep_151 (by decide) rfl ?_
                refine ax_bipush (pc' := 154) (v := (60 : Int32)) dX12_readsStep_152 (by decide) rfl ?_
                refine ay_V2 (pc' := 157) (ce' := 0) (sl' := 0) (mc2 := 0) (ms2 := 0) (I2 := i_X12_number) dX12_readsStep_154 ml_X12_166 sh_69 (by decide) rfl rfl rfl rfl rfl rfl rfl rfl rfl (ac_M.imp (o_X12_number _ (0 : Int32) (60 : Int32) H) ?_)
                rintro _ _ ⟨r154, s154, rfl, rfl, H⟩
                refine ax_iast (pc' := 158) dX12_readsStep_157 (sh_r_476 _ (ac_lt hj53)) (ac_in (by decide)) (sh_n_476 _ (ac_lt hj53)) rfl ?_
                refine ax_aload_n (pc' := 159) dX12_readsStep_158 rfl rfl ?_
                refine ax_bipush (pc' := 161) (v := (91 : Int32)) dX12_readsStep_159 (by decide) rfl ?_
                refine ay_V1 (pc' := 164) (ce' := 0) (sl' := 0) (mc2 := 0) (ms2 := 0) (I2 := i_X12_sign) dX12_readsStep_161 ml_X12_179 sh_69 (by decide) rfl rfl rfl rfl rfl rfl rfl rfl rfl (ac_M.imp (o_X12_sign _ (91 : Int32) H) ?_)
                rintro _ _ ⟨s161, rfl, rfl, H⟩
                refine ax_aload_n (pc' := 165) dX12_readsStep_164 rfl rfl ?_
                refine ay_V0 (pc' := 168) (ce' := 0) (sl' := 0) (mc2 := 0) (ms2 := 0) (I2 := i_X12_blanks) dX12_readsStep_165 ml_X12_126 sh_69 (by decide) rfl rfl rfl rfl rfl rfl rfl rfl rfl (ac_M.imp (o_X12_blanks _  H) ?_)
                rintro _ _ ⟨s165, rfl, rfl, H⟩
                refine ax_drop 1 rfl ?_
                refine ol_X12_readsStep_168 d  hRr  _ (sh_r_476 _ (ac_lt hj53)) (sh_n_476 _ (ac_lt hj53))  H
          · have H := H.2 hc92
            refine ax_aload_n (pc' := 96) dX12_readsStep_95 rfl rfl ?_
            refine ax_iconst (pc' := 97) (v := (2 : Int32)) dX12_readsStep_96 (by decide) rfl ?_
            refine ax_aload_n (pc' := 98) dX12_readsStep_97 rfl rfl ?_
            refine ax_iconst (pc' := 99) (v := (0 : Int32)) dX12_readsStep_98 (by decide) rfl ?_
            refine ax_aload_n (pc' := 100) dX12_readsStep_99 rfl rfl ?_
            refine ax_getR (pc' := 103) dX12_readsStep_100 fl_X12_23 sh_69 rfl rfl rfl ?_
            refine ax_iconst (pc' := 104) (v := (0 : Int32)) dX12_readsStep_103 (by decide) rfl ?_
            refine ax_iald (pc' := 105) dX12_readsStep_104 sh_73 (ac_in (by decide)) rfl rfl ?_
            refine ax_iconst (pc' := 106) (v := (1 : Int32)) dX12_readsStep_105 (by decide) rfl ?_
            refine ax_isub (pc' := 107) dX12_readsStep_106 rfl ?_
            refine ay_V2 (pc' := 110) (ce' := 0) (sl' := 0) (mc2 := 0) (ms2 := 0) (I2 := i_X12_number) dX12_readsStep_107 ml_X12_166 sh_69 (by decide) rfl rfl rfl rfl rfl rfl rfl rfl rfl (ac_M.imp (o_X12_number _ (0 : Int32) (((ac_u s86 (476 + (s42 69 28).toNatClampNeg) (1 : Int32).toNatClampNeg r86) 73 (0 : Int32).toNatClampNeg) - (1 : Int32)) H) ?_)
            rintro _ _ ⟨r107, s107, rfl, rfl, H⟩
            refine ax_iast (pc' := 111) dX12_readsStep_110 (sh_r_476 _ (ac_lt hj53)) (ac_in (by decide)) (sh_n_476 _ (ac_lt hj53)) rfl ?_
            refine ax_iload_n (pc' := 112) dX12_readsStep_111 rfl rfl ?_
            refine ax_iconst (pc' := 113) (v := (4 : Int32)) dX12_readsStep_112 (by decide) rfl ?_
            refine ax_icmp_ne (pc' := 116) (tgt := 142) dX12_readsStep_113 (by decide) rfl (fun hc113 => ?_) (fun hc113 => ?_)
            · have H := H.1 hc113
              refine ax_iload_n (pc' := 143) dX12_readsStep_142 rfl rfl ?_
              refine ax_bipush (pc' := 145) (v := (6 : Int32)) dX12_readsStep_143 (by decide) rfl ?_
              refine ax_icmp_ne (pc' := 148) (tgt := 215) dX12_readsStep_145 (by decide) rfl (fun hc145 => ?_) (fun hc145 => ?_)
              · have H := H.1 hc145
                refine ax_aload_n (pc' := 216) dX12_readsStep_215 rfl rfl ?_
                refine ax_iconst (pc' := 217) (v := (3 : Int32)) dX12_readsStep_216 (by decide) rfl ?_
                refine ax_aload_n (pc' := 218) dX12_readsStep_217 rfl rfl ?_
                refine ax_getI (pc' := 221) dX12_readsStep_218 fl_X12_260 sh_69 rfl rfl rfl ?_
                refine ax_iast (pc' := 222) dX12_readsStep_221 (sh_r_476 _ (ac_lt hj53)) (ac_in (by decide)) (sh_n_476 _ (ac_lt hj53)) rfl ?_
                refine ax_aload_n (pc' := 223) dX12_readsStep_222 rfl rfl ?_
                refine ax_bipush (pc' := 225) (v := (59 : Int32)) dX12_readsStep_223 (by decide) rfl ?_
                refine ay_V1 (pc' := 228) (ce' := 0) (sl' := 0) (mc2 := 0) (ms2 := 0) (I2 := i_X12_sign) dX12_readsStep_225 ml_X12_179 sh_69 (by decide) rfl rfl rfl rfl rfl rfl rfl rfl rfl (ac_M.imp (o_X12_sign _ (59 : Int32) H) ?_)
                rintro _ _ ⟨s225, rfl, rfl, H⟩
                exact ax_vret dX12_readsStep_228 rfl rfl rfl ⟨_, rfl, rfl, H⟩
              · have H := H.2 hc145
                refine ax_aload_n (pc' := 149) dX12_readsStep_148 rfl rfl ?_
                refine ax_iconst (pc' := 150) (v := (1 : Int32)) dX12_readsStep_149 (by decide) rfl ?_
                refine ax_aload_n (pc' := 151) dX12_readsStep_150 rfl rfl ?_
                refine ax_iconst (pc' := 152) (v := (0 : Int32)) dX12_readsStep_151 (by decide) rfl ?_
                refine ax_bipush (pc' := 154) (v := (60 : Int32)) dX12_readsStep_152 (by decide) rfl ?_
                refine ay_V2 (pc' := 157) (ce' := 0) (sl' := 0) (mc2 := 0) (ms2 := 0) (I2 := i_X12_number) dX12_readsStep_154 ml_X12_166 sh_69 (by decide) rfl rfl rfl rfl rfl rfl rfl rfl rfl (ac_M.imp (o_X12_number _ (0 : Int32) (60 : Int32) H) ?_)
                rintro _ _ ⟨r154, s154, rfl, rfl, H⟩
                refine ax_iast (pc' := 158) dX12_readsStep_157 (sh_r_476 _ (ac_lt hj53)) (ac_in (by decide)) (sh_n_476 _ (ac_lt hj53)) rfl ?_
                refine ax_aload_n (pc' := 159) dX12_readsStep_158 rfl rfl ?_
                refine ax_bipush (pc' := 161) (v := (91 : Int32)) dX12_readsStep_159 (by decide) rfl ?_
                refine ay_V1 (pc' := 164) (ce' := 0) (sl' := 0) (mc2 := 0) (ms2 := 0) (I2 := i_X12_sign) dX12_readsStep_161 ml_X12_179 sh_69 (by decide) rfl rfl rfl rfl rfl rfl rfl rfl rfl (ac_M.imp (o_X12_sign _ (91 : Int32) H) ?_)
                rintro _ _ ⟨s161, rfl, rfl, H⟩
                refine ax_aload_n (pc' := 165) dX12_readsStep_164 rfl rfl ?_
                refine ay_V0 (pc' := 168) (ce' := 0) (sl' := 0) (mc2 := 0) (ms2 := 0) (I2 := i_X12_blanks) dX12_readsStep_165 ml_X12_126 sh_69 (by decide) rfl rfl rfl rfl rfl rfl rfl rfl rfl (ac_M.imp (o_X12_blanks _  H) ?_)
                rintro _ _ ⟨s165, rfl, rfl, H⟩
                refine ax_drop 1 rfl ?_
                refine ol_X12_readsStep_168 d  hRr  _ (sh_r_476 _ (ac_lt hj53)) (sh_n_476 _ (ac_lt hj53))  H
            · have H := H.2 hc113
              refine ax_aload_n (pc' := 117) dX12_readsStep_116 rfl rfl ?_
              refine ax_iconst (pc' := 118) (v := (1 : Int32)) dX12_readsStep_117 (by decide) rfl ?_
              refine ax_aload_n (pc' := 119) dX12_readsStep_118 rfl rfl ?_
              refine ax_iconst (pc' := 120) (v := (0 : Int32)) dX12_readsStep_119 (by decide) rfl ?_
              refine ax_aload_n (pc' := 121) dX12_readsStep_120 rfl rfl ?_
              refine ax_getR (pc' := 124) dX12_readsStep_121 fl_X12_23 sh_69 rfl rfl rfl ?_
              refine ax_iconst (pc' := 125) (v := (0 : Int32)) dX12_readsStep_124 (by decide) rfl ?_
              refine ax_iald (pc' := 126) dX12_readsStep_125 sh_73 (ac_in (by decide)) rfl rfl ?_
              refine ax_iconst (pc' := 127) (v := (1 : Int32)) dX12_readsStep_126 (by decide) rfl ?_
              refine ax_isub (pc' := 128) dX12_readsStep_127 rfl ?_
              refine ay_V2 (pc' := 131) (ce' := 0) (sl' := 0) (mc2 := 0) (ms2 := 0) (I2 := i_X12_number) dX12_readsStep_128 ml_X12_166 sh_69 (by decide) rfl rfl rfl rfl rfl rfl rfl rfl rfl (ac_M.imp (o_X12_number _ (0 : Int32) (((ac_u s107 (476 + (s42 69 28).toNatClampNeg) (2 : Int32).toNatClampNeg r107) 73 (0 : Int32).toNatClampNeg) - (1 : Int32)) H) ?_)
              rintro _ _ ⟨r128, s128, rfl, rfl, H⟩
              refine ax_iast (pc' := 132) dX12_readsStep_131 (sh_r_476 _ (ac_lt hj53)) (ac_in (by decide)) (sh_n_476 _ (ac_lt hj53)) rfl ?_
              refine ax_aload_n (pc' := 133) dX12_readsStep_132 rfl rfl ?_
              refine ax_iconst (pc' := 134) (v := (2 : Int32)) dX12_readsStep_133 (by decide) rfl ?_
              refine ax_aload_n (pc' := 135) dX12_readsStep_134 rfl rfl ?_
              refine ax_iconst (pc' := 136) (v := (1 : Int32)) dX12_readsStep_135 (by decide) rfl ?_
              refine ax_bipush (pc' := 138) (v := (60 : Int32)) dX12_readsStep_136 (by decide) rfl ?_
              refine ay_V2 (pc' := 141) (ce' := 0) (sl' := 0) (mc2 := 0) (ms2 := 0) (I2 := i_X12_number) dX12_readsStep_138 ml_X12_166 sh_69 (by decide) rfl rfl rfl rfl rfl rfl rfl rfl rfl (ac_M.imp (o_X12_number _ (1 : Int32) (60 : Int32) H) ?_)
              rintro _ _ ⟨r138, s138, rfl, rfl, H⟩
              refine ax_iast (pc' := 142) dX12_readsStep_141 (sh_r_476 _ (ac_lt hj53)) (ac_in (by decide)) (sh_n_476 _ (ac_lt hj53)) rfl ?_
              refine ax_iload_n (pc' := 143) dX12_readsStep_142 rfl rfl ?_
              refine ax_bipush (pc' := 145) (v := (6 : Int32)) dX12_readsStep_143 (by decide) rfl ?_
              refine ax_icmp_ne (pc' := 148) (tgt := 215) dX12_readsStep_145 (by decide) rfl (fun hc145 => ?_) (fun hc145 => ?_)
              · have H := H.1 hc145
                refine ax_aload_n (pc' := 216) dX12_readsStep_215 rfl rfl ?_
                refine ax_iconst (pc' := 217) (v := (3 : Int32)) dX12_readsStep_216 (by decide) rfl ?_
                refine ax_aload_n (pc' := 218) dX12_readsStep_217 rfl rfl ?_
                refine ax_getI (pc' := 221) dX12_readsStep_218 fl_X12_260 sh_69 rfl rfl rfl ?_
                refine ax_iast (pc' := 222) dX12_readsStep_221 (sh_r_476 _ (ac_lt hj53)) (ac_in (by decide)) (sh_n_476 _ (ac_lt hj53)) rfl ?_
                refine ax_aload_n (pc' := 223) dX12_readsStep_222 rfl rfl ?_
                refine ax_bipush (pc' := 225) (v := (59 : Int32)) dX12_readsStep_223 (by decide) rfl ?_
                refine ay_V1 (pc' := 228) (ce' := 0) (sl' := 0) (mc2 := 0) (ms2 := 0) (I2 := i_X12_sign) dX12_readsStep_225 ml_X12_179 sh_69 (by decide) rfl rfl rfl rfl rfl rfl rfl rfl rfl (ac_M.imp (o_X12_sign _ (59 : Int32) H) ?_)
                rintro _ _ ⟨s225, rfl, rfl, H⟩
                exact ax_vret dX12_readsStep_228 rfl rfl rfl ⟨_, rfl, rfl, H⟩
              · have H := H.2 hc145
                refine ax_aload_n (pc' := 149) dX12_readsStep_148 rfl rfl ?_
                refine ax_iconst (pc' := 150) (v := (1 : Int32)) dX12_readsStep_149 (by decide) rfl ?_
                refine ax_aload_n (pc' := 151) dX12_readsStep_150 rfl rfl ?_
                refine ax_iconst (pc' := 152) (v := (0 : Int32)) dX12_readsStep_151 (by decide) rfl ?_
                refine ax_bipush (pc' := 154) (v := (60 : Int32)) dX12_readsStep_152 (by decide) rfl ?_
                refine ay_V2 (pc' := 157) (ce' := 0) (sl' := 0) (mc2 := 0) (ms2 := 0) (I2 := i_X12_number) dX12_readsStep_154 ml_X12_166 sh_69 (by decide) rfl rfl rfl rfl rfl rfl rfl rfl rfl (ac_M.imp (o_X12_number _ (0 : Int32) (60 : Int32) H) ?_)
                rintro _ _ ⟨r154, s154, rfl, rfl, H⟩
                refine ax_iast (pc' := 158) dX12_readsStep_157 (sh_r_476 _ (ac_lt hj53)) (ac_in (by decide)) (sh_n_476 _ (ac_lt hj53)) rfl ?_
                refine ax_aload_n (pc' := 159) dX12_readsStep_158 rfl rfl ?_
                refine ax_bipush (pc' := 161) (v := (91 : Int32)) dX12_readsStep_159 (by decide) rfl ?_
                refine ay_V1 (pc' := 164) (ce' := 0) (sl' := 0) (mc2 := 0) (ms2 := 0) (I2 := i_X12_sign) dX12_readsStep_161 ml_X12_179 sh_69 (by decide) rfl rfl rfl rfl rfl rfl rfl rfl rfl (ac_M.imp (o_X12_sign _ (91 : Int32) H) ?_)
                rintro _ _ ⟨s161, rfl, rfl, H⟩
                refine ax_aload_n (pc' := 165) dX12_readsStep_164 rfl rfl ?_
                refine ay_V0 (pc' := 168) (ce' := 0) (sl' := 0) (mc2 := 0) (ms2 := 0) (I2 := i_X12_blanks) dX12_readsStep_165 ml_X12_126 sh_69 (by decide) rfl rfl rfl rfl rfl rfl rfl rfl rfl (ac_M.imp (o_X12_blanks _  H) ?_)
                rintro _ _ ⟨s165, rfl, rfl, H⟩
                refine ax_drop 1 rfl ?_
                refine ol_X12_readsStep_168 d  hRr  _ (sh_r_476 _ (ac_lt hj53)) (sh_n_476 _ (ac_lt hj53))  H
      · have H := H.2 hc37
        exact ax_vret dX12_readsStep_40 rfl rfl rfl ⟨_, rfl, rfl, H⟩
    · have H := H.2 hc22
      refine ax_aload_n (pc' := 26) dX12_readsStep_25 rfl rfl ?_
      refine ay_V0 (pc' := 29) (ce' := 0) (sl' := 0) (mc2 := 0) (ms2 := 0) (I2 := i_X12_opensOne) dX12_readsStep_26 ml_X12_237 sh_69 (by decide) rfl rfl rfl rfl rfl rfl rfl rfl rfl (ac_M.imp (o_X12_opensOne _  H) ?_)
      rintro _ _ ⟨r26, s26, rfl, rfl, H⟩
      refine ax_if_ne (pc' := 32) (tgt := 33) dX12_readsStep_29 (by decide) rfl (fun hc29 => ?_) (fun hc29 => ?_)
      · have H := H.1 hc29
        refine ax_aload_n (pc' := 34) dX12_readsStep_33 rfl rfl ?_
        refine ax_getI (pc' := 37) dX12_readsStep_34 fl_X12_120 sh_69 rfl rfl rfl ?_
        refine ax_if_eq (pc' := 40) (tgt := 41) dX12_readsStep_37 (by decide) rfl (fun hc37 => ?_) (fun hc37 => ?_)
        · have H := H.1 hc37
          refine ax_aload_n (pc' := 42) dX12_readsStep_41 rfl rfl ?_
          refine ay_V0 (pc' := 45) (ce' := 0) (sl' := 0) (mc2 := 0) (ms2 := 0) (I2 := i_X12_skipWord) dX12_readsStep_42 ml_X12_157 sh_69 (by decide) rfl rfl rfl rfl rfl rfl rfl rfl rfl (ac_M.imp (o_X12_skipWord _  H) ?_)
          rintro _ _ ⟨s42, rfl, rfl, H⟩
          refine ax_aload_n (pc' := 46) dX12_readsStep_45 rfl rfl ?_
          refine ax_getR (pc' := 49) dX12_readsStep_46 fl_X12_64 sh_69 rfl rfl rfl ?_
          refine ax_aload_n (pc' := 50) dX12_readsStep_49 rfl rfl ?_
          refine ax_getI (pc' := 53) dX12_readsStep_50 fl_X12_260 sh_69 rfl rfl rfl ?_
          obtain ⟨hj53, H⟩ := H
          refine ax_aald (pc' := 54) dX12_readsStep_53 sh_475 hj53 rfl rfl ?_
          refine ax_astore_n (pc' := 55) dX12_readsStep_54 rfl rfl rfl ?_
          refine ax_aload_n (pc' := 56) dX12_readsStep_55 rfl rfl ?_
          refine ax_dup (pc' := 57) dX12_readsStep_56 rfl rfl ?_
          refine ax_getI (pc' := 60) dX12_readsStep_57 fl_X12_260 sh_69 rfl rfl rfl ?_
          refine ax_iconst (pc' := 61) (v := (1 : Int32)) dX12_readsStep_60 (by decide) rfl ?_
          refine ax_iadd (pc' := 62) dX12_readsStep_61 rfl ?_
          refine ax_putI (pc' := 65) dX12_readsStep_62 fp_X12_260 sh_69 rfl rfl rfl ?_
          refine ax_aload_n (pc' := 66) dX12_readsStep_65 rfl rfl ?_
          refine ax_iconst (pc' := 67) (v := (0 : Int32)) dX12_readsStep_66 (by decide) rfl ?_
          refine ax_iload_n (pc' := 68) dX12_readsStep_67 rfl rfl ?_
          refine ax_iast (pc' := 69) dX12_readsStep_68 (sh_r_476 _ (ac_lt hj53)) (ac_in (by decide)) (sh_n_476 _ (ac_lt hj53)) rfl ?_
          refine ax_iload_n (pc' := 70) dX12_readsStep_69 rfl rfl ?_
          refine ax_iconst (pc' := 71) (v := (4 : Int32)) dX12_readsStep_70 (by decide) rfl ?_
          refine ax_icmp_ge (pc' := 74) (tgt := 90) dX12_readsStep_71 (by decide) rfl (fun hc71 => ?_) (fun hc71 => ?_)
          · have H := H.1 hc71
            refine ax_iload_n (pc' := 91) dX12_readsStep_90 rfl rfl ?_
            refine ax_iconst (pc' := 92) (v := (1 : Int32)) dX12_readsStep_91 (by decide) rfl ?_
            refine ax_icmp_ne (pc' := 95) (tgt := 111) dX12_readsStep_92 (by decide) rfl (fun hc92 => ?_) (fun hc92 => ?_)
            · have H := H.1 hc92
              refine ax_iload_n (pc' := 112) dX12_readsStep_111 rfl rfl ?_
              refine ax_iconst (pc' := 113) (v := (4 : Int32)) dX12_readsStep_112 (by decide) rfl ?_
              refine ax_icmp_ne (pc' := 116) (tgt := 142) dX12_readsStep_113 (by decide) rfl (fun hc113 => ?_) (fun hc113 => ?_)
              · have H := H.1 hc113
                refine ax_iload_n (pc' := 143) dX12_readsStep_142 rfl rfl ?_
                refine ax_bipush (pc' := 145) (v := (6 : Int32)) dX12_readsStep_143 (by decide) rfl ?_
                refine ax_icmp_ne (pc' := 148) (tgt := 215) dX12_readsStep_145 (by decide) rfl (fun hc145 => ?_) (fun hc145 => ?_)
                · have H := H.1 hc145
                  refine ax_aload_n (pc' := 216) dX12_readsStep_215 rfl rfl ?_
                  refine ax_iconst (pc' := 217) (v := (3 : Int32)) dX12_readsStep_216 (by decide) rfl ?_
                  refine ax_aload_n (pc' := 218) dX12_readsStep_217 rfl rfl ?_
                  refine ax_getI (pc' := 221) dX12_readsStep_218 fl_X12_260 sh_69 rfl rfl rfl ?_
                  refine ax_iast (pc' := 222) dX12_readsStep_221 (sh_r_476 _ (ac_lt hj53)) (ac_in (by decide)) (sh_n_476 _ (ac_lt hj53)) rfl ?_
                  refine ax_aload_n (pc' := 223) dX12_readsStep_222 rfl rfl ?_
                  refine ax_bipush (pc' := 225) (v := (59 : Int32)) dX12_readsStep_223 (by decide) rfl ?_
                  refine ay_V1 (pc' := 228) (ce' := 0) (sl' := 0) (mc2 := 0) (ms2 := 0) (I2 := i_X12_sign) dX12_readsStep_225 ml_X12_179 sh_69 (by decide) rfl rfl rfl rfl rfl rfl rfl rfl rfl (ac_M.imp (o_X12_sign _ (59 : Int32) H) ?_)
                  rintro _ _ ⟨s225, rfl, rfl, H⟩
                  exact ax_vret dX12_readsStep_228 rfl rfl rfl ⟨_, rfl, rfl, H⟩
                · have H := H.2 hc145
                  refine ax_aload_n (pc' := 149) dX12_readsStep_148 rfl rfl ?_
                  refine ax_iconst (pc' := 150) (v := (1 : Int32)) dX12_readsStep_149 (by decide) rfl ?_
                  refine ax_aload_n (pc' := 151) dX12_readsStep_150 rfl rfl ?_
                  refine ax_iconst (pc' := 152) (v := (0 : Int32)) dX12_readsStep_151 (by decide) rfl ?_
                  refine ax_bipush (pc' := 154) (v := (60 : Int32)) dX12_readsStep_152 (by decide) rfl ?_
                  refine ay_V2 (pc' := 157) (ce' := 0) (sl' := 0) (mc2 := 0) (ms2 := 0) (I2 := i_X12_number) dX12_readsStep_154 ml_X12_166 sh_69 (by decide) rfl rfl rfl rfl rfl rfl rfl rfl rfl (ac_M.imp (o_X12_number _ (0 : Int32) (60 : Int32) H) ?_)
                  rintro _ _ ⟨r154, s154, rfl, rfl, H⟩
                  refine ax_iast (pc' := 158) dX12_readsStep_157 (sh_r_476 _ (ac_lt hj53)) (ac_in (by decide)) (sh_n_476 _ (ac_lt hj53)) rfl ?_
                  refine ax_aload_n (pc' := 159) dX12_readsStep_158 rfl rfl ?_
                  refine ax_bipush (pc' := 161) (v := (91 : Int32)) dX12_readsStep_159 (by decide) rfl ?_
                  refine ay_V1 (pc' := 164) (ce' := 0) (sl' := 0) (mc2 := 0) (ms2 := 0) (I2 := i_X12_sign) dX12_readsStep_161 ml_X12_179 sh_69 (by decide) rfl rfl rfl rfl rfl rfl rfl rfl rfl (ac_M.imp (o_X12_sign _ (91 : Int32) H) ?_)
                  rintro _ _ ⟨s161, rfl, rfl, H⟩
                  refine ax_aload_n (pc' := 165) dX12_readsStep_164 rfl rfl ?_
                  refine ay_V0 (pc' := 168) (ce' := 0) (sl' := 0) (mc2 := 0) (ms2 := 0) (I2 := i_X12_blanks) dX12_readsStep_165 ml_X12_126 sh_69 (by decide) rfl rfl rfl rfl rfl rfl rfl rfl rfl (ac_M.imp (o_X12_blanks _  H) ?_)
                  rintro _ _ ⟨s165, rfl, rfl, H⟩
                  refine ax_drop 1 rfl ?_
                  refine ol_X12_readsStep_168 d  hRr  _ (sh_r_476 _ (ac_lt hj53)) (sh_n_476 _ (ac_lt hj53))  H
              · have H := H.2 hc113
                refine ax_aload_n (pc' := 117) dX12_readsStep_116 rfl rfl ?_
                refine ax_iconst (pc' := 118) (v := (1 : Int32)) dX12_readsStep_117 (by decide) rfl ?_
                refine ax_aload_n (pc' := 119) dX12_readsStep_118 rfl rfl ?_
                refine ax_iconst (pc' := 120) (v := (0 : Int32)) dX12_readsStep_119 (by decide) rfl ?_
                refine ax_aload_n (pc' := 121) dX12_readsStep_120 rfl rfl ?_
                refine ax_getR (pc' := 124) dX12_readsStep_121 fl_X12_23 sh_69 rfl rfl rfl ?_
                refine ax_iconst (pc' := 125) (v := (0 : Int32)) dX12_readsStep_124 (by decide) rfl ?_
                refine ax_iald (pc' := 126) dX12_readsStep_125 sh_73 (ac_in (by decide)) rfl rfl ?_
                refine ax_iconst (pc' := 127) (v := (1 : Int32)) dX12_readsStep_126 (by decide) rfl ?_
                refine ax_isub (pc' := 128) dX12_readsStep_127 rfl ?_
                refine ay_V2 (pc' := 131) (ce' := 0) (sl' := 0) (mc2 := 0) (ms2 := 0) (I2 := i_X12_number) dX12_readsStep_128 ml_X12_166 sh_69 (by decide) rfl rfl rfl rfl rfl rfl rfl rfl rfl (ac_M.imp (o_X12_number _ (0 : Int32) (((ac_u (ac_u s42 69 28 ((s42 69 28) + (1 : Int32))) (476 + (s42 69 28).toNatClampNeg) (0 : Int32).toNatClampNeg r1) 73 (0 : Int32).toNatClampNeg) - (1 : Int32)) H) ?_)
                rintro _ _ ⟨r128, s128, rfl, rfl, H⟩
                refine ax_iast (pc' := 132) dX12_readsStep_131 (sh_r_476 _ (ac_lt hj53)) (ac_in (by decide)) (sh_n_476 _ (ac_lt hj53)) rfl ?_
                refine ax_aload_n (pc' := 133) dX12_readsStep_132 rfl rfl ?_
                refine ax_iconst (pc' := 134) (v := (2 : Int32)) dX12_readsStep_133 (by decide) rfl ?_
                refine ax_aload_n (pc' := 135) dX12_readsStep_134 rfl rfl ?_
                refine ax_iconst (pc' := 136) (v := (1 : Int32)) dX12_readsStep_135 (by decide) rfl ?_
                refine ax_bipush (pc' := 138) (v := (60 : Int32)) dX12_readsStep_136 (by decide) rfl ?_
                refine ay_V2 (pc' := 141) (ce' := 0) (sl' := 0) (mc2 := 0) (ms2 := 0) (I2 := i_X12_number) dX12_readsStep_138 ml_X12_166 sh_69 (by decide) rfl rfl rfl rfl rfl rfl rfl rfl rfl (ac_M.imp (o_X12_number _ (1 : Int32) (60 : Int32) H) ?_)
                rintro _ _ ⟨r138, s138, rfl, rfl, H⟩
                refine ax_iast (pc' := 142) dX12_readsStep_141 (sh_r_476 _ (ac_lt hj53)) (ac_in (by decide)) (sh_n_476 _ (ac_lt hj53)) rfl ?_
                refine ax_iload_n (pc' := 143) dX12_readsStep_142 rfl rfl ?_
                refine ax_bipush (pc' := 145) (v := (6 : Int32)) dX12_readsStep_143 (by decide) rfl ?_
                refine ax_icmp_ne (pc' := 148) (tgt := 215) dX12_readsStep_145 (by decide) rfl (fun hc145 => ?_) (fun hc145 => ?_)
                · have H := H.1 hc145
                  refine ax_aload_n (pc' := 216) dX12_readsStep_215 rfl rfl ?_
                  refine ax_iconst (pc' := 217) (v := (3 : Int32)) dX12_readsStep_216 (by decide) rfl ?_
                  refine ax_aload_n (pc' := 218) dX12_readsStep_217 rfl rfl ?_
                  refine ax_getI (pc' := 221) dX12_readsStep_218 fl_X12_260 sh_69 rfl rfl rfl ?_
                  refine ax_iast (pc' := 222) dX12_readsStep_221 (sh_r_476 _ (ac_lt hj53)) (ac_in (by decide)) (sh_n_476 _ (ac_lt hj53)) rfl ?_
                  refine ax_aload_n (pc' := 223) dX12_readsStep_222 rfl rfl ?_
                  refine ax_bipush (pc' := 225) (v := (59 : Int32)) dX12_readsStep_223 (by decide) rfl ?_
                  refine ay_V1 (pc' := 228) (ce' := 0) (sl' := 0) (mc2 := 0) (ms2 := 0) (I2 := i_X12_sign) dX12_readsStep_225 ml_X12_179 sh_69 (by decide) rfl rfl rfl rfl rfl rfl rfl rfl rfl (ac_M.imp (o_X12_sign _ (59 : Int32) H) ?_)
                  rintro _ _ ⟨s225, rfl, rfl, H⟩
                  exact ax_vret dX12_readsStep_228 rfl rfl rfl ⟨_, rfl, rfl, H⟩
                · have H := H.2 hc145
                  refine ax_aload_n (pc' := 149) dX12_readsStep_148 rfl rfl ?_
                  refine ax_iconst (pc' := 150) (v := (1 : Int32)) dX12_readsStep_149 (by decide) rfl ?_
                  refine ax_aload_n (pc' := 151) dX12_readsStep_150 rfl rfl ?_
                  refine ax_iconst (pc' := 152) (v := (0 : Int32)) dX12_readsStep_151 (by decide) rfl ?_
                  refine ax_bipush (pc' := 154) (v := (60 : Int32)) dX12_readsStep_152 (by decide) rfl ?_
                  refine ay_V2 (pc' := 157) (ce' := 0) (sl' := 0) (mc2 := 0) (ms2 := 0) (I2 := i_X12_number) dX12_readsStep_154 ml_X12_166 sh_69 (by decide) rfl rfl rfl rfl rfl rfl rfl rfl rfl (ac_M.imp (o_X12_number _ (0 : Int32) (60 : Int32) H) ?_)
                  rintro _ _ ⟨r154, s154, rfl, rfl, H⟩
                  refine ax_iast (pc' := 158) dX12_readsStep_157 (sh_r_476 _ (ac_lt hj53)) (ac_in (by decide)) (sh_n_476 _ (ac_lt hj53)) rfl ?_
                  refine ax_aload_n (pc' := 159) dX12_readsStep_158 rfl rfl ?_
                  refine ax_bipush (pc' := 161) (v := (91 : Int32)) dX12_readsStep_159 (by decide) rfl ?_
                  refine ay_V1 (pc' := 164) (ce' := 0) (sl' := 0) (mc2 := 0) (ms2 := 0) (I2 := i_X12_sign) dX12_readsStep_161 ml_X12_179 sh_69 (by decide) rfl rfl rfl rfl rfl rfl rfl rfl rfl (ac_M.imp (o_X12_sign _ (91 : Int32) H) ?_)
                  rintro _ _ ⟨s161, rfl, rfl, H⟩
                  refine ax_aload_n (pc' := 165) dX12_readsStep_164 rfl rfl ?_
                  refine ay_V0 (pc' := 168) (ce' := 0) (sl' := 0) (mc2 := 0) (ms2 := 0) (I2 := i_X12_blanks) dX12_readsStep_165 ml_X12_126 sh_69 (by decide) rfl rfl rfl rfl rfl rfl rfl rfl rfl (ac_M.imp (o_X12_blanks _  H) ?_)
                  rintro _ _ ⟨s165, rfl, rfl, H⟩
                  refine ax_drop 1 rfl ?_
                  refine ol_X12_readsStep_168 d  hRr  _ (sh_r_476 _ (ac_lt hj53)) (sh_n_476 _ (ac_lt hj53))  H
            · have H := H.2 hc92
              refine ax_aload_n (pc' := 96) dX12_readsStep_95 rfl rfl ?_
              refine ax_iconst (pc' := 97) (v := (2 : Int32)) dX12_readsStep_96 (by decide) rfl ?_
              refine ax_aload_n (pc' := 98) dX12_readsStep_97 rfl rfl ?_
              refine ax_iconst (pc' := 99) (v := (0 : Int32)) dX12_readsStep_98 (by decide) rfl ?_
              refine ax_aload_n (pc' := 100) dX12_readsStep_99 rfl rfl ?_
              refine ax_getR (pc' := 103) dX12_readsStep_100 fl_X12_23 sh_69 rfl rfl rfl ?_
              refine ax_iconst (pc' := 104) (v := (0 : Int32)) dX12_readsStep_103 (by decide) rfl ?_
              refine ax_iald (pc' := 105) dX12_readsStep_104 sh_73 (ac_in (by decide)) rfl rfl ?_
              refine ax_iconst (pc' := 106) (v := (1 : Int32)) dX12_readsStep_105 (by decide) rfl ?_
              refine ax_isub (pc' := 107) dX12_readsStep_106 rfl ?_
              refine ay_V2 (pc' := 110) (ce' := 0) (sl' := 0) (mc2 := 0) (ms2 := 0) (I2 := i_X12_number) dX12_readsStep_107 ml_X12_166 sh_69 (by decide) rfl rfl rfl rfl rfl rfl rfl rfl rfl (ac_M.imp (o_X12_number _ (0 : Int32) (((ac_u (ac_u s42 69 28 ((s42 69 28) + (1 : Int32))) (476 + (s42 69 28).toNatClampNeg) (0 : Int32).toNatClampNeg r1) 73 (0 : Int32).toNatClampNeg) - (1 : Int32)) H) ?_)
              rintro _ _ ⟨r107, s107, rfl, rfl, H⟩
              refine ax_iast (pc' := 111) dX12_readsStep_110 (sh_r_476 _ (ac_lt hj53)) (ac_in (by decide)) (sh_n_476 _ (ac_lt hj53)) rfl ?_
              refine ax_iload_n (pc' := 112) dX12_readsStep_111 rfl rfl ?_
              refine ax_iconst (pc' := 113) (v := (4 : Int32)) dX12_readsStep_112 (by decide) rfl ?_
              refine ax_icmp_ne (pc' := 116) (tgt := 142) dX12_readsStep_113 (by decide) rfl (fun hc113 => ?_) (fun hc113 => ?_)
              · have H := H.1 hc113
                refine ax_iload_n (pc' := 143) dX12_readsStep_142 rfl rfl ?_
                refine ax_bipush (pc' := 145) (v := (6 : Int32)) dX12_readsStep_143 (by decide) rfl ?_
                refine ax_icmp_ne (pc' := 148) (tgt := 215) dX12_readsStep_145 (by decide) rfl (fun hc145 => ?_) (fun hc145 => ?_)
                · have H := H.1 hc145
                  refine ax_aload_n (pc' := 216) dX12_readsStep_215 rfl rfl ?_
                  refine ax_iconst (pc' := 217) (v := (3 : Int32)) dX12_readsStep_216 (by decide) rfl ?_
                  refine ax_aload_n (pc' := 218) dX12_readsStep_217 rfl rfl ?_
                  refine ax_getI (pc' := 221) dX12_readsStep_218 fl_X12_260 sh_69 rfl rfl rfl ?_
                  refine ax_iast (pc' := 222) dX12_readsStep_221 (sh_r_476 _ (ac_lt hj53)) (ac_in (by decide)) (sh_n_476 _ (ac_lt hj53)) rfl ?_
                  refine ax_aload_n (pc' := 223) dX12_readsStep_222 rfl rfl ?_
                  refine ax_bipush (pc' := 225) (v := (59 : Int32)) dX12_readsStep_223 (by decide) rfl ?_
                  refine ay_V1 (pc' := 228) (ce' := 0) (sl' := 0) (mc2 := 0) (ms2 := 0) (I2 := i_X12_sign) dX12_readsStep_225 ml_X12_179 sh_69 (by decide) rfl rfl rfl rfl rfl rfl rfl rfl rfl (ac_M.imp (o_X12_sign _ (59 : Int32) H) ?_)
                  rintro _ _ ⟨s225, rfl, rfl, H⟩
                  exact ax_vret dX12_readsStep_228 rfl rfl rfl ⟨_, rfl, rfl, H⟩
                · have H := H.2 hc145
                  refine ax_aload_n (pc' := 149) dX12_readsStep_148 rfl rfl ?_
                  refine ax_iconst (pc' := 150) (v := (1 : Int32)) dX12_readsStep_149 (by decide) rfl ?_
                  refine ax_aload_n (pc' := 151) dX12_readsStep_150 rfl rfl ?_
                  refine ax_iconst (pc' := 152) (v := (0 : Int32)) dX12_readsStep_151 (by decide) rfl ?_
                  refine ax_bipush (pc' := 154) (v := (60 : Int32)) dX12_readsStep_152 (by decide) rfl ?_
                  refine ay_V2 (pc' := 157) (ce' := 0) (sl' := 0) (mc2 := 0) (ms2 := 0) (I2 := i_X12_number) dX12_readsStep_154 ml_X12_166 sh_69 (by decide) rfl rfl rfl rfl rfl rfl rfl rfl rfl (ac_M.imp (o_X12_number _ (0 : Int32) (60 : Int32) H) ?_)
                  rintro _ _ ⟨r154, s154, rfl, rfl, H⟩
                  refine ax_iast (pc' := 158) dX12_readsStep_157 (sh_r_476 _ (ac_lt hj53)) (ac_in (by decide)) (sh_n_476 _ (ac_lt hj53)) rfl ?_
                  refine ax_aload_n (pc' := 159) dX12_readsStep_158 rfl rfl ?_
                  refine ax_bipush (pc' := 161) (v := (91 : Int32)) dX12_readsStep_159 (by decide) rfl ?_
                  refine ay_V1 (pc' := 164) (ce' := 0) (sl' := 0) (mc2 := 0) (ms2 := 0) (I2 := i_X12_sign) dX12_readsStep_161 ml_X12_179 sh_69 (by decide) rfl rfl rfl rfl rfl rfl rfl rfl rfl (ac_M.imp (o_X12_sign _ (91 : Int32) H) ?_)
                  rintro _ _ ⟨s161, rfl, rfl, H⟩
                  refine ax_aload_n (pc' := 165) dX12_readsStep_164 rfl rfl ?_
                  refine ay_V0 (pc' := 168) (ce' := 0) (sl' := 0) (mc2 := 0) (ms2 := 0) (I2 := i_X12_blanks) dX12_readsStep_165 ml_X12_126 sh_69 (by decide) rfl rfl rfl rfl rfl rfl rfl rfl rfl (ac_M.imp (o_X12_blanks _  H) ?_)
                  rintro _ _ ⟨s165, rfl, rfl, H⟩
                  refine ax_drop 1 rfl ?_
                  refine ol_X12_readsStep_168 d  hRr  _ (sh_r_476 _ (ac_lt hj53)) (sh_n_476 _ (ac_lt hj53))  H
              · have H := H.2 hc113
                refine ax_aload_n (pc' := 117) dX12_readsStep_116 rfl rfl ?_
                refine ax_iconst (pc' := 118) (v := (1 : Int32)) dX12_readsStep_117 (by decide) rfl ?_
                refine ax_aload_n (pc' := 119) dX12_readsStep_118 rfl rfl ?_
                refine ax_iconst (pc' := 120) (v := (0 : Int32)) dX12_readsStep_119 (by decide) rfl ?_
                refine ax_aload_n (pc' := 121) dX12_readsStep_120 rfl rfl ?_
                refine ax_getR (pc' := 124) dX12_readsStep_121 fl_X12_23 sh_69 rfl rfl rfl ?_
                refine ax_iconst (pc' := 125) (v := (0 : Int32)) dX12_readsStep_124 (by decide) rfl ?_
                refine ax_iald (pc' := 126) dX12_readsStep_125 sh_73 (ac_in (by decide)) rfl rfl ?_
                refine ax_iconst (pc' := 127) (v := (1 : Int32)) dX12_readsStep_126 (by decide) rfl ?_
                refine ax_isub (pc' := 128) dX12_readsStep_127 rfl ?_
                refine ay_V2 (pc' := 131) (ce' := 0) (sl' := 0) (mc2 := 0) (ms2 := 0) (I2 := i_X12_number) dX12_readsStep_128 ml_X12_166 sh_69 (by decide) rfl rfl rfl rfl rfl rfl rfl rfl rfl (ac_M.imp (o_X12_number _ (0 : Int32) (((ac_u s107 (476 + (s42 69 28).toNatClampNeg) (2 : Int32).toNatClampNeg r107) 73 (0 : Int32).toNatClampNeg) - (1 : Int32)) H) ?_)
                rintro _ _ ⟨r128, s128, rfl, rfl, H⟩
                refine ax_iast (pc' := 132) dX12_readsStep_131 (sh_r_476 _ (ac_lt hj53)) (ac_in (by decide)) (sh_n_476 _ (ac_lt hj53)) rfl ?_
                refine ax_aload_n (pc' := 133) dX12_readsStep_132 rfl rfl ?_
                refine ax_iconst (pc' := 134) (v := (2 : Int32)) dX12_readsStep_133 (by decide) rfl ?_
                refine ax_aload_n (pc' := 135) dX12_readsStep_134 rfl rfl ?_
                refine ax_iconst (pc' := 136) (v := (1 : Int32)) dX12_readsStep_135 (by decide) rfl ?_
                refine ax_bipush (pc' := 138) (v := (60 : Int32)) dX12_readsStep_136 (by decide) rfl ?_
                refine ay_V2 (pc' := 141) (ce' := 0) (sl' := 0) (mc2 := 0) (ms2 := 0) (I2 := i_X12_number) dX12_readsStep_138 ml_X12_166 sh_69 (by decide) rfl rfl rfl rfl rfl rfl rfl rfl rfl (ac_M.imp (o_X12_number _ (1 : Int32) (60 : Int32) H) ?_)
                rintro _ _ ⟨r138, s138, rfl, rfl, H⟩
                refine ax_iast (pc' := 142) dX12_readsStep_141 (sh_r_476 _ (ac_lt hj53)) (ac_in (by decide)) (sh_n_476 _ (ac_lt hj53)) rfl ?_
                refine ax_iload_n (pc' := 143) dX12_readsStep_142 rfl rfl ?_
                refine ax_bipush (pc' := 145) (v := (6 : Int32)) dX12_readsStep_143 (by decide) rfl ?_
                refine ax_icmp_ne (pc' := 148) (tgt := 215) dX12_readsStep_145 (by decide) rfl (fun hc145 => ?_) (fun hc145 => ?_)
                · have H := H.1 hc145
                  refine ax_aload_n (pc' := 216) dX12_readsStep_215 rfl rfl ?_
                  refine ax_iconst (pc' := 217) (v := (3 : Int32)) dX12_readsStep_216 (by decide) rfl ?_
                  refine ax_aload_n (pc' := 218) dX12_readsStep_217 rfl rfl ?_
                  refine ax_getI (pc' := 221) dX12_readsStep_218 fl_X12_260 sh_69 rfl rfl rfl ?_
                  refine ax_iast (pc' := 222) dX12_readsStep_221 (sh_r_476 _ (ac_lt hj53)) (ac_in (by decide)) (sh_n_476 _ (ac_lt hj53)) rfl ?_
                  refine ax_aload_n (pc' := 223) dX12_readsStep_222 rfl rfl ?_
                  refine ax_bipush (pc' := 225) (v := (59 : Int32)) dX12_readsStep_223 (by decide) rfl ?_
                  refine ay_V1 (pc' := 228) (ce' := 0) (sl' := 0) (mc2 := 0) (ms2 := 0) (I2 := i_X12_sign) dX12_readsStep_225 ml_X12_179 sh_69 (by decide) rfl rfl rfl rfl rfl rfl rfl rfl rfl (ac_M.imp (o_X12_sign _ (59 : Int32) H) ?_)
                  rintro _ _ ⟨s225, rfl, rfl, H⟩
                  exact ax_vret dX12_readsStep_228 rfl rfl rfl ⟨_, rfl, rfl, H⟩
                · have H := H.2 hc145
                  refine ax_aload_n (pc' := 149) dX12_readsStep_148 rfl rfl ?_
                  refine ax_iconst (pc' := 150) (v := (1 : Int32)) dX12_readsStep_149 (by decide) rfl ?_
                  refine ax_aload_n (pc' := 151) dX12_readsStep_150 rfl rfl ?_
                  refine ax_iconst (pc' := 152) (v := (0 : Int32)) dX12_readsStep_151 (by decide) rfl ?_
                  refine ax_bipush (pc' := 154) (v := (60 : Int32)) dX12_readsStep_152 (by decide) rfl ?_
                  refine ay_V2 (pc' := 157) (ce' := 0) (sl' := 0) (mc2 := 0) (ms2 := 0) (I2 := i_X12_number) dX12_readsStep_154 ml_X12_166 sh_69 (by decide) rfl rfl rfl rfl rfl rfl rfl rfl rfl (ac_M.imp (o_X12_number _ (0 : Int32) (60 : Int32) H) ?_)
                  rintro _ _ ⟨r154, s154, rfl, rfl, H⟩
                  refine ax_iast (pc' := 158) dX12_readsStep_157 (sh_r_476 _ (ac_lt hj53)) (ac_in (by decide)) (sh_n_476 _ (ac_lt hj53)) rfl ?_
                  refine ax_aload_n (pc' := 159) dX12_readsStep_158 rfl rfl ?_
                  refine ax_bipush (pc' := 161) (v := (91 : Int32)) dX12_readsStep_159 (by decide) rfl ?_
                  refine ay_V1 (pc' := 164) (ce' := 0) (sl' := 0) (mc2 := 0) (ms2 := 0) (I2 := i_X12_sign) dX12_readsStep_161 ml_X12_179 sh_69 (by decide) rfl rfl rfl rfl rfl rfl rfl rfl rfl (ac_M.imp (o_X12_sign _ (91 : Int32) H) ?_)
                  rintro _ _ ⟨s161, rfl, rfl, H⟩
                  refine ax_aload_n (pc' := 165) dX12_readsStep_164 rfl rfl ?_
                  refine ay_V0 (pc' := 168) (ce' := 0) (sl' := 0) (mc2 := 0) (ms2 := 0) (I2 := i_X12_blanks) dX12_readsStep_165 ml_X12_126 sh_69 (by decide) rfl rfl rfl rfl rfl rfl rfl rfl rfl (ac_M.imp (o_X12_blanks _  H) ?_)
                  rintro _ _ ⟨s165, rfl, rfl, H⟩
                  refine ax_drop 1 rfl ?_
                  refine ol_X12_readsStep_168 d  hRr  _ (sh_r_476 _ (ac_lt hj53)) (sh_n_476 _ (ac_lt hj53))  H
          · have H := H.2 hc71
            refine ax_aload_n (pc' := 75) dX12_readsStep_74 rfl rfl ?_
            refine ax_iconst (pc' := 76) (v := (1 : Int32)) dX12_readsStep_75 (by decide) rfl ?_
            refine ax_aload_n (pc' := 77) dX12_readsStep_76 rfl rfl ?_
            refine ax_iconst (pc' := 78) (v := (0 : Int32)) dX12_readsStep_77 (by decide) rfl ?_
            refine ax_aload_n (pc' := 79) dX12_readsStep_78 rfl rfl ?_
            refine ax_getR (pc' := 82) dX12_readsStep_79 fl_X12_23 sh_69 rfl rfl rfl ?_
            refine ax_iconst (pc' := 83) (v := (1 : Int32)) dX12_readsStep_82 (by decide) rfl ?_
            refine ax_iald (pc' := 84) dX12_readsStep_83 sh_73 (ac_in (by decide)) rfl rfl ?_
            refine ax_iconst (pc' := 85) (v := (1 : Int32)) dX12_readsStep_84 (by decide) rfl ?_
            refine ax_isub (pc' := 86) dX12_readsStep_85 rfl ?_
            refine ay_V2 (pc' := 89) (ce' := 0) (sl' := 0) (mc2 := 0) (ms2 := 0) (I2 := i_X12_number) dX12_readsStep_86 ml_X12_166 sh_69 (by decide) rfl rfl rfl rfl rfl rfl rfl rfl rfl (ac_M.imp (o_X12_number _ (0 : Int32) (((ac_u (ac_u s42 69 28 ((s42 69 28) + (1 : Int32))) (476 + (s42 69 28).toNatClampNeg) (0 : Int32).toNatClampNeg r1) 73 (1 : Int32).toNatClampNeg) - (1 : Int32)) H) ?_)
            rintro _ _ ⟨r86, s86, rfl, rfl, H⟩
            refine ax_iast (pc' := 90) dX12_readsStep_89 (sh_r_476 _ (ac_lt hj53)) (ac_in (by decide)) (sh_n_476 _ (ac_lt hj53)) rfl ?_
            refine ax_iload_n (pc' := 91) dX12_readsStep_90 rfl rfl ?_
            refine ax_iconst (pc' := 92) (v := (1 : Int32)) dX12_readsStep_91 (by decide) rfl ?_
            refine ax_icmp_ne (pc' := 95) (tgt := 111) dX12_readsStep_92 (by decide) rfl (fun hc92 => ?_) (fun hc92 => ?_)
            · have H := H.1 hc92
              refine ax_iload_n (pc' := 112) dX12_readsStep_111 rfl rfl ?_
              refine ax_iconst (pc' := 113) (v := (4 : Int32)) dX12_readsStep_112 (by decide) rfl ?_
              refine ax_icmp_ne (pc' := 116) (tgt := 142) dX12_readsStep_113 (by decide) rfl (fun hc113 => ?_) (fun hc113 => ?_)
              · have H := H.1 hc113
                refine ax_iload_n (pc' := 143) dX12_readsStep_142 rfl rfl ?_
                refine ax_bipush (pc' := 145) (v := (6 : Int32)) dX12_readsStep_143 (by decide) rfl ?_
                refine ax_icmp_ne (pc' := 148) (tgt := 215) dX12_readsStep_145 (by decide) rfl (fun hc145 => ?_) (fun hc145 => ?_)
                · have H := H.1 hc145
                  refine ax_aload_n (pc' := 216) dX12_readsStep_215 rfl rfl ?_
                  refine ax_iconst (pc' := 217) (v := (3 : Int32)) dX12_readsStep_216 (by decide) rfl ?_
                  refine ax_aload_n (pc' := 218) dX12_readsStep_217 rfl rfl ?_
                  refine ax_getI (pc' := 221) dX12_readsStep_218 fl_X12_260 sh_69 rfl rfl rfl ?_
                  refine ax_iast (pc' := 222) dX12_readsStep_221 (sh_r_476 _ (ac_lt hj53)) (ac_in (by decide)) (sh_n_476 _ (ac_lt hj53)) rfl ?_
                  refine ax_aload_n (pc' := 223) dX12_readsStep_222 rfl rfl ?_
                  refine ax_bipush (pc' := 225) (v := (59 : Int32)) dX12_readsStep_223 (by decide) rfl ?_
                  refine ay_V1 (pc' := 228) (ce' := 0) (sl' := 0) (mc2 := 0) (ms2 := 0) (I2 := i_X12_sign) dX12_readsStep_225 ml_X12_179 sh_69 (by decide) rfl rfl rfl rfl rfl rfl rfl rfl rfl (ac_M.imp (o_X12_sign _ (59 : Int32) H) ?_)
                  rintro _ _ ⟨s225, rfl, rfl, H⟩
                  exact ax_vret dX12_readsStep_228 rfl rfl rfl ⟨_, rfl, rfl, H⟩
                · have H := H.2 hc145
                  refine ax_aload_n (pc' := 149) dX12_readsStep_148 rfl rfl ?_
                  refine ax_iconst (pc' := 150) (v := (1 : Int32)) dX12_readsStep_149 (by decide) rfl ?_
                  refine ax_aload_n (pc' := 151) dX12_readsStep_150 rfl rfl ?_
                  refine ax_iconst (pc' := 152) (v := (0 : Int32)) dX12_readsStep_151 (by decide) rfl ?_
                  refine ax_bipush (pc' := 154) (v := (60 : Int32)) dX12_readsStep_152 (by decide) rfl ?_
                  refine ay_V2 (pc' := 157) (ce' := 0) (sl' := 0) (mc2 := 0) (ms2 := 0) (I2 := i_X12_number) dX12_readsStep_154 ml_X12_166 sh_69 (by decide) rfl rfl rfl rfl rfl rfl rfl rfl rfl (ac_M.imp (o_X12_number _ (0 : Int32) (60 : Int32) H) ?_)
                  rintro _ _ ⟨r154, s154, rfl, rfl, H⟩
                  refine ax_iast (pc' := 158) dX12_readsStep_157 (sh_r_476 _ (ac_lt hj53)) (ac_in (by decide)) (sh_n_476 _ (ac_lt hj53)) rfl ?_
                  refine ax_aload_n (pc' := 159) dX12_readsStep_158 rfl rfl ?_
                  refine ax_bipush (pc' := 161) (v := (91 : Int32)) dX12_readsStep_159 (by decide) rfl ?_
                  refine ay_V1 (pc' := 164) (ce' := 0) (sl' := 0) (mc2 := 0) (ms2 := 0) (I2 := i_X12_sign) dX12_readsStep_161 ml_X12_179 sh_69 (by decide) rfl rfl rfl rfl rfl rfl rfl rfl rfl (ac_M.imp (o_X12_sign _ (91 : Int32) H) ?_)
                  rintro _ _ ⟨s161, rfl, rfl, H⟩
                  refine ax_aload_n (pc' := 165) dX12_readsStep_164 rfl rfl ?_
                  refine ay_V0 (pc' := 168) (ce' := 0) (sl' := 0) (mc2 := 0) (ms2 := 0) (I2 := i_X12_blanks) dX12_readsStep_165 ml_X12_126 sh_69 (by decide) rfl rfl rfl rfl rfl rfl rfl rfl rfl (ac_M.imp (o_X12_blanks _  H) ?_)
                  rintro _ _ ⟨s165, rfl, rfl, H⟩
                  refine ax_drop 1 rfl ?_
                  refine ol_X12_readsStep_168 d  hRr  _ (sh_r_476 _ (ac_lt hj53)) (sh_n_476 _ (ac_lt hj53))  H
              · have H := H.2 hc113
                refine ax_aload_n (pc' := 117) dX12_readsStep_116 rfl rfl ?_
                refine ax_iconst (pc' := 118) (v := (1 : Int32)) dX12_readsStep_117 (by decide) rfl ?_
                refine ax_aload_n (pc' := 119) dX12_readsStep_118 rfl rfl ?_
                refine ax_iconst (pc' := 120) (v := (0 : Int32)) dX12_readsStep_119 (by decide) rfl ?_
                refine ax_aload_n (pc' := 121) dX12_readsStep_120 rfl rfl ?_
                refine ax_getR (pc' := 124) dX12_readsStep_121 fl_X12_23 sh_69 rfl rfl rfl ?_
                refine ax_iconst (pc' := 125) (v := (0 : Int32)) dX12_readsStep_124 (by decide) rfl ?_
                refine ax_iald (pc' := 126) dX12_readsStep_125 sh_73 (ac_in (by decide)) rfl rfl ?_
                refine ax_iconst (pc' := 127) (v := (1 : Int32)) dX12_readsStep_126 (by decide) rfl ?_
                refine ax_isub (pc' := 128) dX12_readsStep_127 rfl ?_
                refine ay_V2 (pc' := 131) (ce' := 0) (sl' := 0) (mc2 := 0) (ms2 := 0) (I2 := i_X12_number) dX12_readsStep_128 ml_X12_166 sh_69 (by decide) rfl rfl rfl rfl rfl rfl rfl rfl rfl (ac_M.imp (o_X12_number _ (0 : Int32) (((ac_u s86 (476 + (s42 69 28).toNatClampNeg) (1 : Int32).toNatClampNeg r86) 73 (0 : Int32).toNatClampNeg) - (1 : Int32)) H) ?_)
                rintro _ _ ⟨r128, s128, rfl, rfl, H⟩
                refine ax_iast (pc' := 132) dX12_readsStep_131 (sh_r_476 _ (ac_lt hj53)) (ac_in (by decide)) (sh_n_476 _ (ac_lt hj53)) rfl ?_
                refine ax_aload_n (pc' := 133) dX12_readsStep_132 rfl rfl ?_
                refine ax_iconst (pc' := 134) (v := (2 : Int32)) dX12_readsStep_133 (by decide) rfl ?_
                refine ax_aload_n (pc' := 135) dX12_readsStep_134 rfl rfl ?_
                refine ax_iconst (pc' := 136) (v := (1 : Int32)) dX12_readsStep_135 (by decide) rfl ?_
                refine ax_bipush (pc' := 138) (v := (60 : Int32)) dX12_readsStep_136 (by decide) rfl ?_
                refine ay_V2 (pc' := 141) (ce' := 0) (sl' := 0) (mc2 := 0) (ms2 := 0) (I2 := i_X12_number) dX12_readsStep_138 ml_X12_166 sh_69 (by decide) rfl rfl rfl rfl rfl rfl rfl rfl rfl (ac_M.imp (o_X12_number _ (1 : Int32) (60 : Int32) H) ?_)
                rintro _ _ ⟨r138, s138, rfl, rfl, H⟩
                refine ax_iast (pc' := 142) dX12_readsStep_141 (sh_r_476 _ (ac_lt hj53)) (ac_in (by decide)) (sh_n_476 _ (ac_lt hj53)) rfl ?_
                refine ax_iload_n (pc' := 143) dX12_readsStep_142 rfl rfl ?_
                refine ax_bipush (pc' := 145) (v := (6 : Int32)) dX12_readsStep_143 (by decide) rfl ?_
                refine ax_icmp_ne (pc' := 148) (tgt := 215) dX12_readsStep_145 (by decide) rfl (fun hc145 => ?_) (fun hc145 => ?_)
                · have H := H.1 hc145
                  refine ax_aload_n (pc' := 216) dX12_readsStep_215 rfl rfl ?_
                  refine ax_iconst (pc' := 217) (v := (3 : Int32)) dX12_readsStep_216 (by decide) rfl ?_
                  refine ax_aload_n (pc' := 218) dX12_readsStep_217 rfl rfl ?_
                  refine ax_getI (pc' := 221) dX12_readsStep_218 fl_X12_260 sh_69 rfl rfl rfl ?_
                  refine ax_iast (pc' := 222) dX12_readsStep_221 (sh_r_476 _ (ac_lt hj53)) (ac_in (by decide)) (sh_n_476 _ (ac_lt hj53)) rfl ?_
                  refine ax_aload_n (pc' := 223) dX12_readsStep_222 rfl rfl ?_
                  refine ax_bipush (pc' := 225) (v := (59 : Int32)) dX12_readsStep_223 (by decide) rfl ?_
                  refine ay_V1 (pc' := 228) (ce' := 0) (sl' := 0) (mc2 := 0) (ms2 := 0) (I2 := i_X12_sign) dX12_readsStep_225 ml_X12_179 sh_69 (by decide) rfl rfl rfl rfl rfl rfl rfl rfl rfl (ac_M.imp (o_X12_sign _ (59 : Int32) H) ?_)
                  rintro _ _ ⟨s225, rfl, rfl, H⟩
                  exact ax_vret dX12_readsStep_228 rfl rfl rfl ⟨_, rfl, rfl, H⟩
                · have H := H.2 hc145
                  refine ax_aload_n (pc' := 149) dX12_readsStep_148 rfl rfl ?_
                  refine ax_iconst (pc' := 150) (v := (1 : Int32)) dX12_readsStep_149 (by decide) rfl ?_
                  refine ax_aload_n (pc' := 151) dX12_readsStep_150 rfl rfl ?_
                  refine ax_iconst (pc' := 152) (v := (0 : Int32)) dX12_readsStep_151 (by decide) rfl ?_
                  refine ax_bipush (pc' := 154) (v := (60 : Int32)) dX12_readsStep_152 (by decide) rfl ?_
                  refine ay_V2 (pc' := 157) (ce' := 0) (sl' := 0) (mc2 := 0) (ms2 := 0) (I2 := i_X12_number) dX12_readsStep_154 ml_X12_166 sh_69 (by decide) rfl rfl rfl rfl rfl rfl rfl rfl rfl (ac_M.imp (o_X12_number _ (0 : Int32) (60 : Int32) H) ?_)
                  rintro _ _ ⟨r154, s154, rfl, rfl, H⟩
                  refine ax_iast (pc' := 158) dX12_readsStep_157 (sh_r_476 _ (ac_lt hj53)) (ac_in (by decide)) (sh_n_476 _ (ac_lt hj53)) rfl ?_
                  refine ax_aload_n (pc' := 159) dX12_readsStep_158 rfl rfl ?_
                  refine ax_bipush (pc' := 161) (v := (91 : Int32)) dX12_readsStep_159 (by decide) rfl ?_
                  refine ay_V1 (pc' := 164) (ce' := 0) (sl' := 0) (mc2 := 0) (ms2 := 0) (I2 := i_X12_sign) dX12_readsStep_161 ml_X12_179 sh_69 (by decide) rfl rfl rfl rfl rfl rfl rfl rfl rfl (ac_M.imp (o_X12_sign _ (91 : Int32) H) ?_)
                  rintro _ _ ⟨s161, rfl, rfl, H⟩
                  refine ax_aload_n (pc' := 165) dX12_readsStep_164 rfl rfl ?_
                  refine ay_V0 (pc' := 168) (ce' := 0) (sl' := 0) (mc2 := 0) (ms2 := 0) (I2 := i_X12_blanks) dX12_readsStep_165 ml_X12_126 sh_69 (by decide) rfl rfl rfl rfl rfl rfl rfl rfl rfl (ac_M.imp (o_X12_blanks _  H) ?_)
                  rintro _ _ ⟨s165, rfl, rfl, H⟩
                  refine ax_drop 1 rfl ?_
                  refine ol_X12_readsStep_168 d  hRr  _ (sh_r_476 _ (ac_lt hj53)) (sh_n_476 _ (ac_lt hj53))  H
            · have H := H.2 hc92
              refine ax_aload_n (pc' := 96) dX12_readsStep_95 rfl rfl ?_
              refine ax_iconst (pc' := 97) (v := (2 : Int32)) dX12_readsStep_96 (by decide) rfl ?_
              refine ax_aload_n (pc' := 98) dX12_readsStep_97 rfl rfl ?_
              refine ax_iconst (pc' := 99) (v := (0 : Int32)) dX12_readsStep_98 (by decide) rfl ?_
              refine ax_aload_n (pc' := 100) dX12_readsStep_99 rfl rfl ?_
              refine ax_getR (pc' := 103) dX12_readsStep_100 fl_X12_23 sh_69 rfl rfl rfl ?_
              refine ax_iconst (pc' := 104) (v := (0 : Int32)) dX12_readsStep_103 (by decide) rfl ?_
              refine ax_iald (pc' := 105) dX12_readsStep_104 sh_73 (ac_in (by decide)) rfl rfl ?_
              refine ax_iconst (pc' := 106) (v := (1 : Int32)) dX12_readsStep_105 (by decide) rfl ?_
              refine ax_isub (pc' := 107) dX12_readsStep_106 rfl ?_
              refine ay_V2 (pc' := 110) (ce' := 0) (sl' := 0) (mc2 := 0) (ms2 := 0) (I2 := i_X12_number) dX12_readsStep_107 ml_X12_166 sh_69 (by decide) rfl rfl rfl rfl rfl rfl rfl rfl rfl (ac_M.imp (o_X12_number _ (0 : Int32) (((ac_u s86 (476 + (s42 69 28).toNatClampNeg) (1 : Int32).toNatClampNeg r86) 73 (0 : Int32).toNatClampNeg) - (1 : Int32)) H) ?_)
              rintro _ _ ⟨r107, s107, rfl, rfl, H⟩
              refine ax_iast (pc' := 111) dX12_readsStep_110 (sh_r_476 _ (ac_lt hj53)) (ac_in (by decide)) (sh_n_476 _ (ac_lt hj53)) rfl ?_
              refine ax_iload_n (pc' := 112) dX12_readsStep_111 rfl rfl ?_
              refine ax_iconst (pc' := 113) (v := (4 : Int32)) dX12_readsStep_112 (by decide) rfl ?_
              refine ax_icmp_ne (pc' := 116) (tgt := 142) dX12_readsStep_113 (by decide) rfl (fun hc113 => ?_) (fun hc113 => ?_)
              · have H := H.1 hc113
                refine ax_iload_n (pc' := 143) dX12_readsStep_142 rfl rfl ?_
                refine ax_bipush (pc' := 145) (v := (6 : Int32)) dX12_readsStep_143 (by decide) rfl ?_
                refine ax_icmp_ne (pc' := 148) (tgt := 215) dX12_readsStep_145 (by decide) rfl (fun hc145 => ?_) (fun hc145 => ?_)
                · have H := H.1 hc145
                  refine ax_aload_n (pc' := 216) dX12_readsStep_215 rfl rfl ?_
                  refine ax_iconst (pc' := 217) (v := (3 : Int32)) dX12_readsStep_216 (by decide) rfl ?_
                  refine ax_aload_n (pc' := 218) dX12_readsStep_217 rfl rfl ?_
                  refine ax_getI (pc' := 221) dX12_readsStep_218 fl_X12_260 sh_69 rfl rfl rfl ?_
                  refine ax_iast (pc' := 222) dX12_readsStep_221 (sh_r_476 _ (ac_lt hj53)) (ac_in (by decide)) (sh_n_476 _ (ac_lt hj53)) rfl ?_
                  refine ax_aload_n (pc' := 223) dX12_readsStep_222 rfl rfl ?_
                  refine ax_bipush (pc' := 225) (v := (59 : Int32)) dX12_readsStep_223 (by decide) rfl ?_
                  refine ay_V1 (pc' := 228) (ce' := 0) (sl' := 0) (mc2 := 0) (ms2 := 0) (I2 := i_X12_sign) dX12_readsStep_225 ml_X12_179 sh_69 (by decide) rfl rfl rfl rfl rfl rfl rfl rfl rfl (ac_M.imp (o_X12_sign _ (59 : Int32) H) ?_)
                  rintro _ _ ⟨s225, rfl, rfl, H⟩
                  exact ax_vret dX12_readsStep_228 rfl rfl rfl ⟨_, rfl, rfl, H⟩
                · have H := H.2 hc145
                  refine ax_aload_n (pc' := 149) dX12_readsStep_148 rfl rfl ?_
                  refine ax_iconst (pc' := 150) (v := (1 : Int32)) dX12_readsStep_149 (by decide) rfl ?_
                  refine ax_aload_n (pc' := 151) dX12_readsStep_150 rfl rfl ?_
                  refine ax_iconst (pc' := 152) (v := (0 : Int32)) dX12_readsStep_151 (by decide) rfl ?_
                  refine ax_bipush (pc' := 154) (v := (60 : Int32)) dX12_readsStep_152 (by decide) rfl ?_
                  refine ay_V2 (pc' := 157) (ce' := 0) (sl' := 0) (mc2 := 0) (ms2 := 0) (I2 := i_X12_number) dX12_readsStep_154 ml_X12_166 sh_69 (by decide) rfl rfl rfl rfl rfl rfl rfl rfl rfl (ac_M.imp (o_X12_number _ (0 : Int32) (60 : Int32) H) ?_)
                  rintro _ _ ⟨r154, s154, rfl, rfl, H⟩
                  refine ax_iast (pc' := 158) dX12_readsStep_157 (sh_r_476 _ (ac_lt hj53)) (ac_in (by decide)) (sh_n_476 _ (ac_lt hj53)) rfl ?_
                  refine ax_aload_n (pc' := 159) dX12_readsStep_158 rfl rfl ?_
                  refine ax_bipush (pc' := 161) (v := (91 : Int32)) dX12_readsStep_159 (by decide) rfl ?_
                  refine ay_V1 (pc' := 164) (ce' := 0) (sl' := 0) (mc2 := 0) (ms2 := 0) (I2 := i_X12_sign) dX12_readsStep_161 ml_X12_179 sh_69 (by decide) rfl rfl rfl rfl rfl rfl rfl rfl rfl (ac_M.imp (o_X12_sign _ (91 : Int32) H) ?_)
                  rintro _ _ ⟨s161, rfl, rfl, H⟩
                  refine ax_aload_n (pc' := 165) dX12_readsStep_164 rfl rfl ?_
                  refine ay_V0 (pc' := 168) (ce' := 0) (sl' := 0) (mc2 := 0) (ms2 := 0) (I2 := i_X12_blanks) dX12_readsStep_165 ml_X12_126 sh_69 (by decide) rfl rfl rfl rfl rfl rfl rfl rfl rfl (ac_M.imp (o_X12_blanks _  H) ?_)
                  rintro _ _ ⟨s165, rfl, rfl, H⟩
                  refine ax_drop 1 rfl ?_
                  refine ol_X12_readsStep_168 d  hRr  _ (sh_r_476 _ (ac_lt hj53)) (sh_n_476 _ (ac_lt hj53))  H
              · have H := H.2 hc113
                refine ax_aload_n (pc' := 117) dX12_readsStep_116 rfl rfl ?_
                refine ax_iconst (pc' := 118) (v := (1 : Int32)) dX12_readsStep_117 (by decide) rfl ?_
                refine ax_aload_n (pc' := 119) dX12_readsStep_118 rfl rfl ?_
                refine ax_iconst (pc' := 120) (v := (0 : Int32)) dX12_readsStep_119 (by decide) rfl ?_
                refine ax_aload_n (pc' := 121) dX12_readsStep_120 rfl rfl ?_
                refine ax_getR (pc' := 124) dX12_readsStep_121 fl_X12_23 sh_69 rfl rfl rfl ?_
                refine ax_iconst (pc' := 125) (v := (0 : Int32)) dX12_readsStep_124 (by decide) rfl ?_
                refine ax_iald (pc' := 126) dX12_readsStep_125 sh_73 (ac_in (by decide)) rfl rfl ?_
                refine ax_iconst (pc' := 127) (v := (1 : Int32)) dX12_readsStep_126 (by decide) rfl ?_
                refine ax_isub (pc' := 128) dX12_readsStep_127 rfl ?_
                refine ay_V2 (pc' := 131) (ce' := 0) (sl' := 0) (mc2 := 0) (ms2 := 0) (I2 := i_X12_number) dX12_readsStep_128 ml_X12_166 sh_69 (by decide) rfl rfl rfl rfl rfl rfl rfl rfl rfl (ac_M.imp (o_X12_number _ (0 : Int32) (((ac_u s107 (476 + (s42 69 28).toNatClampNeg) (2 : Int32).toNatClampNeg r107) 73 (0 : Int32).toNatClampNeg) - (1 : Int32)) H) ?_)
                rintro _ _ ⟨r128, s128, rfl, rfl, H⟩
                refine ax_iast (pc' := 132) dX12_readsStep_131 (sh_r_476 _ (ac_lt hj53)) (ac_in (by decide)) (sh_n_476 _ (ac_lt hj53)) rfl ?_
                refine ax_aload_n (pc' := 133) dX12_readsStep_132 rfl rfl ?_
                refine ax_iconst (pc' := 134) (v := (2 : Int32)) dX12_readsStep_133 (by decide) rfl ?_
                refine ax_aload_n (pc' := 135) dX12_readsStep_134 rfl rfl ?_
                refine ax_iconst (pc' := 136) (v := (1 : Int32)) dX12_readsStep_135 (by decide) rfl ?_
                refine ax_bipush (pc' := 138) (v := (60 : Int32)) dX12_readsStep_136 (by decide) rfl ?_
                refine ay_V2 (pc' := 141) (ce' := 0) (sl' := 0) (mc2 := 0) (ms2 := 0) (I2 := i_X12_number) dX12_readsStep_138 ml_X12_166 sh_69 (by decide) rfl rfl rfl rfl rfl rfl rfl rfl rfl (ac_M.imp (o_X12_number _ (1 : Int32) (60 : Int32) H) ?_)
                rintro _ _ ⟨r138, s138, rfl, rfl, H⟩
                refine ax_iast (pc' := 142) dX12_readsStep_141 (sh_r_476 _ (ac_lt hj53)) (ac_in (by decide)) (sh_n_476 _ (ac_lt hj53)) rfl ?_
                refine ax_iload_n (pc' := 143) dX12_readsStep_142 rfl rfl ?_
                refine ax_bipush (pc' := 145) (v := (6 : Int32)) dX12_readsStep_143 (by decide) rfl ?_
                refine ax_icmp_ne (pc' := 148) (tgt := 215) dX12_readsStep_145 (by decide) rfl (fun hc145 => ?_) (fun hc145 => ?_)
                · have H := H.1 hc145
                  refine ax_aload_n (pc' := 216) dX12_readsStep_215 rfl rfl ?_
                  refine ax_iconst (pc' := 217) (v := (3 : Int32)) dX12_readsStep_216 (by decide) rfl ?_
                  refine ax_aload_n (pc' := 218) dX12_readsStep_217 rfl rfl ?_
                  refine ax_getI (pc' := 221) dX12_readsStep_218 fl_X12_260 sh_69 rfl rfl rfl ?_
                  refine ax_iast (pc' := 222) dX12_readsStep_221 (sh_r_476 _ (ac_lt hj53)) (ac_in (by decide)) (sh_n_476 _ (ac_lt hj53)) rfl ?_
                  refine ax_aload_n (pc' := 223) dX12_readsStep_222 rfl rfl ?_
                  refine ax_bipush (pc' := 225) (v := (59 : Int32)) dX12_readsStep_223 (by decide) rfl ?_
                  refine ay_V1 (pc' := 228) (ce' := 0) (sl' := 0) (mc2 := 0) (ms2 := 0) (I2 := i_X12_sign) dX12_readsStep_225 ml_X12_179 sh_69 (by decide) rfl rfl rfl rfl rfl rfl rfl rfl rfl (ac_M.imp (o_X12_sign _ (59 : Int32) H) ?_)
                  rintro _ _ ⟨s225, rfl, rfl, H⟩
                  exact ax_vret dX12_readsStep_228 rfl rfl rfl ⟨_, rfl, rfl, H⟩
                · have H := H.2 hc145
                  refine ax_aload_n (pc' := 149) dX12_readsStep_148 rfl rfl ?_
                  refine ax_iconst (pc' := 150) (v := (1 : Int32)) dX12_readsStep_149 (by decide) rfl ?_
                  refine ax_aload_n (pc' := 151) dX12_readsStep_150 rfl rfl ?_
                  refine ax_iconst (pc' := 152) (v := (0 : Int32)) dX12_readsStep_151 (by decide) rfl ?_
                  refine ax_bipush (pc' := 154) (v := (60 : Int32)) dX12_readsStep_152 (by decide) rfl ?_
                  refine ay_V2 (pc' := 157) (ce' := 0) (sl' := 0) (mc2 := 0) (ms2 := 0) (I2 := i_X12_number) dX12_readsStep_154 ml_X12_166 sh_69 (by decide) rfl rfl rfl rfl rfl rfl rfl rfl rfl (ac_M.imp (o_X12_number _ (0 : Int32) (60 : Int32) H) ?_)
                  rintro _ _ ⟨r154, s154, rfl, rfl, H⟩
                  refine ax_iast (pc' := 158) dX12_readsStep_157 (sh_r_476 _ (ac_lt hj53)) (ac_in (by decide)) (sh_n_476 _ (ac_lt hj53)) rfl ?_
                  refine ax_aload_n (pc' := 159) dX12_readsStep_158 rfl rfl ?_
                  refine ax_bipush (pc' := 161) (v := (91 : Int32)) dX12_readsStep_159 (by decide) rfl ?_
                  refine ay_V1 (pc' := 164) (ce' := 0) (sl' := 0) (mc2 := 0) (ms2 := 0) (I2 := i_X12_sign) dX12_readsStep_161 ml_X12_179 sh_69 (by decide) rfl rfl rfl rfl rfl rfl rfl rfl rfl (ac_M.imp (o_X12_sign _ (91 : Int32) H) ?_)
                  rintro _ _ ⟨s161, rfl, rfl, H⟩
                  refine ax_aload_n (pc' := 165) dX12_readsStep_164 rfl rfl ?_
                  refine ay_V0 (pc' := 168) (ce' := 0) (sl' := 0) (mc2 := 0) (ms2 := 0) (I2 := i_X12_blanks) dX12_readsStep_165 ml_X12_126 sh_69 (by decide) rfl rfl rfl rfl rfl rfl rfl rfl rfl (ac_M.imp (o_X12_blanks _  H) ?_)
                  rintro _ _ ⟨s165, rfl, rfl, H⟩
                  refine ax_drop 1 rfl ?_
                  refine ol_X12_readsStep_168 d  hRr  _ (sh_r_476 _ (ac_lt hj53)) (sh_n_476 _ (ac_lt hj53))  H
        · have H := H.2 hc37
          exact ax_vret dX12_readsStep_40 rfl rfl rfl ⟨_, rfl, rfl, H⟩
      · have H := H.2 hc29
        exact ax_vret dX12_readsStep_32 rfl rfl rfl ⟨_, rfl, rfl, H⟩
  · have H := H.2 hc7
    refine ax_aload_n (pc' := 11) dX12_readsStep_10 rfl rfl ?_
    refine ax_iconst (pc' := 12) (v := (1 : Int32)) dX12_readsStep_11 (by decide) rfl ?_
    refine ax_aload_n (pc' := 13) dX12_readsStep_12 rfl rfl ?_
    refine ax_getI (pc' := 16) dX12_readsStep_13 fl_X12_113 sh_69 rfl rfl rfl ?_
    refine ay_V2 (pc' := 19) (ce' := 0) (sl' := 0) (mc2 := 0) (ms2 := 0) (I2 := i_X12_wrong) dX12_readsStep_16 ml_X12_133 sh_69 (by decide) rfl rfl rfl rfl rfl rfl rfl rfl rfl (ac_M.imp (o_X12_wrong _ (1 : Int32) (s1 69 4) H) ?_)
    rintro _ _ ⟨s16, rfl, rfl, H⟩
    refine ax_iload_n (pc' := 20) dX12_readsStep_19 rfl rfl ?_
    refine ax_bipush (pc' := 22) (v := (6 : Int32)) dX12_readsStep_20 (by decide) rfl ?_
    refine ax_icmp_ne (pc' := 25) (tgt := 33) dX12_readsStep_22 (by decide) rfl (fun hc22 => ?_) (fun hc22 => ?_)
    · have H := H.1 hc22
      refine ax_aload_n (pc' := 34) dX12_readsStep_33 rfl rfl ?_
      refine ax_getI (pc' := 37) dX12_readsStep_34 fl_X12_120 sh_69 rfl rfl rfl ?_
      refine ax_if_eq (pc' := 40) (tgt := 41) dX12_readsStep_37 (by decide) rfl (fun hc37 => ?_) (fun hc37 => ?_)
      · have H := H.1 hc37
        refine ax_aload_n (pc' := 42) dX12_readsStep_41 rfl rfl ?_
        refine ay_V0 (pc' := 45) (ce' := 0) (sl' := 0) (mc2 := 0) (ms2 := 0) (I2 := i_X12_skipWord) dX12_readsStep_42 ml_X12_157 sh_69 (by decide) rfl rfl rfl rfl rfl rfl rfl rfl rfl (ac_M.imp (o_X12_skipWord _  H) ?_)
        rintro _ _ ⟨s42, rfl, rfl, H⟩
        refine ax_aload_n (pc' := 46) dX12_readsStep_45 rfl rfl ?_
        refine ax_getR (pc' := 49) dX12_readsStep_46 fl_X12_64 sh_69 rfl rfl rfl ?_
        refine ax_aload_n (pc' := 50) dX12_readsStep_49 rfl rfl ?_
        refine ax_getI (pc' := 53) dX12_readsStep_50 fl_X12_260 sh_69 rfl rfl rfl ?_
        obtain ⟨hj53, H⟩ := H
        refine ax_aald (pc' := 54) dX12_readsStep_53 sh_475 hj53 rfl rfl ?_
        refine ax_astore_n (pc' := 55) dX12_readsStep_54 rfl rfl rfl ?_
        refine ax_aload_n (pc' := 56) dX12_readsStep_55 rfl rfl ?_
        refine ax_dup (pc' := 57) dX12_readsStep_56 rfl rfl ?_
        refine ax_getI (pc' := 60) dX12_readsStep_57 fl_X12_260 sh_69 rfl rfl rfl ?_
        refine ax_iconst (pc' := 61) (v := (1 : Int32)) dX12_readsStep_60 (by decide) rfl ?_
        refine ax_iadd (pc' := 62) dX12_readsStep_61 rfl ?_
        refine ax_putI (pc' := 65) dX12_readsStep_62 fp_X12_260 sh_69 rfl rfl rfl ?_
        refine ax_aload_n (pc' := 66) dX12_readsStep_65 rfl rfl ?_
        refine ax_iconst (pc' := 67) (v := (0 : Int32)) dX12_readsStep_66 (by decide) rfl ?_
        refine ax_iload_n (pc' := 68) dX12_readsStep_67 rfl rfl ?_
        refine ax_iast (pc' := 69) dX12_readsStep_68 (sh_r_476 _ (ac_lt hj53)) (ac_in (by decide)) (sh_n_476 _ (ac_lt hj53)) rfl ?_
        refine ax_iload_n (pc' := 70) dX12_readsStep_69 rfl rfl ?_
        refine ax_iconst (pc' := 71) (v := (4 : Int32)) dX12_readsStep_70 (by decide) rfl ?_
        refine ax_icmp_ge (pc' := 74) (tgt := 90) dX12_readsStep_71 (by decide) rfl (fun hc71 => ?_) (fun hc71 => ?_)
        · have H := H.1 hc71
          refine ax_iload_n (pc' := 91) dX12_readsStep_90 rfl rfl ?_
          refine ax_iconst (pc' := 92) (v := (1 : Int32)) dX12_readsStep_91 (by decide) rfl ?_
          refine ax_icmp_ne (pc' := 95) (tgt := 111) dX12_readsStep_92 (by decide) rfl (fun hc92 => ?_) (fun hc92 => ?_)
          · have H := H.1 hc92
            refine ax_iload_n (pc' := 112) dX12_readsStep_111 rfl rfl ?_
            refine ax_iconst (pc' := 113) (v := (4 : Int32)) dX12_readsStep_112 (by decide) rfl ?_
            refine ax_icmp_ne (pc' := 116) (tgt := 142) dX12_readsStep_113 (by decide) rfl (fun hc113 => ?_) (fun hc113 => ?_)
            · have H := H.1 hc113
              refine ax_iload_n (pc' := 143) dX12_readsStep_142 rfl rfl ?_
              refine ax_bipush (pc' := 145) (v := (6 : Int32)) dX12_readsStep_143 (by decide) rfl ?_
              refine ax_icmp_ne (pc' := 148) (tgt := 215) dX12_readsStep_145 (by decide) rfl (fun hc145 => ?_) (fun hc145 => ?_)
              · have H := H.1 hc145
                refine ax_aload_n (pc' := 216) dX12_readsStep_215 rfl rfl ?_
                refine ax_iconst (pc' := 217) (v := (3 : Int32)) dX12_readsStep_216 (by decide) rfl ?_
                refine ax_aload_n (pc' := 218) dX12_readsStep_217 rfl rfl ?_
                refine ax_getI (pc' := 221) dX12_readsStep_218 fl_X12_260 sh_69 rfl rfl rfl ?_
                refine ax_iast (pc' := 222) dX12_readsStep_221 (sh_r_476 _ (ac_lt hj53)) (ac_in (by decide)) (sh_n_476 _ (ac_lt hj53)) rfl ?_
                refine ax_aload_n (pc' := 223) dX12_readsStep_222 rfl rfl ?_
                refine ax_bipush (pc' := 225) (v := (59 : Int32)) dX12_readsStep_223 (by decide) rfl ?_
                refine ay_V1 (pc' := 228) (ce' := 0) (sl' := 0) (mc2 := 0) (ms2 := 0) (I2 := i_X12_sign) dX12_readsStep_225 ml_X12_179 sh_69 (by decide) rfl rfl rfl rfl rfl rfl rfl rfl rfl (ac_M.imp (o_X12_sign _ (59 : Int32) H) ?_)
                rintro _ _ ⟨s225, rfl, rfl, H⟩
                exact ax_vret dX12_readsStep_228 rfl rfl rfl ⟨_, rfl, rfl, H⟩
              · have H := H.2 hc145
                refine ax_aload_n (pc' := 149) dX12_readsStep_148 rfl rfl ?_
                refine ax_iconst (pc' := 150) (v := (1 : Int32)) dX12_readsStep_149 (by decide) rfl ?_
                refine ax_aload_n (pc' := 151) dX12_readsStep_150 rfl rfl ?_
                refine ax_iconst (pc' := 152) (v := (0 : Int32)) dX12_readsStep_151 (by decide) rfl ?_
                refine ax_bipush (pc' := 154) (v := (60 : Int32)) dX12_readsStep_152 (by decide) rfl ?_
                refine ay_V2 (pc' := 157) (ce' := 0) (sl' := 0) (mc2 := 0) (ms2 := 0) (I2 := i_X12_number) dX12_readsStep_154 ml_X12_166 sh_69 (by decide) rfl rfl rfl rfl rfl rfl rfl rfl rfl (ac_M.imp (o_X12_number _ (0 : Int32) (60 : Int32) H) ?_)
                rintro _ _ ⟨r154, s154, rfl, rfl, H⟩
                refine ax_iast (pc' := 158) dX12_readsStep_157 (sh_r_476 _ (ac_lt hj53)) (ac_in (by decide)) (sh_n_476 _ (ac_lt hj53)) rfl ?_
                refine ax_aload_n (pc' := 159) dX12_readsStep_158 rfl rfl ?_
                refine ax_bipush (pc' := 161) (v := (91 : Int32)) dX12_readsStep_159 (by decide) rfl ?_
                refine ay_V1 (pc' := 164) (ce' := 0) (sl' := 0) (mc2 := 0) (ms2 := 0) (I2 := i_X12_sign) dX12_readsStep_161 ml_X12_179 sh_69 (by decide) rfl rfl rfl rfl rfl rfl rfl rfl rfl (ac_M.imp (o_X12_sign _ (91 : Int32) H) ?_)
                rintro _ _ ⟨s161, rfl, rfl, H⟩
                refine ax_aload_n (pc' := 165) dX12_readsStep_164 rfl rfl ?_
                refine ay_V0 (pc' := 168) (ce' := 0) (sl' := 0) (mc2 := 0) (ms2 := 0) (I2 := i_X12_blanks) dX12_readsStep_165 ml_X12_126 sh_69 (by decide) rfl rfl rfl rfl rfl rfl rfl rfl rfl (ac_M.imp (o_X12_blanks _  H) ?_)
                rintro _ _ ⟨s165, rfl, rfl, H⟩
                refine ax_drop 1 rfl ?_
                refine ol_X12_readsStep_168 d  hRr  _ (sh_r_476 _ (ac_lt hj53)) (sh_n_476 _ (ac_lt hj53))  H
            · have H := H.2 hc113
              refine ax_aload_n (pc' := 117) dX12_readsStep_116 rfl rfl ?_
              refine ax_iconst (pc' := 118) (v := (1 : Int32)) dX12_readsStep_117 (by decide) rfl ?_
              refine ax_aload_n (pc' := 119) dX12_readsStep_118 rfl rfl ?_
              refine ax_iconst (pc' := 120) (v := (0 : Int32)) dX12_readsStep_119 (by decide) rfl ?_
              refine ax_aload_n (pc' := 121) dX12_readsStep_120 rfl rfl ?_
              refine ax_getR (pc' := 124) dX12_readsStep_121 fl_X12_23 sh_69 rfl rfl rfl ?_
              refine ax_iconst (pc' := 125) (v := (0 : Int32)) dX12_readsStep_124 (by decide) rfl ?_
              refine ax_iald (pc' := 126) dX12_readsStep_125 sh_73 (ac_in (by decide)) rfl rfl ?_
              refine ax_iconst (pc' := 127) (v := (1 : Int32)) dX12_readsStep_126 (by decide) rfl ?_
              refine ax_isub (pc' := 128) dX12_readsStep_127 rfl ?_
              refine ay_V2 (pc' := 131) (ce' := 0) (sl' := 0) (mc2 := 0) (ms2 := 0) (I2 := i_X12_number) dX12_readsStep_128 ml_X12_166 sh_69 (by decide) rfl rfl rfl rfl rfl rfl rfl rfl rfl (ac_M.imp (o_X12_number _ (0 : Int32) (((ac_u (ac_u s42 69 28 ((s42 69 28) + (1 : Int32))) (476 + (s42 69 28).toNatClampNeg) (0 : Int32).toNatClampNeg r1) 73 (0 : Int32).toNatClampNeg) - (1 : Int32)) H) ?_)
              rintro _ _ ⟨r128, s128, rfl, rfl, H⟩
              refine ax_iast (pc' := 132) dX12_readsStep_131 (sh_r_476 _ (ac_lt hj53)) (ac_in (by decide)) (sh_n_476 _ (ac_lt hj53)) rfl ?_
              refine ax_aload_n (pc' := 133) dX12_readsStep_132 rfl rfl ?_
              refine ax_iconst (pc' := 134) (v := (2 : Int32)) dX12_readsStep_133 (by decide) rfl ?_
              refine ax_aload_n (pc' := 135) dX12_readsStep_134 rfl rfl ?_
              refine ax_iconst (pc' := 136) (v := (1 : Int32)) dX12_readsStep_135 (by decide) rfl ?_
              refine ax_bipush (pc' := 138) (v := (60 : Int32)) dX12_readsStep_136 (by decide) rfl ?_
              refine ay_V2 (pc' := 141) (ce' := 0) (sl' := 0) (mc2 := 0) (ms2 := 0) (I2 := i_X12_number) dX12_readsStep_138 ml_X12_166 sh_69 (by decide) rfl rfl rfl rfl rfl rfl rfl rfl rfl (ac_M.imp (o_X12_number _ (1 : Int32) (60 : Int32) H) ?_)
              rintro _ _ ⟨r138, s138, rfl, rfl, H⟩
              refine ax_iast (pc' := 142) dX12_readsStep_141 (sh_r_476 _ (ac_lt hj53)) (ac_in (by decide)) (sh_n_476 _ (ac_lt hj53)) rfl ?_
              refine ax_iload_n (pc' := 143) dX12_readsStep_142 rfl rfl ?_
              refine ax_bipush (pc' := 145) (v := (6 : Int32)) dX12_readsStep_143 (by decide) rfl ?_
              refine ax_icmp_ne (pc' := 148) (tgt := 215) dX12_readsStep_145 (by decide) rfl (fun hc145 => ?_) (fun hc145 => ?_)
              · have H := H.1 hc145
                refine ax_aload_n (pc' := 216) dX12_readsStep_215 rfl rfl ?_
                refine ax_iconst (pc' := 217) (v := (3 : Int32)) dX12_readsStep_216 (by decide) rfl ?_
                refine ax_aload_n (pc' := 218) dX12_readsStep_217 rfl rfl ?_
                refine ax_getI (pc' := 221) dX12_readsStep_218 fl_X12_260 sh_69 rfl rfl rfl ?_
                refine ax_iast (pc' := 222) dX12_readsStep_221 (sh_r_476 _ (ac_lt hj53)) (ac_in (by decide)) (sh_n_476 _ (ac_lt hj53)) rfl ?_
                refine ax_aload_n (pc' := 223) dX12_readsStep_222 rfl rfl ?_
                refine ax_bipush (pc' := 225) (v := (59 : Int32)) dX12_readsStep_223 (by decide) rfl ?_
                refine ay_V1 (pc' := 228) (ce' := 0) (sl' := 0) (mc2 := 0) (ms2 := 0) (I2 := i_X12_sign) dX12_readsStep_225 ml_X12_179 sh_69 (by decide) rfl rfl rfl rfl rfl rfl rfl rfl rfl (ac_M.imp (o_X12_sign _ (59 : Int32) H) ?_)
                rintro _ _ ⟨s225, rfl, rfl, H⟩
                exact ax_vret dX12_readsStep_228 rfl rfl rfl ⟨_, rfl, rfl, H⟩
              · have H := H.2 hc145
                refine ax_aload_n (pc' := 149) dX12_readsStep_148 rfl rfl ?_
                refine ax_iconst (pc' := 150) (v := (1 : Int32)) dX12_readsStep_149 (by decide) rfl ?_
                refine ax_aload_n (pc' := 151) dX12_readsStep_150 rfl rfl ?_
                refine ax_iconst (pc' := 152) (v := (0 : Int32)) dX12_readsStep_151 (by decide) rfl ?_
                refine ax_bipush (pc' := 154) (v := (60 : Int32)) dX12_readsStep_152 (by decide) rfl ?_
                refine ay_V2 (pc' := 157) (ce' := 0) (sl' := 0) (mc2 := 0) (ms2 := 0) (I2 := i_X12_number) dX12_readsStep_154 ml_X12_166 sh_69 (by decide) rfl rfl rfl rfl rfl rfl rfl rfl rfl (ac_M.imp (o_X12_number _ (0 : Int32) (60 : Int32) H) ?_)
                rintro _ _ ⟨r154, s154, rfl, rfl, H⟩
                refine ax_iast (pc' := 158) dX12_readsStep_157 (sh_r_476 _ (ac_lt hj53)) (ac_in (by decide)) (sh_n_476 _ (ac_lt hj53)) rfl ?_
                refine ax_aload_n (pc' := 159) dX12_readsStep_158 rfl rfl ?_
                refine ax_bipush (pc' := 161) (v := (91 : Int32)) dX12_readsStep_159 (by decide) rfl ?_
                refine ay_V1 (pc' := 164) (ce' := 0) (sl' := 0) (mc2 := 0) (ms2 := 0) (I2 := i_X12_sign) dX12_readsStep_161 ml_X12_179 sh_69 (by decide) rfl rfl rfl rfl rfl rfl rfl rfl rfl (ac_M.imp (o_X12_sign _ (91 : Int32) H) ?_)
                rintro _ _ ⟨s161, rfl, rfl, H⟩
                refine ax_aload_n (pc' := 165) dX12_readsStep_164 rfl rfl ?_
                refine ay_V0 (pc' := 168) (ce' := 0) (sl' := 0) (mc2 := 0) (ms2 := 0) (I2 := i_X12_blanks) dX12_readsStep_165 ml_X12_126 sh_69 (by decide) rfl rfl rfl rfl rfl rfl rfl rfl rfl (ac_M.imp (o_X12_blanks _  H) ?_)
                rintro _ _ ⟨s165, rfl, rfl, H⟩
                refine ax_drop 1 rfl ?_
                refine ol_X12_readsStep_168 d  hRr  _ (sh_r_476 _ (ac_lt hj53)) (sh_n_476 _ (ac_lt hj53))  H
          · have H := H.2 hc92
            refine ax_aload_n (pc' := 96) dX12_readsStep_95 rfl rfl ?_
            refine ax_iconst (pc' := 97) (v := (2 : Int32)) dX12_readsStep_96 (by decide) rfl ?_
            refine ax_aload_n (pc' := 98) dX12_readsStep_97 rfl rfl ?_
            refine ax_iconst (pc' := 99) (v := (0 : Int32)) dX12_readsStep_98 (by decide) rfl ?_
            refine ax_aload_n (pc' := 100) dX12_readsStep_99 rfl rfl ?_
            refine ax_getR (pc' := 103) dX12_readsStep_100 fl_X12_23 sh_69 rfl rfl rfl ?_
            refine ax_iconst (pc' := 104) (v := (0 : Int32)) dX12_readsStep_103 (by decide) rfl ?_
            refine ax_iald (pc' := 105) dX12_readsStep_104 sh_73 (ac_in (by decide)) rfl rfl ?_
            refine ax_iconst (pc' := 106) (v := (1 : Int32)) dX12_readsStep_105 (by decide) rfl ?_
            refine ax_isub (pc' := 107) dX12_readsStep_106 rfl ?_
            refine ay_V2 (pc' := 110) (ce' := 0) (sl' := 0) (mc2 := 0) (ms2 := 0) (I2 := i_X12_number) dX12_readsStep_107 ml_X12_166 sh_69 (by decide) rfl rfl rfl rfl rfl rfl rfl rfl rfl (ac_M.imp (o_X12_number _ (0 : Int32) (((ac_u (ac_u s42 69 28 ((s42 69 28) + (1 : Int32))) (476 + (s42 69 28).toNatClampNeg) (0 : Int32).toNatClampNeg r1) 73 (0 : Int32).toNatClampNeg) - (1 : Int32)) H) ?_)
            rintro _ _ ⟨r107, s107, rfl, rfl, H⟩
            refine ax_iast (pc' := 111) dX12_readsStep_110 (sh_r_476 _ (ac_lt hj53)) (ac_in (by decide)) (sh_n_476 _ (ac_lt hj53)) rfl ?_
            refine ax_iload_n (pc' := 112) dX12_readsStep_111 rfl rfl ?_
            refine ax_iconst (pc' := 113) (v := (4 : Int32)) dX12_readsStep_112 (by decide) rfl ?_
            refine ax_icmp_ne (pc' := 116) (tgt := 142) dX12_readsStep_113 (by decide) rfl (fun hc113 => ?_) (fun hc113 => ?_)
            · have H := H.1 hc113
              refine ax_iload_n (pc' := 143) dX12_readsStep_142 rfl rfl ?_
              refine ax_bipush (pc' := 145) (v := (6 : Int32)) dX12_readsStep_143 (by decide) rfl ?_
              refine ax_icmp_ne (pc' := 148) (tgt := 215) dX12_readsStep_145 (by decide) rfl (fun hc145 => ?_) (fun hc145 => ?_)
              · have H := H.1 hc145
                refine ax_aload_n (pc' := 216) dX12_readsStep_215 rfl rfl ?_
                refine ax_iconst (pc' := 217) (v := (3 : Int32)) dX12_readsStep_216 (by decide) rfl ?_
                refine ax_aload_n (pc' := 218) dX12_readsStep_217 rfl rfl ?_
                refine ax_getI (pc' := 221) dX12_readsStep_218 fl_X12_260 sh_69 rfl rfl rfl ?_
                refine ax_iast (pc' := 222) dX12_readsStep_221 (sh_r_476 _ (ac_lt hj53)) (ac_in (by decide)) (sh_n_476 _ (ac_lt hj53)) rfl ?_
                refine ax_aload_n (pc' := 223) dX12_readsStep_222 rfl rfl ?_
                refine ax_bipush (pc' := 225) (v := (59 : Int32)) dX12_readsStep_223 (by decide) rfl ?_
                refine ay_V1 (pc' := 228) (ce' := 0) (sl' := 0) (mc2 := 0) (ms2 := 0) (I2 := i_X12_sign) dX12_readsStep_225 ml_X12_179 sh_69 (by decide) rfl rfl rfl rfl rfl rfl rfl rfl rfl (ac_M.imp (o_X12_sign _ (59 : Int32) H) ?_)
                rintro _ _ ⟨s225, rfl, rfl, H⟩
                exact ax_vret dX12_readsStep_228 rfl rfl rfl ⟨_, rfl, rfl, H⟩
              · have H := H.2 hc145
                refine ax_aload_n (pc' := 149) dX12_readsStep_148 rfl rfl ?_
                refine ax_iconst (pc' := 150) (v := (1 : Int32)) dX12_readsStep_149 (by decide) rfl ?_
                refine ax_aload_n (pc' := 151) dX12_readsStep_150 rfl rfl ?_
                refine ax_iconst (pc' := 152) (v := (0 : Int32)) dX12_readsStep_151 (by decide) rfl ?_
                refine ax_bipush (pc' := 154) (v := (60 : Int32)) dX12_readsStep_152 (by decide) rfl ?_
                refine ay_V2 (pc' := 157) (ce' := 0) (sl' := 0) (mc2 := 0) (ms2 := 0) (I2 := i_X12_number) dX12_readsStep_154 ml_X12_166 sh_69 (by decide) rfl rfl rfl rfl rfl rfl rfl rfl rfl (ac_M.imp (o_X12_number _ (0 : Int32) (60 : Int32) H) ?_)
                rintro _ _ ⟨r154, s154, rfl, rfl, H⟩
                refine ax_iast (pc' := 158) dX12_readsStep_157 (sh_r_476 _ (ac_lt hj53)) (ac_in (by decide)) (sh_n_476 _ (ac_lt hj53)) rfl ?_
                refine ax_aload_n (pc' := 159) dX12_readsStep_158 rfl rfl ?_
                refine ax_bipush (pc' := 161) (v := (91 : Int32)) dX12_readsStep_159 (by decide) rfl ?_
                refine ay_V1 (pc' := 164) (ce' := 0) (sl' := 0) (mc2 := 0) (ms2 := 0) (I2 := i_X12_sign) dX12_readsStep_161 ml_X12_179 sh_69 (by decide) rfl rfl rfl rfl rfl rfl rfl rfl rfl (ac_M.imp (o_X12_sign _ (91 : Int32) H) ?_)
                rintro _ _ ⟨s161, rfl, rfl, H⟩
                refine ax_aload_n (pc' := 165) dX12_readsStep_164 rfl rfl ?_
                refine ay_V0 (pc' := 168) (ce' := 0) (sl' := 0) (mc2 := 0) (ms2 := 0) (I2 := i_X12_blanks) dX12_readsStep_165 ml_X12_126 sh_69 (by decide) rfl rfl rfl rfl rfl rfl rfl rfl rfl (ac_M.imp (o_X12_blanks _  H) ?_)
                rintro _ _ ⟨s165, rfl, rfl, H⟩
                refine ax_drop 1 rfl ?_
                refine ol_X12_readsStep_168 d  hRr  _ (sh_r_476 _ (ac_lt hj53)) (sh_n_476 _ (ac_lt hj53))  H
            · have H := H.2 hc113
              refine ax_aload_n (pc' := 117) dX12_readsStep_116 rfl rfl ?_
              refine ax_iconst (pc' := 118) (v := (1 : Int32)) dX12_readsStep_117 (by decide) rfl ?_
              refine ax_aload_n (pc' := 119) dX12_readsStep_118 rfl rfl ?_
              refine ax_iconst (pc' := 120) (v := (0 : Int32)) dX12_readsStep_119 (by decide) rfl ?_
              refine ax_aload_n (pc' := 121) dX12_readsStep_120 rfl rfl ?_
              refine ax_getR (pc' := 124) dX12_readsStep_121 fl_X12_23 sh_69 rfl rfl rfl ?_
              refine ax_iconst (pc' := 125) (v := (0 : Int32)) dX12_readsStep_124 (by decide) rfl ?_
              refine ax_iald (pc' := 126) dX12_readsStep_125 sh_73 (ac_in (by decide)) rfl rfl ?_
              refine ax_iconst (pc' := 127) (v := (1 : Int32)) dX12_readsStep_126 (by decide) rfl ?_
              refine ax_isub (pc' := 128) dX12_readsStep_127 rfl ?_
              refine ay_V2 (pc' := 131) (ce' := 0) (sl' := 0) (mc2 := 0) (ms2 := 0) (I2 := i_X12_number) dX12_readsStep_128 ml_X12_166 sh_69 (by decide) rfl rfl rfl rfl rfl rfl rfl rfl rfl (ac_M.imp (o_X12_number _ (0 : Int32) (((ac_u s107 (476 + (s42 69 28).toNatClampNeg) (2 : Int32).toNatClampNeg r107) 73 (0 : Int32).toNatClampNeg) - (1 : Int32)) H) ?_)
              rintro _ _ ⟨r128, s128, rfl, rfl, H⟩
              refine ax_iast (pc' := 132) dX12_readsStep_131 (sh_r_476 _ (ac_lt hj53)) (ac_in (by decide)) (sh_n_476 _ (ac_lt hj53)) rfl ?_
              refine ax_aload_n (pc' := 133) dX12_readsStep_132 rfl rfl ?_
              refine ax_iconst (pc' := 134) (v := (2 : Int32)) dX12_readsStep_133 (by decide) rfl ?_
              refine ax_aload_n (pc' := 135) dX12_readsStep_134 rfl rfl ?_
              refine ax_iconst (pc' := 136) (v := (1 : Int32)) dX12_readsStep_135 (by decide) rfl ?_
              refine ax_bipush (pc' := 138) (v := (60 : Int32)) dX12_readsStep_136 (by decide) rfl ?_
              refine ay_V2 (pc' := 141) (ce' := 0) (sl' := 0) (mc2 := 0) (ms2 := 0) (I2 := i_X12_number) dX12_readsStep_138 ml_X12_166 sh_69 (by decide) rfl rfl rfl rfl rfl rfl rfl rfl rfl (ac_M.imp (o_X12_number _ (1 : Int32) (60 : Int32) H) ?_)
              rintro _ _ ⟨r138, s138, rfl, rfl, H⟩
              refine ax_iast (pc' := 142) dX12_readsStep_141 (sh_r_476 _ (ac_lt hj53)) (ac_in (by decide)) (sh_n_476 _ (ac_lt hj53)) rfl ?_
              refine ax_iload_n (pc' := 143) dX12_readsStep_142 rfl rfl ?_
              refine ax_bipush (pc' := 145) (v := (6 : Int32)) dX12_readsStep_143 (by decide) rfl ?_
              refine ax_icmp_ne (pc' := 148) (tgt := 215) dX12_readsStep_145 (by decide) rfl (fun hc145 => ?_) (fun hc145 => ?_)
              · have H := H.1 hc145
                refine ax_aload_n (pc' := 216) dX12_readsStep_215 rfl rfl ?_
                refine ax_iconst (pc' := 217) (v := (3 : Int32)) dX12_readsStep_216 (by decide) rfl ?_
                refine ax_aload_n (pc' := 218) dX12_readsStep_217 rfl rfl ?_
                refine ax_getI (pc' := 221) dX12_readsStep_218 fl_X12_260 sh_69 rfl rfl rfl ?_
                refine ax_iast (pc' := 222) dX12_readsStep_221 (sh_r_476 _ (ac_lt hj53)) (ac_in (by decide)) (sh_n_476 _ (ac_lt hj53)) rfl ?_
                refine ax_aload_n (pc' := 223) dX12_readsStep_222 rfl rfl ?_
                refine ax_bipush (pc' := 225) (v := (59 : Int32)) dX12_readsStep_223 (by decide) rfl ?_
                refine ay_V1 (pc' := 228) (ce' := 0) (sl' := 0) (mc2 := 0) (ms2 := 0) (I2 := i_X12_sign) dX12_readsStep_225 ml_X12_179 sh_69 (by decide) rfl rfl rfl rfl rfl rfl rfl rfl rfl (ac_M.imp (o_X12_sign _ (59 : Int32) H) ?_)
                rintro _ _ ⟨s225, rfl, rfl, H⟩
                exact ax_vret dX12_readsStep_228 rfl rfl rfl ⟨_, rfl, rfl, H⟩
              · have H := H.2 hc145
                refine ax_aload_n (pc' := 149) dX12_readsStep_148 rfl rfl ?_
                refine ax_iconst (pc' := 150) (v := (1 : Int32)) dX12_readsStep_149 (by decide) rfl ?_
                refine ax_aload_n (pc' := 151) dX12_readsStep_150 rfl rfl ?_
                refine ax_iconst (pc' := 152) (v := (0 : Int32)) dX12_readsStep_151 (by decide) rfl ?_
                refine ax_bipush (pc' := 154) (v := (60 : Int32)) dX12_readsStep_152 (by decide) rfl ?_
                refine ay_V2 (pc' := 157) (ce' := 0) (sl' := 0) (mc2 := 0) (ms2 := 0) (I2 := i_X12_number) dX12_readsStep_154 ml_X12_166 sh_69 (by decide) rfl rfl rfl rfl rfl rfl rfl rfl rfl (ac_M.imp (o_X12_number _ (0 : Int32) (60 : Int32) H) ?_)
                rintro _ _ ⟨r154, s154, rfl, rfl, H⟩
                refine ax_iast (pc' := 158) dX12_readsStep_157 (sh_r_476 _ (ac_lt hj53)) (ac_in (by decide)) (sh_n_476 _ (ac_lt hj53)) rfl ?_
                refine ax_aload_n (pc' := 159) dX12_readsStep_158 rfl rfl ?_
                refine ax_bipush (pc' := 161) (v := (91 : Int32)) dX12_readsStep_159 (by decide) rfl ?_
                refine ay_V1 (pc' := 164) (ce' := 0) (sl' := 0) (mc2 := 0) (ms2 := 0) (I2 := i_X12_sign) dX12_readsStep_161 ml_X12_179 sh_69 (by decide) rfl rfl rfl rfl rfl rfl rfl rfl rfl (ac_M.imp (o_X12_sign _ (91 : Int32) H) ?_)
                rintro _ _ ⟨s161, rfl, rfl, H⟩
                refine ax_aload_n (pc' := 165) dX12_readsStep_164 rfl rfl ?_
                refine ay_V0 (pc' := 168) (ce' := 0) (sl' := 0) (mc2 := 0) (ms2 := 0) (I2 := i_X12_blanks) dX12_readsStep_165 ml_X12_126 sh_69 (by decide) rfl rfl rfl rfl rfl rfl rfl rfl rfl (ac_M.imp (o_X12_blanks _  H) ?_)
                rintro _ _ ⟨s165, rfl, rfl, H⟩
                refine ax_drop 1 rfl ?_
                refine ol_X12_readsStep_168 d  hRr  _ (sh_r_476 _ (ac_lt hj53)) (sh_n_476 _ (ac_lt hj53))  H
        · have H := H.2 hc71
          refine ax_aload_n (pc' := 75) dX12_readsStep_74 rfl rfl ?_
          refine ax_iconst (pc' := 76) (v := (1 : Int32)) dX12_readsStep_75 (by decide) rfl ?_
          refine ax_aload_n (pc' := 77) dX12_readsStep_76 rfl rfl ?_
          refine ax_iconst (pc' := 78) (v := (0 : Int32)) dX12_readsStep_77 (by decide) rfl ?_
          refine ax_aload_n (pc' := 79) dX12_readsStep_78 rfl rfl ?_
          refine ax_getR (pc' := 82) dX12_readsStep_79 fl_X12_23 sh_69 rfl rfl rfl ?_
          refine ax_iconst (pc' := 83) (v := (1 : Int32)) dX12_readsStep_82 (by decide) rfl ?_
          refine ax_iald (pc' := 84) dX12_readsStep_83 sh_73 (ac_in (by decide)) rfl rfl ?_
          refine ax_iconst (pc' := 85) (v := (1 : Int32)) dX12_readsStep_84 (by decide) rfl ?_
          refine ax_isub (pc' := 86) dX12_readsStep_85 rfl ?_
          refine ay_V2 (pc' := 89) (ce' := 0) (sl' := 0) (mc2 := 0) (ms2 := 0) (I2 := i_X12_number) dX12_readsStep_86 ml_X12_166 sh_69 (by decide) rfl rfl rfl rfl rfl rfl rfl rfl rfl (ac_M.imp (o_X12_number _ (0 : Int32) (((ac_u (ac_u s42 69 28 ((s42 69 28) + (1 : Int32))) (476 + (s42 69 28).toNatClampNeg) (0 : Int32).toNatClampNeg r1) 73 (1 : Int32).toNatClampNeg) - (1 : Int32)) H) ?_)
          rintro _ _ ⟨r86, s86, rfl, rfl, H⟩
          refine ax_iast (pc' := 90) dX12_readsStep_89 (sh_r_476 _ (ac_lt hj53)) (ac_in (by decide)) (sh_n_476 _ (ac_lt hj53)) rfl ?_
          refine ax_iload_n (pc' := 91) dX12_readsStep_90 rfl rfl ?_
          refine ax_iconst (pc' := 92) (v := (1 : Int32)) dX12_readsStep_91 (by decide) rfl ?_
          refine ax_icmp_ne (pc' := 95) (tgt := 111) dX12_readsStep_92 (by decide) rfl (fun hc92 => ?_) (fun hc92 => ?_)
          · have H := H.1 hc92
            refine ax_iload_n (pc' := 112) dX12_readsStep_111 rfl rfl ?_
            refine ax_iconst (pc' := 113) (v := (4 : Int32)) dX12_readsStep_112 (by decide) rfl ?_
            refine ax_icmp_ne (pc' := 116) (tgt := 142) dX12_readsStep_113 (by decide) rfl (fun hc113 => ?_) (fun hc113 => ?_)
            · have H := H.1 hc113
              refine ax_iload_n (pc' := 143) dX12_readsStep_142 rfl rfl ?_
              refine ax_bipush (pc' := 145) (v := (6 : Int32)) dX12_readsStep_143 (by decide) rfl ?_
              refine ax_icmp_ne (pc' := 148) (tgt := 215) dX12_readsStep_145 (by decide) rfl (fun hc145 => ?_) (fun hc145 => ?_)
              · have H := H.1 hc145
                refine ax_aload_n (pc' := 216) dX12_readsStep_215 rfl rfl ?_
                refine ax_iconst (pc' := 217) (v := (3 : Int32)) dX12_readsStep_216 (by decide) rfl ?_
                refine ax_aload_n (pc' := 218) dX12_readsStep_217 rfl rfl ?_
                refine ax_getI (pc' := 221) dX12_readsStep_218 fl_X12_260 sh_69 rfl rfl rfl ?_
                refine ax_iast (pc' := 222) dX12_readsStep_221 (sh_r_476 _ (ac_lt hj53)) (ac_in (by decide)) (sh_n_476 _ (ac_lt hj53)) rfl ?_
                refine ax_aload_n (pc' := 223) dX12_readsStep_222 rfl rfl ?_
                refine ax_bipush (pc' := 225) (v := (59 : Int32)) dX12_readsStep_223 (by decide) rfl ?_
                refine ay_V1 (pc' := 228) (ce' := 0) (sl' := 0) (mc2 := 0) (ms2 := 0) (I2 := i_X12_sign) dX12_readsStep_225 ml_X12_179 sh_69 (by decide) rfl rfl rfl rfl rfl rfl rfl rfl rfl (ac_M.imp (o_X12_sign _ (59 : Int32) H) ?_)
                rintro _ _ ⟨s225, rfl, rfl, H⟩
                exact ax_vret dX12_readsStep_228 rfl rfl rfl ⟨_, rfl, rfl, H⟩
              · have H := H.2 hc145
                refine ax_aload_n (pc' := 149) dX12_readsStep_148 rfl rfl ?_
                refine ax_iconst (pc' := 150) (v := (1 : Int32)) dX12_readsStep_149 (by decide) rfl ?_
                refine ax_aload_n (pc' := 151) dX12_readsStep_150 rfl rfl ?_
                refine ax_iconst (pc' := 152) (v := (0 : Int32)) dX12_readsStep_151 (by decide) rfl ?_
                refine ax_bipush (pc' := 154) (v := (60 : Int32)) dX12_readsStep_152 (by decide) rfl ?_
                refine ay_V2 (pc' := 157) (ce' := 0) (sl' := 0) (mc2 := 0) (ms2 := 0) (I2 := i_X12_number) dX12_readsStep_154 ml_X12_166 sh_69 (by decide) rfl rfl rfl rfl rfl rfl rfl rfl rfl (ac_M.imp (o_X12_number _ (0 : Int32) (60 : Int32) H) ?_)
                rintro _ _ ⟨r154, s154, rfl, rfl, H⟩
                refine ax_iast (pc' := 158) dX12_readsStep_157 (sh_r_476 _ (ac_lt hj53)) (ac_in (by decide)) (sh_n_476 _ (ac_lt hj53)) rfl ?_
                refine ax_aload_n (pc' := 159) dX12_readsStep_158 rfl rfl ?_
                refine ax_bipush (pc' := 161) (v := (91 : Int32)) dX12_readsStep_159 (by decide) rfl ?_
                refine ay_V1 (pc' := 164) (ce' := 0) (sl' := 0) (mc2 := 0) (ms2 := 0) (I2 := i_X12_sign) dX12_readsStep_161 ml_X12_179 sh_69 (by decide) rfl rfl rfl rfl rfl rfl rfl rfl rfl (ac_M.imp (o_X12_sign _ (91 : Int32) H) ?_)
                rintro _ _ ⟨s161, rfl, rfl, H⟩
                refine ax_aload_n (pc' := 165) dX12_readsStep_164 rfl rfl ?_
                refine ay_V0 (pc' := 168) (ce' := 0) (sl' := 0) (mc2 := 0) (ms2 := 0) (I2 := i_X12_blanks) dX12_readsStep_165 ml_X12_126 sh_69 (by decide) rfl rfl rfl rfl rfl rfl rfl rfl rfl (ac_M.imp (o_X12_blanks _  H) ?_)
                rintro _ _ ⟨s165, rfl, rfl, H⟩
                refine ax_drop 1 rfl ?_
                refine ol_X12_readsStep_168 d  hRr  _ (sh_r_476 _ (ac_lt hj53)) (sh_n_476 _ (ac_lt hj53))  H
            · have H := H.2 hc113
              refine ax_aload_n (pc' := 117) dX12_readsStep_116 rfl rfl ?_
              refine ax_iconst (pc' := 118) (v := (1 : Int32)) dX12_readsStep_117 (by decide) rfl ?_
              refine ax_aload_n (pc' := 119) dX12_readsStep_118 rfl rfl ?_
              refine ax_iconst (pc' := 120) (v := (0 : Int32)) dX12_readsStep_119 (by decide) rfl ?_
              refine ax_aload_n (pc' := 121) dX12_readsStep_120 rfl rfl ?_
              refine ax_getR (pc' := 124) dX12_readsStep_121 fl_X12_23 sh_69 rfl rfl rfl ?_
              refine ax_iconst (pc' := 125) (v := (0 : Int32)) dX12_readsStep_124 (by decide) rfl ?_
              refine ax_iald (pc' := 126) dX12_readsStep_125 sh_73 (ac_in (by decide)) rfl rfl ?_
              refine ax_iconst (pc' := 127) (v := (1 : Int32)) dX12_readsStep_126 (by decide) rfl ?_
              refine ax_isub (pc' := 128) dX12_readsStep_127 rfl ?_
              refine ay_V2 (pc' := 131) (ce' := 0) (sl' := 0) (mc2 := 0) (ms2 := 0) (I2 := i_X12_number) dX12_readsStep_128 ml_X12_166 sh_69 (by decide) rfl rfl rfl rfl rfl rfl rfl rfl rfl (ac_M.imp (o_X12_number _ (0 : Int32) (((ac_u s86 (476 + (s42 69 28).toNatClampNeg) (1 : Int32).toNatClampNeg r86) 73 (0 : Int32).toNatClampNeg) - (1 : Int32)) H) ?_)
              rintro _ _ ⟨r128, s128, rfl, rfl, H⟩
              refine ax_iast (pc' := 132) dX12_readsStep_131 (sh_r_476 _ (ac_lt hj53)) (ac_in (by decide)) (sh_n_476 _ (ac_lt hj53)) rfl ?_
              refine ax_aload_n (pc' := 133) dX12_readsStep_132 rfl rfl ?_
              refine ax_iconst (pc' := 134) (v := (2 : Int32)) dX12_readsStep_133 (by decide) rfl ?_
              refine ax_aload_n (pc' := 135) dX12_readsStep_134 rfl rfl ?_
              refine ax_iconst (pc' := 136) (v := (1 : Int32)) dX12_readsStep_135 (by decide) rfl ?_
              refine ax_bipush (pc' := 138) (v := (60 : Int32)) dX12_readsStep_136 (by decide) rfl ?_
              refine ay_V2 (pc' := 141) (ce' := 0) (sl' := 0) (mc2 := 0) (ms2 := 0) (I2 := i_X12_number) dX12_readsStep_138 ml_X12_166 sh_69 (by decide) rfl rfl rfl rfl rfl rfl rfl rfl rfl (ac_M.imp (o_X12_number _ (1 : Int32) (60 : Int32) H) ?_)
              rintro _ _ ⟨r138, s138, rfl, rfl, H⟩
              refine ax_iast (pc' := 142) dX12_readsStep_141 (sh_r_476 _ (ac_lt hj53)) (ac_in (by decide)) (sh_n_476 _ (ac_lt hj53)) rfl ?_
              refine ax_iload_n (pc' := 143) dX12_readsStep_142 rfl rfl ?_
              refine ax_bipush (pc' := 145) (v := (6 : Int32)) dX12_readsStep_143 (by decide) rfl ?_
              refine ax_icmp_ne (pc' := 148) (tgt := 215) dX12_readsStep_145 (by decide) rfl (fun hc145 => ?_) (fun hc145 => ?_)
              · have H := H.1 hc145
                refine ax_aload_n (pc' := 216) dX12_readsStep_215 rfl rfl ?_
                refine ax_iconst (pc' := 217) (v := (3 : Int32)) dX12_readsStep_216 (by decide) rfl ?_
                refine ax_aload_n (pc' := 218) dX12_readsStep_217 rfl rfl ?_
                refine ax_getI (pc' := 221) dX12_readsStep_218 fl_X12_260 sh_69 rfl rfl rfl ?_
                refine ax_iast (pc' := 222) dX12_readsStep_221 (sh_r_476 _ (ac_lt hj53)) (ac_in (by decide)) (sh_n_476 _ (ac_lt hj53)) rfl ?_
                refine ax_aload_n (pc' := 223) dX12_readsStep_222 rfl rfl ?_
                refine ax_bipush (pc' := 225) (v := (59 : Int32)) dX12_readsStep_223 (by decide) rfl ?_
                refine ay_V1 (pc' := 228) (ce' := 0) (sl' := 0) (mc2 := 0) (ms2 := 0) (I2 := i_X12_sign) dX12_readsStep_225 ml_X12_179 sh_69 (by decide) rfl rfl rfl rfl rfl rfl rfl rfl rfl (ac_M.imp (o_X12_sign _ (59 : Int32) H) ?_)
                rintro _ _ ⟨s225, rfl, rfl, H⟩
                exact ax_vret dX12_readsStep_228 rfl rfl rfl ⟨_, rfl, rfl, H⟩
              · have H := H.2 hc145
                refine ax_aload_n (pc' := 149) dX12_readsStep_148 rfl rfl ?_
                refine ax_iconst (pc' := 150) (v := (1 : Int32)) dX12_readsStep_149 (by decide) rfl ?_
                refine ax_aload_n (pc' := 151) dX12_readsStep_150 rfl rfl ?_
                refine ax_iconst (pc' := 152) (v := (0 : Int32)) dX12_readsStep_151 (by decide) rfl ?_
                refine ax_bipush (pc' := 154) (v := (60 : Int32)) dX12_readsStep_152 (by decide) rfl ?_
                refine ay_V2 (pc' := 157) (ce' := 0) (sl' := 0) (mc2 := 0) (ms2 := 0) (I2 := i_X12_number) dX12_readsStep_154 ml_X12_166 sh_69 (by decide) rfl rfl rfl rfl rfl rfl rfl rfl rfl (ac_M.imp (o_X12_number _ (0 : Int32) (60 : Int32) H) ?_)
                rintro _ _ ⟨r154, s154, rfl, rfl, H⟩
                refine ax_iast (pc' := 158) dX12_readsStep_157 (sh_r_476 _ (ac_lt hj53)) (ac_in (by decide)) (sh_n_476 _ (ac_lt hj53)) rfl ?_
                refine ax_aload_n (pc' := 159) dX12_readsStep_158 rfl rfl ?_
                refine ax_bipush (pc' := 161) (v := (91 : Int32)) dX12_readsStep_159 (by decide) rfl ?_
                refine ay_V1 (pc' := 164) (ce' := 0) (sl' := 0) (mc2 := 0) (ms2 := 0) (I2 := i_X12_sign) dX12_readsStep_161 ml_X12_179 sh_69 (by decide) rfl rfl rfl rfl rfl rfl rfl rfl rfl (ac_M.imp (o_X12_sign _ (91 : Int32) H) ?_)
                rintro _ _ ⟨s161, rfl, rfl, H⟩
                refine ax_aload_n (pc' := 165) dX12_readsStep_164 rfl rfl ?_
                refine ay_V0 (pc' := 168) (ce' := 0) (sl' := 0) (mc2 := 0) (ms2 := 0) (I2 := i_X12_blanks) dX12_readsStep_165 ml_X12_126 sh_69 (by decide) rfl rfl rfl rfl rfl rfl rfl rfl rfl (ac_M.imp (o_X12_blanks _  H) ?_)
                rintro _ _ ⟨s165, rfl, rfl, H⟩
                refine ax_drop 1 rfl ?_
                refine ol_X12_readsStep_168 d  hRr  _ (sh_r_476 _ (ac_lt hj53)) (sh_n_476 _ (ac_lt hj53))  H
          · have H := H.2 hc92
            refine ax_aload_n (pc' := 96) dX12_readsStep_95 rfl rfl ?_
            refine ax_iconst (pc' := 97) (v := (2 : Int32)) dX12_readsStep_96 (by decide) rfl ?_
            refine ax_aload_n (pc' := 98) dX12_readsStep_97 rfl rfl ?_
            refine ax_iconst (pc' := 99) (v := (0 : Int32)) dX12_readsStep_98 (by decide) rfl ?_
            refine ax_aload_n (pc' := 100) dX12_readsStep_99 rfl rfl ?_
            refine ax_getR (pc' := 103) dX12_readsStep_100 fl_X12_23 sh_69 rfl rfl rfl ?_
            refine ax_iconst (pc' := 104) (v := (0 : Int32)) dX12_readsStep_103 (by decide) rfl ?_
            refine ax_iald (pc' := 105) dX12_readsStep_104 sh_73 (ac_in (by decide)) rfl rfl ?_
            refine ax_iconst (pc' := 106) (v := (1 : Int32)) dX12_readsStep_105 (by decide) rfl ?_
            refine ax_isub (pc' := 107) dX12_readsStep_106 rfl ?_
            refine ay_V2 (pc' := 110) (ce' := 0) (sl' := 0) (mc2 := 0) (ms2 := 0) (I2 := i_X12_number) dX12_readsStep_107 ml_X12_166 sh_69 (by decide) rfl rfl rfl rfl rfl rfl rfl rfl rfl (ac_M.imp (o_X12_number _ (0 : Int32) (((ac_u s86 (476 + (s42 69 28).toNatClampNeg) (1 : Int32).toNatClampNeg r86) 73 (0 : Int32).toNatClampNeg) - (1 : Int32)) H) ?_)
            rintro _ _ ⟨r107, s107, rfl, rfl, H⟩
            refine ax_iast (pc' := 111) dX12_readsStep_110 (sh_r_476 _ (ac_lt hj53)) (ac_in (by decide)) (sh_n_476 _ (ac_lt hj53)) rfl ?_
            refine ax_iload_n (pc' := 112) dX12_readsStep_111 rfl rfl ?_
            refine ax_iconst (pc' := 113) (v := (4 : Int32)) dX12_readsStep_112 (by decide) rfl ?_
            refine ax_icmp_ne (pc' := 116) (tgt := 142) dX12_readsStep_113 (by decide) rfl (fun hc113 => ?_) (fun hc113 => ?_)
            · have H := H.1 hc113
              refine ax_iload_n (pc' := 143) dX12_readsStep_142 rfl rfl ?_
              refine ax_bipush (pc' := 145) (v := (6 : Int32)) dX12_readsStep_143 (by decide) rfl ?_
              refine ax_icmp_ne (pc' := 148) (tgt := 215) dX12_readsStep_145 (by decide) rfl (fun hc145 => ?_) (fun hc145 => ?_)
              · have H := H.1 hc145
                refine ax_aload_n (pc' := 216) dX12_readsStep_215 rfl rfl ?_
                refine ax_iconst (pc' := 217) (v := (3 : Int32)) dX12_readsStep_216 (by decide) rfl ?_
                refine ax_aload_n (pc' := 218) dX12_readsStep_217 rfl rfl ?_
                refine ax_getI (pc' := 221) dX12_readsStep_218 fl_X12_260 sh_69 rfl rfl rfl ?_
                refine ax_iast (pc' := 222) dX12_readsStep_221 (sh_r_476 _ (ac_lt hj53)) (ac_in (by decide)) (sh_n_476 _ (ac_lt hj53)) rfl ?_
                refine ax_aload_n (pc' := 223) dX12_readsStep_222 rfl rfl ?_
                refine ax_bipush (pc' := 225) (v := (59 : Int32)) dX12_readsStep_223 (by decide) rfl ?_
                refine ay_V1 (pc' := 228) (ce' := 0) (sl' := 0) (mc2 := 0) (ms2 := 0) (I2 := i_X12_sign) dX12_readsStep_225 ml_X12_179 sh_69 (by decide) rfl rfl rfl rfl rfl rfl rfl rfl rfl (ac_M.imp (o_X12_sign _ (59 : Int32) H) ?_)
                rintro _ _ ⟨s225, rfl, rfl, H⟩
                exact ax_vret dX12_readsStep_228 rfl rfl rfl ⟨_, rfl, rfl, H⟩
              · have H := H.2 hc145
                refine ax_aload_n (pc' := 149) dX12_readsStep_148 rfl rfl ?_
                refine ax_iconst (pc' := 150) (v := (1 : Int32)) dX12_readsStep_149 (by decide) rfl ?_
                refine ax_aload_n (pc' := 151) dX12_readsStep_150 rfl rfl ?_
                refine ax_iconst (pc' := 152) (v := (0 : Int32)) dX12_readsStep_151 (by decide) rfl ?_
                refine ax_bipush (pc' := 154) (v := (60 : Int32)) dX12_readsStep_152 (by decide) rfl ?_
                refine ay_V2 (pc' := 157) (ce' := 0) (sl' := 0) (mc2 := 0) (ms2 := 0) (I2 := i_X12_number) dX12_readsStep_154 ml_X12_166 sh_69 (by decide) rfl rfl rfl rfl rfl rfl rfl rfl rfl (ac_M.imp (o_X12_number _ (0 : Int32) (60 : Int32) H) ?_)
                rintro _ _ ⟨r154, s154, rfl, rfl, H⟩
                refine ax_iast (pc' := 158) dX12_readsStep_157 (sh_r_476 _ (ac_lt hj53)) (ac_in (by decide)) (sh_n_476 _ (ac_lt hj53)) rfl ?_
                refine ax_aload_n (pc' := 159) dX12_readsStep_158 rfl rfl ?_
                refine ax_bipush (pc' := 161) (v := (91 : Int32)) dX12_readsStep_159 (by decide) rfl ?_
                refine ay_V1 (pc' := 164) (ce' := 0) (sl' := 0) (mc2 := 0) (ms2 := 0) (I2 := i_X12_sign) dX12_readsStep_161 ml_X12_179 sh_69 (by decide) rfl rfl rfl rfl rfl rfl rfl rfl rfl (ac_M.imp (o_X12_sign _ (91 : Int32) H) ?_)
                rintro _ _ ⟨s161, rfl, rfl, H⟩
                refine ax_aload_n (pc' := 165) dX12_readsStep_164 rfl rfl ?_
                refine ay_V0 (pc' := 168) (ce' := 0) (sl' := 0) (mc2 := 0) (ms2 := 0) (I2 := i_X12_blanks) dX12_readsStep_165 ml_X12_126 sh_69 (by decide) rfl rfl rfl rfl rfl rfl rfl rfl rfl (ac_M.imp (o_X12_blanks _  H) ?_)
                rintro _ _ ⟨s165, rfl, rfl, H⟩
                refine ax_drop 1 rfl ?_
                refine ol_X12_readsStep_168 d  hRr  _ (sh_r_476 _ (ac_lt hj53)) (sh_n_476 _ (ac_lt hj53))  H
            · have H := H.2 hc113
              refine ax_aload_n (pc' := 117) dX12_readsStep_116 rfl rfl ?_
              refine ax_iconst (pc' := 118) (v := (1 : Int32)) dX12_readsStep_117 (by decide) rfl ?_
              refine ax_aload_n (pc' := 119) dX12_readsStep_118 rfl rfl ?_
              refine ax_iconst (pc' := 120) (v := (0 : Int32)) dX12_readsStep_119 (by decide) rfl ?_
              refine ax_aload_n (pc' := 121) dX12_readsStep_120 rfl rfl ?_
              refine ax_getR (pc' := 124) dX12_readsStep_121 fl_X12_23 sh_69 rfl rfl rfl ?_
              refine ax_iconst (pc' := 125) (v := (0 : Int32)) dX12_readsStep_124 (by decide) rfl ?_
              refine ax_iald (pc' := 126) dX12_readsStep_125 sh_73 (ac_in (by decide)) rfl rfl ?_
              refine ax_iconst (pc' := 127) (v := (1 : Int32)) dX12_readsStep_126 (by decide) rfl ?_
              refine ax_isub (pc' := 128) dX12_readsStep_127 rfl ?_
              refine ay_V2 (pc' := 131) (ce' := 0) (sl' := 0) (mc2 := 0) (ms2 := 0) (I2 := i_X12_number) dX12_readsStep_128 ml_X12_166 sh_69 (by decide) rfl rfl rfl rfl rfl rfl rfl rfl rfl (ac_M.imp (o_X12_number _ (0 : Int32) (((ac_u s107 (476 + (s42 69 28).toNatClampNeg) (2 : Int32).toNatClampNeg r107) 73 (0 : Int32).toNatClampNeg) - (1 : Int32)) H) ?_)
              rintro _ _ ⟨r128, s128, rfl, rfl, H⟩
              refine ax_iast (pc' := 132) dX12_readsStep_131 (sh_r_476 _ (ac_lt hj53)) (ac_in (by decide)) (sh_n_476 _ (ac_lt hj53)) rfl ?_
              refine ax_aload_n (pc' := 133) dX12_readsStep_132 rfl rfl ?_
              refine ax_iconst (pc' := 134) (v := (2 : Int32)) dX12_readsStep_133 (by decide) rfl ?_
              refine ax_aload_n (pc' := 135) dX12_readsStep_134 rfl rfl ?_
              refine ax_iconst (pc' := 136) (v := (1 : Int32)) dX12_readsStep_135 (by decide) rfl ?_
              refine ax_bipush (pc' := 138) (v := (60 : Int32)) dX12_readsStep_136 (by decide) rfl ?_
              refine ay_V2 (pc' := 141) (ce' := 0) (sl' := 0) (mc2 := 0) (ms2 := 0) (I2 := i_X12_number) dX12_readsStep_138 ml_X12_166 sh_69 (by decide) rfl rfl rfl rfl rfl rfl rfl rfl rfl (ac_M.imp (o_X12_number _ (1 : Int32) (60 : Int32) H) ?_)
              rintro _ _ ⟨r138, s138, rfl, rfl, H⟩
              refine ax_iast (pc' := 142) dX12_readsStep_141 (sh_r_476 _ (ac_lt hj53)) (ac_in (by decide)) (sh_n_476 _ (ac_lt hj53)) rfl ?_
              refine ax_iload_n (pc' := 143) dX12_readsStep_142 rfl rfl ?_
              refine ax_bipush (pc' := 145) (v := (6 : Int32)) dX12_readsStep_143 (by decide) rfl ?_
              refine ax_icmp_ne (pc' := 148) (tgt := 215) dX12_readsStep_145 (by decide) rfl (fun hc145 => ?_) (fun hc145 => ?_)
              · have H := H.1 hc145
                refine ax_aload_n (pc' := 216) dX12_readsStep_215 rfl rfl ?_
                refine ax_iconst (pc' := 217) (v := (3 : Int32)) dX12_readsStep_216 (by decide) rfl ?_
                refine ax_aload_n (pc' := 218) dX12_readsStep_217 rfl rfl ?_
                refine ax_getI (pc' := 221) dX12_readsStep_218 fl_X12_260 sh_69 rfl rfl rfl ?_
                refine ax_iast (pc' := 222) dX12_readsStep_221 (sh_r_476 _ (ac_lt hj53)) (ac_in (by decide)) (sh_n_476 _ (ac_lt hj53)) rfl ?_
                refine ax_aload_n (pc' := 223) dX12_readsStep_222 rfl rfl ?_
                refine ax_bipush (pc' := 225) (v := (59 : Int32)) dX12_readsStep_223 (by decide) rfl ?_
                refine ay_V1 (pc' := 228) (ce' := 0) (sl' := 0) (mc2 := 0) (ms2 := 0) (I2 := i_X12_sign) dX12_readsStep_225 ml_X12_179 sh_69 (by decide) rfl rfl rfl rfl rfl rfl rfl rfl rfl (ac_M.imp (o_X12_sign _ (59 : Int32) H) ?_)
                rintro _ _ ⟨s225, rfl, rfl, H⟩
                exact ax_vret dX12_readsStep_228 rfl rfl rfl ⟨_, rfl, rfl, H⟩
              · have H := H.2 hc145
                refine ax_aload_n (pc' := 149) dX12_readsStep_148 rfl rfl ?_
                refine ax_iconst (pc' := 150) (v := (1 : Int32)) dX12_readsStep_149 (by decide) rfl ?_
                refine ax_aload_n (pc' := 151) dX12_readsStep_150 rfl rfl ?_
                refine ax_iconst (pc' := 152) (v := (0 : Int32)) dX12_readsStep_151 (by decide) rfl ?_
                refine ax_bipush (pc' := 154) (v := (60 : Int32)) dX12_readsStep_152 (by decide) rfl ?_
                refine ay_V2 (pc' := 157) (ce' := 0) (sl' := 0) (mc2 := 0) (ms2 := 0) (I2 := i_X12_number) dX12_readsStep_154 ml_X12_166 sh_69 (by decide) rfl rfl rfl rfl rfl rfl rfl rfl rfl (ac_M.imp (o_X12_number _ (0 : Int32) (60 : Int32) H) ?_)
                rintro _ _ ⟨r154, s154, rfl, rfl, H⟩
                refine ax_iast (pc' := 158) dX12_readsStep_157 (sh_r_476 _ (ac_lt hj53)) (ac_in (by decide)) (sh_n_476 _ (ac_lt hj53)) rfl ?_
                refine ax_aload_n (pc' := 159) dX12_readsStep_158 rfl rfl ?_
                refine ax_bipush (pc' := 161) (v := (91 : Int32)) dX12_readsStep_159 (by decide) rfl ?_
                refine ay_V1 (pc' := 164) (ce' := 0) (sl' := 0) (mc2 := 0) (ms2 := 0) (I2 := i_X12_sign) dX12_readsStep_161 ml_X12_179 sh_69 (by decide) rfl rfl rfl rfl rfl rfl rfl rfl rfl (ac_M.imp (o_X12_sign _ (91 : Int32) H) ?_)
                rintro _ _ ⟨s161, rfl, rfl, H⟩
                refine ax_aload_n (pc' := 165) dX12_readsStep_164 rfl rfl ?_
                refine ay_V0 (pc' := 168) (ce' := 0) (sl' := 0) (mc2 := 0) (ms2 := 0) (I2 := i_X12_blanks) dX12_readsStep_165 ml_X12_126 sh_69 (by decide) rfl rfl rfl rfl rfl rfl rfl rfl rfl (ac_M.imp (o_X12_blanks _  H) ?_)
                rintro _ _ ⟨s165, rfl, rfl, H⟩
                refine ax_drop 1 rfl ?_
                refine ol_X12_readsStep_168 d  hRr  _ (sh_r_476 _ (ac_lt hj53)) (sh_n_476 _ (ac_lt hj53))  H
      · have H := H.2 hc37
        exact ax_vret dX12_readsStep_40 rfl rfl rfl ⟨_, rfl, rfl, H⟩
    · have H := H.2 hc22
      refine ax_aload_n (pc' := 26) dX12_readsStep_25 rfl rfl ?_
      refine ay_V0 (pc' := 29) (ce' := 0) (sl' := 0) (mc2 := 0) (ms2 := 0) (I2 := i_X12_opensOne) dX12_readsStep_26 ml_X12_237 sh_69 (by decide) rfl rfl rfl rfl rfl rfl rfl rfl rfl (ac_M.imp (o_X12_opensOne _  H) ?_)
      rintro _ _ ⟨r26, s26, rfl, rfl, H⟩
      refine ax_if_ne (pc' := 32) (tgt := 33) dX12_readsStep_29 (by decide) rfl (fun hc29 => ?_) (fun hc29 => ?_)
      · have H := H.1 hc29
        refine ax_aload_n (pc' := 34) dX12_readsStep_33 rfl rfl ?_
        refine ax_getI (pc' := 37) dX12_readsStep_34 fl_X12_120 sh_69 rfl rfl rfl ?_
        refine ax_if_eq (pc' := 40) (tgt := 41) dX12_readsStep_37 (by decide) rfl (fun hc37 => ?_) (fun hc37 => ?_)
        · have H := H.1 hc37
          refine ax_aload_n (pc' := 42) dX12_readsStep_41 rfl rfl ?_
          refine ay_V0 (pc' := 45) (ce' := 0) (sl' := 0) (mc2 := 0) (ms2 := 0) (I2 := i_X12_skipWord) dX12_readsStep_42 ml_X12_157 sh_69 (by decide) rfl rfl rfl rfl rfl rfl rfl rfl rfl (ac_M.imp (o_X12_skipWord _  H) ?_)
          rintro _ _ ⟨s42, rfl, rfl, H⟩
          refine ax_aload_n (pc' := 46) dX12_readsStep_45 rfl rfl ?_
          refine ax_getR (pc' := 49) dX12_readsStep_46 fl_X12_64 sh_69 rfl rfl rfl ?_
          refine ax_aload_n (pc' := 50) dX12_readsStep_49 rfl rfl ?_
          refine ax_getI (pc' := 53) dX12_readsStep_50 fl_X12_260 sh_69 rfl rfl rfl ?_
          obtain ⟨hj53, H⟩ := H
          refine ax_aald (pc' := 54) dX12_readsStep_53 sh_475 hj53 rfl rfl ?_
          refine ax_astore_n (pc' := 55) dX12_readsStep_54 rfl rfl rfl ?_
          refine ax_aload_n (pc' := 56) dX12_readsStep_55 rfl rfl ?_
          refine ax_dup (pc' := 57) dX12_readsStep_56 rfl rfl ?_
          refine ax_getI (pc' := 60) dX12_readsStep_57 fl_X12_260 sh_69 rfl rfl rfl ?_
          refine ax_iconst (pc' := 61) (v := (1 : Int32)) dX12_readsStep_60 (by decide) rfl ?_
          refine ax_iadd (pc' := 62) dX12_readsStep_61 rfl ?_
          refine ax_putI (pc' := 65) dX12_readsStep_62 fp_X12_260 sh_69 rfl rfl rfl ?_
          refine ax_aload_n (pc' := 66) dX12_readsStep_65 rfl rfl ?_
          refine ax_iconst (pc' := 67) (v := (0 : Int32)) dX12_readsStep_66 (by decide) rfl ?_
          refine ax_iload_n (pc' := 68) dX12_readsStep_67 rfl rfl ?_
          refine ax_iast (pc' := 69) dX12_readsStep_68 (sh_r_476 _ (ac_lt hj53)) (ac_in (by decide)) (sh_n_476 _ (ac_lt hj53)) rfl ?_
          refine ax_iload_n (pc' := 70) dX12_readsStep_69 rfl rfl ?_
          refine ax_iconst (pc' := 71) (v := (4 : Int32)) dX12_readsStep_70 (by decide) rfl ?_
          refine ax_icmp_ge (pc' := 74) (tgt := 90) dX12_readsStep_71 (by decide) rfl (fun hc71 => ?_) (fun hc71 => ?_)
          · have H := H.1 hc71
            refine ax_iload_n (pc' := 91) dX12_readsStep_90 rfl rfl ?_
            refine ax_iconst (pc' := 92) (v := (1 : Int32)) dX12_readsStep_91 (by decide) rfl ?_
            refine ax_icmp_ne (pc' := 95) (tgt := 111) dX12_readsStep_92 (by decide) rfl (fun hc92 => ?_) (fun hc92 => ?_)
            · have H := H.1 hc92
              refine ax_iload_n (pc' := 112) dX12_readsStep_111 rfl rfl ?_
              refine ax_iconst (pc' := 113) (v := (4 : Int32)) dX12_readsStep_112 (by decide) rfl ?_
              refine ax_icmp_ne (pc' := 116) (tgt := 142) dX12_readsStep_113 (by decide) rfl (fun hc113 => ?_) (fun hc113 => ?_)
              · have H := H.1 hc113
                refine ax_iload_n (pc' := 143) dX12_readsStep_142 rfl rfl ?_
                refine ax_bipush (pc' := 145) (v := (6 : Int32)) dX12_readsStep_143 (by decide) rfl ?_
                refine ax_icmp_ne (pc' := 148) (tgt := 215) dX12_readsStep_145 (by decide) rfl (fun hc145 => ?_) (fun hc145 => ?_)
                · have H := H.1 hc145
                  refine ax_aload_n (pc' := 216) dX12_readsStep_215 rfl rfl ?_
                  refine ax_iconst (pc' := 217) (v := (3 : Int32)) dX12_readsStep_216 (by decide) rfl ?_
                  refine ax_aload_n (pc' := 218) dX12_readsStep_217 rfl rfl ?_
                  refine ax_getI (pc' := 221) dX12_readsStep_218 fl_X12_260 sh_69 rfl rfl rfl ?_
                  refine ax_iast (pc' := 222) dX12_readsStep_221 (sh_r_476 _ (ac_lt hj53)) (ac_in (by decide)) (sh_n_476 _ (ac_lt hj53)) rfl ?_
                  refine ax_aload_n (pc' := 223) dX12_readsStep_222 rfl rfl ?_
                  refine ax_bipush (pc' := 225) (v := (59 : Int32)) dX12_readsStep_223 (by decide) rfl ?_
                  refine ay_V1 (pc' := 228) (ce' := 0) (sl' := 0) (mc2 := 0) (ms2 := 0) (I2 := i_X12_sign) dX12_readsStep_225 ml_X12_179 sh_69 (by decide) rfl rfl rfl rfl rfl rfl rfl rfl rfl (ac_M.imp (o_X12_sign _ (59 : Int32) H) ?_)
                  rintro _ _ ⟨s225, rfl, rfl, H⟩
                  exact ax_vret dX12_readsStep_228 rfl rfl rfl ⟨_, rfl, rfl, H⟩
                · have H := H.2 hc145
                  refine ax_aload_n (pc' := 149) dX12_readsStep_148 rfl rfl ?_
                  refine ax_iconst (pc' := 150) (v := (1 : Int32)) dX12_readsStep_149 (by decide) rfl ?_
                  refine ax_aload_n (pc' := 151) dX12_readsStep_150 rfl rfl ?_
                  refine ax_iconst (pc' := 152) (v := (0 : Int32)) dX12_readsStep_151 (by decide) rfl ?_
                  refine ax_bipush (pc' := 154) (v := (60 : Int32)) dX12_readsStep_152 (by decide) rfl ?_
                  refine ay_V2 (pc' := 157) (ce' := 0) (sl' := 0) (mc2 := 0) (ms2 := 0) (I2 := i_X12_number) dX12_readsStep_154 ml_X12_166 sh_69 (by decide) rfl rfl rfl rfl rfl rfl rfl rfl rfl (ac_M.imp (o_X12_number _ (0 : Int32) (60 : Int32) H) ?_)
                  rintro _ _ ⟨r154, s154, rfl, rfl, H⟩
                  refine ax_iast (pc' := 158) dX12_readsStep_157 (sh_r_476 _ (ac_lt hj53)) (ac_in (by decide)) (sh_n_476 _ (ac_lt hj53)) rfl ?_
                  refine ax_aload_n (pc' := 159) dX12_readsStep_158 rfl rfl ?_
                  refine ax_bipush (pc' := 161) (v := (91 : Int32)) dX12_readsStep_159 (by decide) rfl ?_
                  refine ay_V1 (pc' := 164) (ce' := 0) (sl' := 0) (mc2 := 0) (ms2 := 0) (I2 := i_X12_sign) dX12_readsStep_161 ml_X12_179 sh_69 (by decide) rfl rfl rfl rfl rfl rfl rfl rfl rfl (ac_M.imp (o_X12_sign _ (91 : Int32) H) ?_)
                  rintro _ _ ⟨s161, rfl, rfl, H⟩
                  refine ax_aload_n (pc' := 165) dX12_readsStep_164 rfl rfl ?_
                  refine ay_V0 (pc' := 168) (ce' := 0) (sl' := 0) (mc2 := 0) (ms2 := 0) (I2 := i_X12_blanks) dX12_readsStep_165 ml_X12_126 sh_69 (by decide) rfl rfl rfl rfl rfl rfl rfl rfl rfl (ac_M.imp (o_X12_blanks _  H) ?_)
                  rintro _ _ ⟨s165, rfl, rfl, H⟩
                  refine ax_drop 1 rfl ?_
                  refine ol_X12_readsStep_168 d  hRr  _ (sh_r_476 _ (ac_lt hj53)) (sh_n_476 _ (ac_lt hj53))  H
              · have H := H.2 hc113
                refine ax_aload_n (pc' := 117) dX12_readsStep_116 rfl rfl ?_
                refine ax_iconst (pc' := 118) (v := (1 : Int32)) dX12_readsStep_117 (by decide) rfl ?_
                refine ax_aload_n (pc' := 119) dX12_readsStep_118 rfl rfl ?_
                refine ax_iconst (pc' := 120) (v := (0 : Int32)) dX12_readsStep_119 (by decide) rfl ?_
                refine ax_aload_n (pc' := 121) dX12_readsStep_120 rfl rfl ?_
                refine ax_getR (pc' := 124) dX12_readsStep_121 fl_X12_23 sh_69 rfl rfl rfl ?_
                refine ax_iconst (pc' := 125) (v := (0 : Int32)) dX12_readsStep_124 (by decide) rfl ?_
                refine ax_iald (pc' := 126) dX12_readsStep_125 sh_73 (ac_in (by decide)) rfl rfl ?_
                refine ax_iconst (pc' := 127) (v := (1 : Int32)) dX12_readsStep_126 (by decide) rfl ?_
                refine ax_isub (pc' := 128) dX12_readsStep_127 rfl ?_
                refine ay_V2 (pc' := 131) (ce' := 0) (sl' := 0) (mc2 := 0) (ms2 := 0) (I2 := i_X12_number) dX12_readsStep_128 ml_X12_166 sh_69 (by decide) rfl rfl rfl rfl rfl rfl rfl rfl rfl (ac_M.imp (o_X12_number _ (0 : Int32) (((ac_u (ac_u s42 69 28 ((s42 69 28) + (1 : Int32))) (476 + (s42 69 28).toNatClampNeg) (0 : Int32).toNatClampNeg r1) 73 (0 : Int32).toNatClampNeg) - (1 : Int32)) H) ?_)
                rintro _ _ ⟨r128, s128, rfl, rfl, H⟩
                refine ax_iast (pc' := 132) dX12_readsStep_131 (sh_r_476 _ (ac_lt hj53)) (ac_in (by decide)) (sh_n_476 _ (ac_lt hj53)) rfl ?_
                refine ax_aload_n (pc' := 133) dX12_readsStep_132 rfl rfl ?_
                refine ax_iconst (pc' := 134) (v := (2 : Int32)) dX12_readsStep_133 (by decide) rfl ?_
                refine ax_aload_n (pc' := 135) dX12_readsStep_134 rfl rfl ?_
                refine ax_iconst (pc' := 136) (v := (1 : Int32)) dX12_readsStep_135 (by decide) rfl ?_
                refine ax_bipush (pc' := 138) (v := (60 : Int32)) dX12_readsStep_136 (by decide) rfl ?_
                refine ay_V2 (pc' := 141) (ce' := 0) (sl' := 0) (mc2 := 0) (ms2 := 0) (I2 := i_X12_number) dX12_readsStep_138 ml_X12_166 sh_69 (by decide) rfl rfl rfl rfl rfl rfl rfl rfl rfl (ac_M.imp (o_X12_number _ (1 : Int32) (60 : Int32) H) ?_)
                rintro _ _ ⟨r138, s138, rfl, rfl, H⟩
                refine ax_iast (pc' := 142) dX12_readsStep_141 (sh_r_476 _ (ac_lt hj53)) (ac_in (by decide)) (sh_n_476 _ (ac_lt hj53)) rfl ?_
                refine ax_iload_n (pc' := 143) dX12_readsStep_142 rfl rfl ?_
                refine ax_bipush (pc' := 145) (v := (6 : Int32)) dX12_readsStep_143 (by decide) rfl ?_
                refine ax_icmp_ne (pc' := 148) (tgt := 215) dX12_readsStep_145 (by decide) rfl (fun hc145 => ?_) (fun hc145 => ?_)
                · have H := H.1 hc145
                  refine ax_aload_n (pc' := 216) dX12_readsStep_215 rfl rfl ?_
                  refine ax_iconst (pc' := 217) (v := (3 : Int32)) dX12_readsStep_216 (by decide) rfl ?_
                  refine ax_aload_n (pc' := 218) dX12_readsStep_217 rfl rfl ?_
                  refine ax_getI (pc' := 221) dX12_readsStep_218 fl_X12_260 sh_69 rfl rfl rfl ?_
                  refine ax_iast (pc' := 222) dX12_readsStep_221 (sh_r_476 _ (ac_lt hj53)) (ac_in (by decide)) (sh_n_476 _ (ac_lt hj53)) rfl ?_
                  refine ax_aload_n (pc' := 223) dX12_readsStep_222 rfl rfl ?_
                  refine ax_bipush (pc' := 225) (v := (59 : Int32)) dX12_readsStep_223 (by decide) rfl ?_
                  refine ay_V1 (pc' := 228) (ce' := 0) (sl' := 0) (mc2 := 0) (ms2 := 0) (I2 := i_X12_sign) dX12_readsStep_225 ml_X12_179 sh_69 (by decide) rfl rfl rfl rfl rfl rfl rfl rfl rfl (ac_M.imp (o_X12_sign _ (59 : Int32) H) ?_)
                  rintro _ _ ⟨s225, rfl, rfl, H⟩
                  exact ax_vret dX12_readsStep_228 rfl rfl rfl ⟨_, rfl, rfl, H⟩
                · have H := H.2 hc145
                  refine ax_aload_n (pc' := 149) dX12_readsStep_148 rfl rfl ?_
                  refine ax_iconst (pc' := 150) (v := (1 : Int32)) dX12_readsStep_149 (by decide) rfl ?_
                  refine ax_aload_n (pc' := 151) dX12_readsStep_150 rfl rfl ?_
                  refine ax_iconst (pc' := 152) (v := (0 : Int32)) dX12_readsStep_151 (by decide) rfl ?_
                  refine ax_bipush (pc' := 154) (v := (60 : Int32)) dX12_readsStep_152 (by decide) rfl ?_
                  refine ay_V2 (pc' := 157) (ce' := 0) (sl' := 0) (mc2 := 0) (ms2 := 0) (I2 := i_X12_number) dX12_readsStep_154 ml_X12_166 sh_69 (by decide) rfl rfl rfl rfl rfl rfl rfl rfl rfl (ac_M.imp (o_X12_number _ (0 : Int32) (60 : Int32) H) ?_)
                  rintro _ _ ⟨r154, s154, rfl, rfl, H⟩
                  refine ax_iast (pc' := 158) dX12_readsStep_157 (sh_r_476 _ (ac_lt hj53)) (ac_in (by decide)) (sh_n_476 _ (ac_lt hj53)) rfl ?_
                  refine ax_aload_n (pc' := 159) dX12_readsStep_158 rfl rfl ?_
                  refine ax_bipush (pc' := 161) (v := (91 : Int32)) dX12_readsStep_159 (by decide) rfl ?_
                  refine ay_V1 (pc' := 164) (ce' := 0) (sl' := 0) (mc2 := 0) (ms2 := 0) (I2 := i_X12_sign) dX12_readsStep_161 ml_X12_179 sh_69 (by decide) rfl rfl rfl rfl rfl rfl rfl rfl rfl (ac_M.imp (o_X12_sign _ (91 : Int32) H) ?_)
                  rintro _ _ ⟨s161, rfl, rfl, H⟩
                  refine ax_aload_n (pc' := 165) dX12_readsStep_164 rfl rfl ?_
                  refine ay_V0 (pc' := 168) (ce' := 0) (sl' := 0) (mc2 := 0) (ms2 := 0) (I2 := i_X12_blanks) dX12_readsStep_165 ml_X12_126 sh_69 (by decide) rfl rfl rfl rfl rfl rfl rfl rfl rfl (ac_M.imp (o_X12_blanks _  H) ?_)
                  rintro _ _ ⟨s165, rfl, rfl, H⟩
                  refine ax_drop 1 rfl ?_
                  refine ol_X12_readsStep_168 d  hRr  _ (sh_r_476 _ (ac_lt hj53)) (sh_n_476 _ (ac_lt hj53))  H
            · have H := H.2 hc92
              refine ax_aload_n (pc' := 96) dX12_readsStep_95 rfl rfl ?_
              refine ax_iconst (pc' := 97) (v := (2 : Int32)) dX12_readsStep_96 (by decide) rfl ?_
              refine ax_aload_n (pc' := 98) dX12_readsStep_97 rfl rfl ?_
              refine ax_iconst (pc' := 99) (v := (0 : Int32)) dX12_readsStep_98 (by decide) rfl ?_
              refine ax_aload_n (pc' := 100) dX12_readsStep_99 rfl rfl ?_
              refine ax_getR (pc' := 103) dX12_readsStep_100 fl_X12_23 sh_69 rfl rfl rfl ?_
              refine ax_iconst (pc' := 104) (v := (0 : Int32)) dX12_readsStep_103 (by decide) rfl ?_
              refine ax_iald (pc' := 105) dX12_readsStep_104 sh_73 (ac_in (by decide)) rfl rfl ?_
              refine ax_iconst (pc' := 106) (v := (1 : Int32)) dX12_readsStep_105 (by decide) rfl ?_
              refine ax_isub (pc' := 107) dX12_readsStep_106 rfl ?_
              refine ay_V2 (pc' := 110) (ce' := 0) (sl' := 0) (mc2 := 0) (ms2 := 0) (I2 := i_X12_number) dX12_readsStep_107 ml_X12_166 sh_69 (by decide) rfl rfl rfl rfl rfl rfl rfl rfl rfl (ac_M.imp (o_X12_number _ (0 : Int32) (((ac_u (ac_u s42 69 28 ((s42 69 28) + (1 : Int32))) (476 + (s42 69 28).toNatClampNeg) (0 : Int32).toNatClampNeg r1) 73 (0 : Int32).toNatClampNeg) - (1 : Int32)) H) ?_)
              rintro _ _ ⟨r107, s107, rfl, rfl, H⟩
              refine ax_iast (pc' := 111) dX12_readsStep_110 (sh_r_476 _ (ac_lt hj53)) (ac_in (by decide)) (sh_n_476 _ (ac_lt hj53)) rfl ?_
              refine ax_iload_n (pc' := 112) dX12_readsStep_111 rfl rfl ?_
              refine ax_iconst (pc' := 113) (v := (4 : Int32)) dX12_readsStep_112 (by decide) rfl ?_
              refine ax_icmp_ne (pc' := 116) (tgt := 142) dX12_readsStep_113 (by decide) rfl (fun hc113 => ?_) (fun hc113 => ?_)
              · have H := H.1 hc113
                refine ax_iload_n (pc' := 143) dX12_readsStep_142 rfl rfl ?_
                refine ax_bipush (pc' := 145) (v := (6 : Int32)) dX12_readsStep_143 (by decide) rfl ?_
                refine ax_icmp_ne (pc' := 148) (tgt := 215) dX12_readsStep_145 (by decide) rfl (fun hc145 => ?_) (fun hc145 => ?_)
                · have H := H.1 hc145
                  refine ax_aload_n (pc' := 216) dX12_readsStep_215 rfl rfl ?_
                  refine ax_iconst (pc' := 217) (v := (3 : Int32)) dX12_readsStep_216 (by decide) rfl ?_
                  refine ax_aload_n (pc' := 218) dX12_readsStep_217 rfl rfl ?_
                  refine ax_getI (pc' := 221) dX12_readsStep_218 fl_X12_260 sh_69 rfl rfl rfl ?_
                  refine ax_iast (pc' := 222) dX12_readsStep_221 (sh_r_476 _ (ac_lt hj53)) (ac_in (by decide)) (sh_n_476 _ (ac_lt hj53)) rfl ?_
                  refine ax_aload_n (pc' := 223) dX12_readsStep_222 rfl rfl ?_
                  refine ax_bipush (pc' := 225) (v := (59 : Int32)) dX12_readsStep_223 (by decide) rfl ?_
                  refine ay_V1 (pc' := 228) (ce' := 0) (sl' := 0) (mc2 := 0) (ms2 := 0) (I2 := i_X12_sign) dX12_readsStep_225 ml_X12_179 sh_69 (by decide) rfl rfl rfl rfl rfl rfl rfl rfl rfl (ac_M.imp (o_X12_sign _ (59 : Int32) H) ?_)
                  rintro _ _ ⟨s225, rfl, rfl, H⟩
                  exact ax_vret dX12_readsStep_228 rfl rfl rfl ⟨_, rfl, rfl, H⟩
                · have H := H.2 hc145
                  refine ax_aload_n (pc' := 149) dX12_readsStep_148 rfl rfl ?_
                  refine ax_iconst (pc' := 150) (v := (1 : Int32)) dX12_readsStep_149 (by decide) rfl ?_
                  refine ax_aload_n (pc' := 151) dX12_readsStep_150 rfl rfl ?_
                  refine ax_iconst (pc' := 152) (v := (0 : Int32)) dX12_readsStep_151 (by decide) rfl ?_
                  refine ax_bipush (pc' := 154) (v := (60 : Int32)) dX12_readsStep_152 (by decide) rfl ?_
                  refine ay_V2 (pc' := 157) (ce' := 0) (sl' := 0) (mc2 := 0) (ms2 := 0) (I2 := i_X12_number) dX12_readsStep_154 ml_X12_166 sh_69 (by decide) rfl rfl rfl rfl rfl rfl rfl rfl rfl (ac_M.imp (o_X12_number _ (0 : Int32) (60 : Int32) H) ?_)
                  rintro _ _ ⟨r154, s154, rfl, rfl, H⟩
                  refine ax_iast (pc' := 158) dX12_readsStep_157 (sh_r_476 _ (ac_lt hj53)) (ac_in (by decide)) (sh_n_476 _ (ac_lt hj53)) rfl ?_
                  refine ax_aload_n (pc' := 159) dX12_readsStep_158 rfl rfl ?_
                  refine ax_bipush (pc' := 161) (v := (91 : Int32)) dX12_readsStep_159 (by decide) rfl ?_
                  refine ay_V1 (pc' := 164) (ce' := 0) (sl' := 0) (mc2 := 0) (ms2 := 0) (I2 := i_X12_sign) dX12_readsStep_161 ml_X12_179 sh_69 (by decide) rfl rfl rfl rfl rfl rfl rfl rfl rfl (ac_M.imp (o_X12_sign _ (91 : Int32) H) ?_)
                  rintro _ _ ⟨s161, rfl, rfl, H⟩
                  refine ax_aload_n (pc' := 165) dX12_readsStep_164 rfl rfl ?_
                  refine ay_V0 (pc' := 168) (ce' := 0) (sl' := 0) (mc2 := 0) (ms2 := 0) (I2 := i_X12_blanks) dX12_readsStep_165 ml_X12_126 sh_69 (by decide) rfl rfl rfl rfl rfl rfl rfl rfl rfl (ac_M.imp (o_X12_blanks _  H) ?_)
                  rintro _ _ ⟨s165, rfl, rfl, H⟩
                  refine ax_drop 1 rfl ?_
                  refine ol_X12_readsStep_168 d  hRr  _ (sh_r_476 _ (ac_lt hj53)) (sh_n_476 _ (ac_lt hj53))  H
              · have H := H.2 hc113
                refine ax_aload_n (pc' := 117) dX12_readsStep_116 rfl rfl ?_
                refine ax_iconst (pc' := 118) (v := (1 : Int32)) dX12_readsStep_117 (by decide) rfl ?_
                refine ax_aload_n (pc' := 119) dX12_readsStep_118 rfl rfl ?_
                refine ax_iconst (pc' := 120) (v := (0 : Int32)) dX12_readsStep_119 (by decide) rfl ?_
                refine ax_aload_n (pc' := 121) dX12_readsStep_120 rfl rfl ?_
                refine ax_getR (pc' := 124) dX12_readsStep_121 fl_X12_23 sh_69 rfl rfl rfl ?_
                refine ax_iconst (pc' := 125) (v := (0 : Int32)) dX12_readsStep_124 (by decide) rfl ?_
                refine ax_iald (pc' := 126) dX12_readsStep_125 sh_73 (ac_in (by decide)) rfl rfl ?_
                refine ax_iconst (pc' := 127) (v := (1 : Int32)) dX12_readsStep_126 (by decide) rfl ?_
                refine ax_isub (pc' := 128) dX12_readsStep_127 rfl ?_
                refine ay_V2 (pc' := 131) (ce' := 0) (sl' := 0) (mc2 := 0) (ms2 := 0) (I2 := i_X12_number) dX12_readsStep_128 ml_X12_166 sh_69 (by decide) rfl rfl rfl rfl rfl rfl rfl rfl rfl (ac_M.imp (o_X12_number _ (0 : Int32) (((ac_u s107 (476 + (s42 69 28).toNatClampNeg) (2 : Int32).toNatClampNeg r107) 73 (0 : Int32).toNatClampNeg) - (1 : Int32)) H) ?_)
                rintro _ _ ⟨r128, s128, rfl, rfl, H⟩
                refine ax_iast (pc' := 132) dX12_readsStep_131 (sh_r_476 _ (ac_lt hj53)) (ac_in (by decide)) (sh_n_476 _ (ac_lt hj53)) rfl ?_
                refine ax_aload_n (pc' := 133) dX12_readsStep_132 rfl rfl ?_
                refine ax_iconst (pc' := 134) (v := (2 : Int32)) dX12_readsStep_133 (by decide) rfl ?_
                refine ax_aload_n (pc' := 135) dX12_readsStep_134 rfl rfl ?_
                refine ax_iconst (pc' := 136) (v := (1 : Int32)) dX12_readsStep_135 (by decide) rfl ?_
                refine ax_bipush (pc' := 138) (v := (60 : Int32)) dX12_readsStep_136 (by decide) rfl ?_
                refine ay_V2 (pc' := 141) (ce' := 0) (sl' := 0) (mc2 := 0) (ms2 := 0) (I2 := i_X12_number) dX12_readsStep_138 ml_X12_166 sh_69 (by decide) rfl rfl rfl rfl rfl rfl rfl rfl rfl (ac_M.imp (o_X12_number _ (1 : Int32) (60 : Int32) H) ?_)
                rintro _ _ ⟨r138, s138, rfl, rfl, H⟩
                refine ax_iast (pc' := 142) dX12_readsStep_141 (sh_r_476 _ (ac_lt hj53)) (ac_in (by decide)) (sh_n_476 _ (ac_lt hj53)) rfl ?_
                refine ax_iload_n (pc' := 143) dX12_readsStep_142 rfl rfl ?_
                refine ax_bipush (pc' := 145) (v := (6 : Int32)) dX12_readsStep_143 (by decide) rfl ?_
                refine ax_icmp_ne (pc' := 148) (tgt := 215) dX12_readsStep_145 (by decide) rfl (fun hc145 => ?_) (fun hc145 => ?_)
                · have H := H.1 hc145
                  refine ax_aload_n (pc' := 216) dX12_readsStep_215 rfl rfl ?_
                  refine ax_iconst (pc' := 217) (v := (3 : Int32)) dX12_readsStep_216 (by decide) rfl ?_
                  refine ax_aload_n (pc' := 218) dX12_readsStep_217 rfl rfl ?_
                  refine ax_getI (pc' := 221) dX12_readsStep_218 fl_X12_260 sh_69 rfl rfl rfl ?_
                  refine ax_iast (pc' := 222) dX12_readsStep_221 (sh_r_476 _ (ac_lt hj53)) (ac_in (by decide)) (sh_n_476 _ (ac_lt hj53)) rfl ?_
                  refine ax_aload_n (pc' := 223) dX12_readsStep_222 rfl rfl ?_
                  refine ax_bipush (pc' := 225) (v := (59 : Int32)) dX12_readsStep_223 (by decide) rfl ?_
                  refine ay_V1 (pc' := 228) (ce' := 0) (sl' := 0) (mc2 := 0) (ms2 := 0) (I2 := i_X12_sign) dX12_readsStep_225 ml_X12_179 sh_69 (by decide) rfl rfl rfl rfl rfl rfl rfl rfl rfl (ac_M.imp (o_X12_sign _ (59 : Int32) H) ?_)
                  rintro _ _ ⟨s225, rfl, rfl, H⟩
                  exact ax_vret dX12_readsStep_228 rfl rfl rfl ⟨_, rfl, rfl, H⟩
                · have H := H.2 hc145
                  refine ax_aload_n (pc' := 149) dX12_readsStep_148 rfl rfl ?_
                  refine ax_iconst (pc' := 150) (v := (1 : Int32)) dX12_readsStep_149 (by decide) rfl ?_
                  refine ax_aload_n (pc' := 151) dX12_readsStep_150 rfl rfl ?_
                  refine ax_iconst (pc' := 152) (v := (0 : Int32)) dX12_readsStep_151 (by decide) rfl ?_
                  refine ax_bipush (pc' := 154) (v := (60 : Int32)) dX12_readsStep_152 (by decide) rfl ?_
                  refine ay_V2 (pc' := 157) (ce' := 0) (sl' := 0) (mc2 := 0) (ms2 := 0) (I2 := i_X12_number) dX12_readsStep_154 ml_X12_166 sh_69 (by decide) rfl rfl rfl rfl rfl rfl rfl rfl rfl (ac_M.imp (o_X12_number _ (0 : Int32) (60 : Int32) H) ?_)
                  rintro _ _ ⟨r154, s154, rfl, rfl, H⟩
                  refine ax_iast (pc' := 158) dX12_readsStep_157 (sh_r_476 _ (ac_lt hj53)) (ac_in (by decide)) (sh_n_476 _ (ac_lt hj53)) rfl ?_
                  refine ax_aload_n (pc' := 159) dX12_readsStep_158 rfl rfl ?_
                  refine ax_bipush (pc' := 161) (v := (91 : Int32)) dX12_readsStep_159 (by decide) rfl ?_
                  refine ay_V1 (pc' := 164) (ce' := 0) (sl' := 0) (mc2 := 0) (ms2 := 0) (I2 := i_X12_sign) dX12_readsStep_161 ml_X12_179 sh_69 (by decide) rfl rfl rfl rfl rfl rfl rfl rfl rfl (ac_M.imp (o_X12_sign _ (91 : Int32) H) ?_)
                  rintro _ _ ⟨s161, rfl, rfl, H⟩
                  refine ax_aload_n (pc' := 165) dX12_readsStep_164 rfl rfl ?_
                  refine ay_V0 (pc' := 168) (ce' := 0) (sl' := 0) (mc2 := 0) (ms2 := 0) (I2 := i_X12_blanks) dX12_readsStep_165 ml_X12_126 sh_69 (by decide) rfl rfl rfl rfl rfl rfl rfl rfl rfl (ac_M.imp (o_X12_blanks _  H) ?_)
                  rintro _ _ ⟨s165, rfl, rfl, H⟩
                  refine ax_drop 1 rfl ?_
                  refine ol_X12_readsStep_168 d  hRr  _ (sh_r_476 _ (ac_lt hj53)) (sh_n_476 _ (ac_lt hj53))  H
          · have H := H.2 hc71
            refine ax_aload_n (pc' := 75) dX12_readsStep_74 rfl rfl ?_
            refine ax_iconst (pc' := 76) (v := (1 : Int32)) dX12_readsStep_75 (by decide) rfl ?_
            refine ax_aload_n (pc' := 77) dX12_readsStep_76 rfl rfl ?_
            refine ax_iconst (pc' := 78) (v := (0 : Int32)) dX12_readsStep_77 (by decide) rfl ?_
            refine ax_aload_n (pc' := 79) dX12_readsStep_78 rfl rfl ?_
            refine ax_getR (pc' := 82) dX12_readsStep_79 fl_X12_23 sh_69 rfl rfl rfl ?_
            refine ax_iconst (pc' := 83) (v := (1 : Int32)) dX12_readsStep_82 (by decide) rfl ?_
            refine ax_iald (pc' := 84) dX12_readsStep_83 sh_73 (ac_in (by decide)) rfl rfl ?_
            refine ax_iconst (pc' := 85) (v := (1 : Int32)) dX12_readsStep_84 (by decide) rfl ?_
            refine ax_isub (pc' := 86) dX12_readsStep_85 rfl ?_
            refine ay_V2 (pc' := 89) (ce' := 0) (sl' := 0) (mc2 := 0) (ms2 := 0) (I2 := i_X12_number) dX12_readsStep_86 ml_X12_166 sh_69 (by decide) rfl rfl rfl rfl rfl rfl rfl rfl rfl (ac_M.imp (o_X12_number _ (0 : Int32) (((ac_u (ac_u s42 69 28 ((s42 69 28) + (1 : Int32))) (476 + (s42 69 28).toNatClampNeg) (0 : Int32).toNatClampNeg r1) 73 (1 : Int32).toNatClampNeg) - (1 : Int32)) H) ?_)
            rintro _ _ ⟨r86, s86, rfl, rfl, H⟩
            refine ax_iast (pc' := 90) dX12_readsStep_89 (sh_r_476 _ (ac_lt hj53)) (ac_in (by decide)) (sh_n_476 _ (ac_lt hj53)) rfl ?_
            refine ax_iload_n (pc' := 91) dX12_readsStep_90 rfl rfl ?_
            refine ax_iconst (pc' := 92) (v := (1 : Int32)) dX12_readsStep_91 (by decide) rfl ?_
            refine ax_icmp_ne (pc' := 95) (tgt := 111) dX12_readsStep_92 (by decide) rfl (fun hc92 => ?_) (fun hc92 => ?_)
            · have H := H.1 hc92
              refine ax_iload_n (pc' := 112) dX12_readsStep_111 rfl rfl ?_
              refine ax_iconst (pc' := 113) (v := (4 : Int32)) dX12_readsStep_112 (by decide) rfl ?_
              refine ax_icmp_ne (pc' := 116) (tgt := 142) dX12_readsStep_113 (by decide) rfl (fun hc113 => ?_) (fun hc113 => ?_)
              · have H := H.1 hc113
                refine ax_iload_n (pc' := 143) dX12_readsStep_142 rfl rfl ?_
                refine ax_bipush (pc' := 145) (v := (6 : Int32)) dX12_readsStep_143 (by decide) rfl ?_
                refine ax_icmp_ne (pc' := 148) (tgt := 215) dX12_readsStep_145 (by decide) rfl (fun hc145 => ?_) (fun hc145 => ?_)
                · have H := H.1 hc145
                  refine ax_aload_n (pc' := 216) dX12_readsStep_215 rfl rfl ?_
                  refine ax_iconst (pc' := 217) (v := (3 : Int32)) dX12_readsStep_216 (by decide) rfl ?_
                  refine ax_aload_n (pc' := 218) dX12_readsStep_217 rfl rfl ?_
                  refine ax_getI (pc' := 221) dX12_readsStep_218 fl_X12_260 sh_69 rfl rfl rfl ?_
                  refine ax_iast (pc' := 222) dX12_readsStep_221 (sh_r_476 _ (ac_lt hj53)) (ac_in (by decide)) (sh_n_476 _ (ac_lt hj53)) rfl ?_
                  refine ax_aload_n (pc' := 223) dX12_readsStep_222 rfl rfl ?_
                  refine ax_bipush (pc' := 225) (v := (59 : Int32)) dX12_readsStep_223 (by decide) rfl ?_
                  refine ay_V1 (pc' := 228) (ce' := 0) (sl' := 0) (mc2 := 0) (ms2 := 0) (I2 := i_X12_sign) dX12_readsStep_225 ml_X12_179 sh_69 (by decide) rfl rfl rfl rfl rfl rfl rfl rfl rfl (ac_M.imp (o_X12_sign _ (59 : Int32) H) ?_)
                  rintro _ _ ⟨s225, rfl, rfl, H⟩
                  exact ax_vret dX12_readsStep_228 rfl rfl rfl ⟨_, rfl, rfl, H⟩
                · have H := H.2 hc145
                  refine ax_aload_n (pc' := 149) dX12_readsStep_148 rfl rfl ?_
                  refine ax_iconst (pc' := 150) (v := (1 : Int32)) dX12_readsStep_149 (by decide) rfl ?_
                  refine ax_aload_n (pc' := 151) dX12_readsStep_150 rfl rfl ?_
                  refine ax_iconst (pc' := 152) (v := (0 : Int32)) dX12_readsStep_151 (by decide) rfl ?_
                  refine ax_bipush (pc' := 154) (v := (60 : Int32)) dX12_readsStep_152 (by decide) rfl ?_
                  refine ay_V2 (pc' := 157) (ce' := 0) (sl' := 0) (mc2 := 0) (ms2 := 0) (I2 := i_X12_number) dX12_readsStep_154 ml_X12_166 sh_69 (by decide) rfl rfl rfl rfl rfl rfl rfl rfl rfl (ac_M.imp (o_X12_number _ (0 : Int32) (60 : Int32) H) ?_)
                  rintro _ _ ⟨r154, s154, rfl, rfl, H⟩
                  refine ax_iast (pc' := 158) dX12_readsStep_157 (sh_r_476 _ (ac_lt hj53)) (ac_in (by decide)) (sh_n_476 _ (ac_lt hj53)) rfl ?_
                  refine ax_aload_n (pc' := 159) dX12_readsStep_158 rfl rfl ?_
                  refine ax_bipush (pc' := 161) (v := (91 : Int32)) dX12_readsStep_159 (by decide) rfl ?_
                  refine ay_V1 (pc' := 164) (ce' := 0) (sl' := 0) (mc2 := 0) (ms2 := 0) (I2 := i_X12_sign) dX12_readsStep_161 ml_X12_179 sh_69 (by decide) rfl rfl rfl rfl rfl rfl rfl rfl rfl (ac_M.imp (o_X12_sign _ (91 : Int32) H) ?_)
                  rintro _ _ ⟨s161, rfl, rfl, H⟩
                  refine ax_aload_n (pc' := 165) dX12_readsStep_164 rfl rfl ?_
                  refine ay_V0 (pc' := 168) (ce' := 0) (sl' := 0) (mc2 := 0) (ms2 := 0) (I2 := i_X12_blanks) dX12_readsStep_165 ml_X12_126 sh_69 (by decide) rfl rfl rfl rfl rfl rfl rfl rfl rfl (ac_M.imp (o_X12_blanks _  H) ?_)
                  rintro _ _ ⟨s165, rfl, rfl, H⟩
                  refine ax_drop 1 rfl ?_
                  refine ol_X12_readsStep_168 d  hRr  _ (sh_r_476 _ (ac_lt hj53)) (sh_n_476 _ (ac_lt hj53))  H
              · have H := H.2 hc113
                refine ax_aload_n (pc' := 117) dX12_readsStep_116 rfl rfl ?_
                refine ax_iconst (pc' := 118) (v := (1 : Int32)) dX12_readsStep_117 (by decide) rfl ?_
                refine ax_aload_n (pc' := 119) dX12_readsStep_118 rfl rfl ?_
                refine ax_iconst (pc' := 120) (v := (0 : Int32)) dX12_readsStep_119 (by decide) rfl ?_
                refine ax_aload_n (pc' := 121) dX12_readsStep_120 rfl rfl ?_
                refine ax_getR (pc' := 124) dX12_readsStep_121 fl_X12_23 sh_69 rfl rfl rfl ?_
                refine ax_iconst (pc' := 125) (v := (0 : Int32)) dX12_readsStep_124 (by decide) rfl ?_
                refine ax_iald (pc' := 126) dX12_readsStep_125 sh_73 (ac_in (by decide)) rfl rfl ?_
                refine ax_iconst (pc' := 127) (v := (1 : Int32)) dX12_readsStep_126 (by decide) rfl ?_
                refine ax_isub (pc' := 128) dX12_readsStep_127 rfl ?_
                refine ay_V2 (pc' := 131) (ce' := 0) (sl' := 0) (mc2 := 0) (ms2 := 0) (I2 := i_X12_number) dX12_readsStep_128 ml_X12_166 sh_69 (by decide) rfl rfl rfl rfl rfl rfl rfl rfl rfl (ac_M.imp (o_X12_number _ (0 : Int32) (((ac_u s86 (476 + (s42 69 28).toNatClampNeg) (1 : Int32).toNatClampNeg r86) 73 (0 : Int32).toNatClampNeg) - (1 : Int32)) H) ?_)
                rintro _ _ ⟨r128, s128, rfl, rfl, H⟩
                refine ax_iast (pc' := 132) dX12_readsStep_131 (sh_r_476 _ (ac_lt hj53)) (ac_in (by decide)) (sh_n_476 _ (ac_lt hj53)) rfl ?_
                refine ax_aload_n (pc' := 133) dX12_readsStep_132 rfl rfl ?_
                refine ax_iconst (pc' := 134) (v := (2 : Int32)) dX12_readsStep_133 (by decide) rfl ?_
                refine ax_aload_n (pc' := 135) dX12_readsStep_134 rfl rfl ?_
                refine ax_iconst (pc' := 136) (v := (1 : Int32)) dX12_readsStep_135 (by decide) rfl ?_
                refine ax_bipush (pc' := 138) (v := (60 : Int32)) dX12_readsStep_136 (by decide) rfl ?_
                refine ay_V2 (pc' := 141) (ce' := 0) (sl' := 0) (mc2 := 0) (ms2 := 0) (I2 := i_X12_number) dX12_readsStep_138 ml_X12_166 sh_69 (by decide) rfl rfl rfl rfl rfl rfl rfl rfl rfl (ac_M.imp (o_X12_number _ (1 : Int32) (60 : Int32) H) ?_)
                rintro _ _ ⟨r138, s138, rfl, rfl, H⟩
                refine ax_iast (pc' := 142) dX12_readsStep_141 (sh_r_476 _ (ac_lt hj53)) (ac_in (by decide)) (sh_n_476 _ (ac_lt hj53)) rfl ?_
                refine ax_iload_n (pc' := 143) dX12_readsStep_142 rfl rfl ?_
                refine ax_bipush (pc' := 145) (v := (6 : Int32)) dX12_readsStep_143 (by decide) rfl ?_
                refine ax_icmp_ne (pc' := 148) (tgt := 215) dX12_readsStep_145 (by decide) rfl (fun hc145 => ?_) (fun hc145 => ?_)
                · have H := H.1 hc145
                  refine ax_aload_n (pc' := 216) dX12_readsStep_215 rfl rfl ?_
                  refine ax_iconst (pc' := 217) (v := (3 : Int32)) dX12_readsStep_216 (by decide) rfl ?_
                  refine ax_aload_n (pc' := 218) dX12_readsStep_217 rfl rfl ?_
                  refine ax_getI (pc' := 221) dX12_readsStep_218 fl_X12_260 sh_69 rfl rfl rfl ?_
                  refine ax_iast (pc' := 222) dX12_readsStep_221 (sh_r_476 _ (ac_lt hj53)) (ac_in (by decide)) (sh_n_476 _ (ac_lt hj53)) rfl ?_
                  refine ax_aload_n (pc' := 223) dX12_readsStep_222 rfl rfl ?_
                  refine ax_bipush (pc' := 225) (v := (59 : Int32)) dX12_readsStep_223 (by decide) rfl ?_
                  refine ay_V1 (pc' := 228) (ce' := 0) (sl' := 0) (mc2 := 0) (ms2 := 0) (I2 := i_X12_sign) dX12_readsStep_225 ml_X12_179 sh_69 (by decide) rfl rfl rfl rfl rfl rfl rfl rfl rfl (ac_M.imp (o_X12_sign _ (59 : Int32) H) ?_)
                  rintro _ _ ⟨s225, rfl, rfl, H⟩
                  exact ax_vret dX12_readsStep_228 rfl rfl rfl ⟨_, rfl, rfl, H⟩
                · have H := H.2 hc145
                  refine ax_aload_n (pc' := 149) dX12_readsStep_148 rfl rfl ?_
                  refine ax_iconst (pc' := 150) (v := (1 : Int32)) dX12_readsStep_149 (by decide) rfl ?_
                  refine ax_aload_n (pc' := 151) dX12_readsStep_150 rfl rfl ?_
                  refine ax_iconst (pc' := 152) (v := (0 : Int32)) dX12_readsStep_151 (by decide) rfl ?_
                  refine ax_bipush (pc' := 154) (v := (60 : Int32)) dX12_readsStep_152 (by decide) rfl ?_
                  refine ay_V2 (pc' := 157) (ce' := 0) (sl' := 0) (mc2 := 0) (ms2 := 0) (I2 := i_X12_number) dX12_readsStep_154 ml_X12_166 sh_69 (by decide) rfl rfl rfl rfl rfl rfl rfl rfl rfl (ac_M.imp (o_X12_number _ (0 : Int32) (60 : Int32) H) ?_)
                  rintro _ _ ⟨r154, s154, rfl, rfl, H⟩
                  refine ax_iast (pc' := 158) dX12_readsStep_157 (sh_r_476 _ (ac_lt hj53)) (ac_in (by decide)) (sh_n_476 _ (ac_lt hj53)) rfl ?_
                  refine ax_aload_n (pc' := 159) dX12_readsStep_158 rfl rfl ?_
                  refine ax_bipush (pc' := 161) (v := (91 : Int32)) dX12_readsStep_159 (by decide) rfl ?_
                  refine ay_V1 (pc' := 164) (ce' := 0) (sl' := 0) (mc2 := 0) (ms2 := 0) (I2 := i_X12_sign) dX12_readsStep_161 ml_X12_179 sh_69 (by decide) rfl rfl rfl rfl rfl rfl rfl rfl rfl (ac_M.imp (o_X12_sign _ (91 : Int32) H) ?_)
                  rintro _ _ ⟨s161, rfl, rfl, H⟩
                  refine ax_aload_n (pc' := 165) dX12_readsStep_164 rfl rfl ?_
                  refine ay_V0 (pc' := 168) (ce' := 0) (sl' := 0) (mc2 := 0) (ms2 := 0) (I2 := i_X12_blanks) dX12_readsStep_165 ml_X12_126 sh_69 (by decide) rfl rfl rfl rfl rfl rfl rfl rfl rfl (ac_M.imp (o_X12_blanks _  H) ?_)
                  rintro _ _ ⟨s165, rfl, rfl, H⟩
                  refine ax_drop 1 rfl ?_
                  refine ol_X12_readsStep_168 d  hRr  _ (sh_r_476 _ (ac_lt hj53)) (sh_n_476 _ (ac_lt hj53))  H
            · have H := H.2 hc92
              refine ax_aload_n (pc' := 96) dX12_readsStep_95 rfl rfl ?_
              refine ax_iconst (pc' := 97) (v := (2 : Int32)) dX12_readsStep_96 (by decide) rfl ?_
              refine ax_aload_n (pc' := 98) dX12_readsStep_97 rfl rfl ?_
              refine ax_iconst (pc' := 99) (v := (0 : Int32)) dX12_readsStep_98 (by decide) rfl ?_
              refine ax_aload_n (pc' := 100) dX12_readsStep_99 rfl rfl ?_
              refine ax_getR (pc' := 103) dX12_readsStep_100 fl_X12_23 sh_69 rfl rfl rfl ?_
              refine ax_iconst (pc' := 104) (v := (0 : Int32)) dX12_readsStep_103 (by decide) rfl ?_
              refine ax_iald (pc' := 105) dX12_readsStep_104 sh_73 (ac_in (by decide)) rfl rfl ?_
              refine ax_iconst (pc' := 106) (v := (1 : Int32)) dX12_readsStep_105 (by decide) rfl ?_
              refine ax_isub (pc' := 107) dX12_readsStep_106 rfl ?_
              refine ay_V2 (pc' := 110) (ce' := 0) (sl' := 0) (mc2 := 0) (ms2 := 0) (I2 := i_X12_number) dX12_readsStep_107 ml_X12_166 sh_69 (by decide) rfl rfl rfl rfl rfl rfl rfl rfl rfl (ac_M.imp (o_X12_number _ (0 : Int32) (((ac_u s86 (476 + (s42 69 28).toNatClampNeg) (1 : Int32).toNatClampNeg r86) 73 (0 : Int32).toNatClampNeg) - (1 : Int32)) H) ?_)
              rintro _ _ ⟨r107, s107, rfl, rfl, H⟩
              refine ax_iast (pc' := 111) dX12_readsStep_110 (sh_r_476 _ (ac_lt hj53)) (ac_in (by decide)) (sh_n_476 _ (ac_lt hj53)) rfl ?_
              refine ax_iload_n (pc' := 112) dX12_readsStep_111 rfl rfl ?_
              refine ax_iconst (pc' := 113) (v := (4 : Int32)) dX12_readsStep_112 (by decide) rfl ?_
              refine ax_icmp_ne (pc' := 116) (tgt := 142) dX12_readsStep_113 (by decide) rfl (fun hc113 => ?_) (fun hc113 => ?_)
              · have H := H.1 hc113
                refine ax_iload_n (pc' := 143) dX12_readsStep_142 rfl rfl ?_
                refine ax_bipush (pc' := 145) (v := (6 : Int32)) dX12_readsStep_143 (by decide) rfl ?_
                refine ax_icmp_ne (pc' := 148) (tgt := 215) dX12_readsStep_145 (by decide) rfl (fun hc145 => ?_) (fun hc145 => ?_)
                · have H := H.1 hc145
                  refine ax_aload_n (pc' := 216) dX12_readsStep_215 rfl rfl ?_
                  refine ax_iconst (pc' := 217) (v := (3 : Int32)) dX12_readsStep_216 (by decide) rfl ?_
                  refine ax_aload_n (pc' := 218) dX12_readsStep_217 rfl rfl ?_
                  refine ax_getI (pc' := 221) dX12_readsStep_218 fl_X12_260 sh_69 rfl rfl rfl ?_
                  refine ax_iast (pc' := 222) dX12_readsStep_221 (sh_r_476 _ (ac_lt hj53)) (ac_in (by decide)) (sh_n_476 _ (ac_lt hj53)) rfl ?_
                  refine ax_aload_n (pc' := 223) dX12_readsStep_222 rfl rfl ?_
                  refine ax_bipush (pc' := 225) (v := (59 : Int32)) dX12_readsStep_223 (by decide) rfl ?_
                  refine ay_V1 (pc' := 228) (ce' := 0) (sl' := 0) (mc2 := 0) (ms2 := 0) (I2 := i_X12_sign) dX12_readsStep_225 ml_X12_179 sh_69 (by decide) rfl rfl rfl rfl rfl rfl rfl rfl rfl (ac_M.imp (o_X12_sign _ (59 : Int32) H) ?_)
                  rintro _ _ ⟨s225, rfl, rfl, H⟩
                  exact ax_vret dX12_readsStep_228 rfl rfl rfl ⟨_, rfl, rfl, H⟩
                · have H := H.2 hc145
                  refine ax_aload_n (pc' := 149) dX12_readsStep_148 rfl rfl ?_
                  refine ax_iconst (pc' := 150) (v := (1 : Int32)) dX12_readsStep_149 (by decide) rfl ?_
                  refine ax_aload_n (pc' := 151) dX12_readsStep_150 rfl rfl ?_
                  refine ax_iconst (pc' := 152) (v := (0 : Int32)) dX12_readsStep_151 (by decide) rfl ?_
                  refine ax_bipush (pc' := 154) (v := (60 : Int32)) dX12_readsStep_152 (by decide) rfl ?_
                  refine ay_V2 (pc' := 157) (ce' := 0) (sl' := 0) (mc2 := 0) (ms2 := 0) (I2 := i_X12_number) dX12_readsStep_154 ml_X12_166 sh_69 (by decide) rfl rfl rfl rfl rfl rfl rfl rfl rfl (ac_M.imp (o_X12_number _ (0 : Int32) (60 : Int32) H) ?_)
                  rintro _ _ ⟨r154, s154, rfl, rfl, H⟩
                  refine ax_iast (pc' := 158) dX12_readsStep_157 (sh_r_476 _ (ac_lt hj53)) (ac_in (by decide)) (sh_n_476 _ (ac_lt hj53)) rfl ?_
                  refine ax_aload_n (pc' := 159) dX12_readsStep_158 rfl rfl ?_
                  refine ax_bipush (pc' := 161) (v := (91 : Int32)) dX12_readsStep_159 (by decide) rfl ?_
                  refine ay_V1 (pc' := 164) (ce' := 0) (sl' := 0) (mc2 := 0) (ms2 := 0) (I2 := i_X12_sign) dX12_readsStep_161 ml_X12_179 sh_69 (by decide) rfl rfl rfl rfl rfl rfl rfl rfl rfl (ac_M.imp (o_X12_sign _ (91 : Int32) H) ?_)
                  rintro _ _ ⟨s161, rfl, rfl, H⟩
                  refine ax_aload_n (pc' := 165) dX12_readsStep_164 rfl rfl ?_
                  refine ay_V0 (pc' := 168) (ce' := 0) (sl' := 0) (mc2 := 0) (ms2 := 0) (I2 := i_X12_blanks) dX12_readsStep_165 ml_X12_126 sh_69 (by decide) rfl rfl rfl rfl rfl rfl rfl rfl rfl (ac_M.imp (o_X12_blanks _  H) ?_)
                  rintro _ _ ⟨s165, rfl, rfl, H⟩
                  refine ax_drop 1 rfl ?_
                  refine ol_X12_readsStep_168 d  hRr  _ (sh_r_476 _ (ac_lt hj53)) (sh_n_476 _ (ac_lt hj53))  H
              · have H := H.2 hc113
                refine ax_aload_n (pc' := 117) dX12_readsStep_116 rfl rfl ?_
                refine ax_iconst (pc' := 118) (v := (1 : Int32)) dX12_readsStep_117 (by decide) rfl ?_
                refine ax_aload_n (pc' := 119) dX12_readsStep_118 rfl rfl ?_
                refine ax_iconst (pc' := 120) (v := (0 : Int32)) dX12_readsStep_119 (by decide) rfl ?_
                refine ax_aload_n (pc' := 121) dX12_readsStep_120 rfl rfl ?_
                refine ax_getR (pc' := 124) dX12_readsStep_121 fl_X12_23 sh_69 rfl rfl rfl ?_
                refine ax_iconst (pc' := 125) (v := (0 : Int32)) dX12_readsStep_124 (by decide) rfl ?_
                refine ax_iald (pc' := 126) dX12_readsStep_125 sh_73 (ac_in (by decide)) rfl rfl ?_
                refine ax_iconst (pc' := 127) (v := (1 : Int32)) dX12_readsStep_126 (by decide) rfl ?_
                refine ax_isub (pc' := 128) dX12_readsStep_127 rfl ?_
                refine ay_V2 (pc' := 131) (ce' := 0) (sl' := 0) (mc2 := 0) (ms2 := 0) (I2 := i_X12_number) dX12_readsStep_128 ml_X12_166 sh_69 (by decide) rfl rfl rfl rfl rfl rfl rfl rfl rfl (ac_M.imp (o_X12_number _ (0 : Int32) (((ac_u s107 (476 + (s42 69 28).toNatClampNeg) (2 : Int32).toNatClampNeg r107) 73 (0 : Int32).toNatClampNeg) - (1 : Int32)) H) ?_)
                rintro _ _ ⟨r128, s128, rfl, rfl, H⟩
                refine ax_iast (pc' := 132) dX12_readsStep_131 (sh_r_476 _ (ac_lt hj53)) (ac_in (by decide)) (sh_n_476 _ (ac_lt hj53)) rfl ?_
                refine ax_aload_n (pc' := 133) dX12_readsStep_132 rfl rfl ?_
                refine ax_iconst (pc' := 134) (v := (2 : Int32)) dX12_readsStep_133 (by decide) rfl ?_
                refine ax_aload_n (pc' := 135) dX12_readsStep_134 rfl rfl ?_
                refine ax_iconst (pc' := 136) (v := (1 : Int32)) dX12_readsStep_135 (by decide) rfl ?_
                refine ax_bipush (pc' := 138) (v := (60 : Int32)) dX12_readsStep_136 (by decide) rfl ?_
                refine ay_V2 (pc' := 141) (ce' := 0) (sl' := 0) (mc2 := 0) (ms2 := 0) (I2 := i_X12_number) dX12_readsStep_138 ml_X12_166 sh_69 (by decide) rfl rfl rfl rfl rfl rfl rfl rfl rfl (ac_M.imp (o_X12_number _ (1 : Int32) (60 : Int32) H) ?_)
                rintro _ _ ⟨r138, s138, rfl, rfl, H⟩
                refine ax_iast (pc' := 142) dX12_readsStep_141 (sh_r_476 _ (ac_lt hj53)) (ac_in (by decide)) (sh_n_476 _ (ac_lt hj53)) rfl ?_
                refine ax_iload_n (pc' := 143) dX12_readsStep_142 rfl rfl ?_
                refine ax_bipush (pc' := 145) (v := (6 : Int32)) dX12_readsStep_143 (by decide) rfl ?_
                refine ax_icmp_ne (pc' := 148) (tgt := 215) dX12_readsStep_145 (by decide) rfl (fun hc145 => ?_) (fun hc145 => ?_)
                · have H := H.1 hc145
                  refine ax_aload_n (pc' := 216) dX12_readsStep_215 rfl rfl ?_
                  refine ax_iconst (pc' := 217) (v := (3 : Int32)) dX12_readsStep_216 (by decide) rfl ?_
                  refine ax_aload_n (pc' := 218) dX12_readsStep_217 rfl rfl ?_
                  refine ax_getI (pc' := 221) dX12_readsStep_218 fl_X12_260 sh_69 rfl rfl rfl ?_
                  refine ax_iast (pc' := 222) dX12_readsStep_221 (sh_r_476 _ (ac_lt hj53)) (ac_in (by decide)) (sh_n_476 _ (ac_lt hj53)) rfl ?_
                  refine ax_aload_n (pc' := 223) dX12_readsStep_222 rfl rfl ?_
                  refine ax_bipush (pc' := 225) (v := (59 : Int32)) dX12_readsStep_223 (by decide) rfl ?_
                  refine ay_V1 (pc' := 228) (ce' := 0) (sl' := 0) (mc2 := 0) (ms2 := 0) (I2 := i_X12_sign) dX12_readsStep_225 ml_X12_179 sh_69 (by decide) rfl rfl rfl rfl rfl rfl rfl rfl rfl (ac_M.imp (o_X12_sign _ (59 : Int32) H) ?_)
                  rintro _ _ ⟨s225, rfl, rfl, H⟩
                  exact ax_vret dX12_readsStep_228 rfl rfl rfl ⟨_, rfl, rfl, H⟩
                · have H := H.2 hc145
                  refine ax_aload_n (pc' := 149) dX12_readsStep_148 rfl rfl ?_
                  refine ax_iconst (pc' := 150) (v := (1 : Int32)) dX12_readsStep_149 (by decide) rfl ?_
                  refine ax_aload_n (pc' := 151) dX12_readsStep_150 rfl rfl ?_
                  refine ax_iconst (pc' := 152) (v := (0 : Int32)) dX12_readsStep_151 (by decide) rfl ?_
                  refine ax_bipush (pc' := 154) (v := (60 : Int32)) dX12_readsStep_152 (by decide) rfl ?_
                  refine ay_V2 (pc' := 157) (ce' := 0) (sl' := 0) (mc2 := 0) (ms2 := 0) (I2 := i_X12_number) dX12_readsStep_154 ml_X12_166 sh_69 (by decide) rfl rfl rfl rfl rfl rfl rfl rfl rfl (ac_M.imp (o_X12_number _ (0 : Int32) (60 : Int32) H) ?_)
                  rintro _ _ ⟨r154, s154, rfl, rfl, H⟩
                  refine ax_iast (pc' := 158) dX12_readsStep_157 (sh_r_476 _ (ac_lt hj53)) (ac_in (by decide)) (sh_n_476 _ (ac_lt hj53)) rfl ?_
                  refine ax_aload_n (pc' := 159) dX12_readsStep_158 rfl rfl ?_
                  refine ax_bipush (pc' := 161) (v := (91 : Int32)) dX12_readsStep_159 (by decide) rfl ?_
                  refine ay_V1 (pc' := 164) (ce' := 0) (sl' := 0) (mc2 := 0) (ms2 := 0) (I2 := i_X12_sign) dX12_readsStep_161 ml_X12_179 sh_69 (by decide) rfl rfl rfl rfl rfl rfl rfl rfl rfl (ac_M.imp (o_X12_sign _ (91 : Int32) H) ?_)
                  rintro _ _ ⟨s161, rfl, rfl, H⟩
                  refine ax_aload_n (pc' := 165) dX12_readsStep_164 rfl rfl ?_
                  refine ay_V0 (pc' := 168) (ce' := 0) (sl' := 0) (mc2 := 0) (ms2 := 0) (I2 := i_X12_blanks) dX12_readsStep_165 ml_X12_126 sh_69 (by decide) rfl rfl rfl rfl rfl rfl rfl rfl rfl (ac_M.imp (o_X12_blanks _  H) ?_)
                  rintro _ _ ⟨s165, rfl, rfl, H⟩
                  refine ax_drop 1 rfl ?_
                  refine ol_X12_readsStep_168 d  hRr  _ (sh_r_476 _ (ac_lt hj53)) (sh_n_476 _ (ac_lt hj53))  H
        · have H := H.2 hc37
          exact ax_vret dX12_readsStep_40 rfl rfl rfl ⟨_, rfl, rfl, H⟩
      · have H := H.2 hc29
        exact ax_vret dX12_readsStep_32 rfl rfl rfl ⟨_, rfl, rfl, H⟩
theorem tok_X12_readsStep {g : ac_G} {τ : Nat → Nat → Int64} : ∀ (k d e : Nat)  (Q : ac_m → Prop) (s : ac_m), tk_X12_readsStep k  Q s → ac_M g i_X12_readsStep (d + k * 5 + e) 0 0 [.ref 69] (false, 586, SH, s, τ) (liV τ Q)
  | 0, d, e, Q, s, H => H.elim
  | k + 1, d, e, Q, s, H => by
    have h := o_X12_readsStep (g := g) (τ := τ) (d + k * 5 + e)  (fun e'  Q s H' => by
      have h2 := tok_X12_readsStep (g := g) (τ := τ) k d (e + e')  Q s H'
      rwa [show d + k * 5 + (e + e') = d + k * 5 + e + e' by omega] at h2) H
    rwa [show d + k * 5 + e + 5 = d + (k + 1) * 5 + e by omega] at h
theorem to_X12_readsStep {g : ac_G} {τ : Nat → Nat → Int64} (d : Nat)  {Q : ac_m → Prop} {s : ac_m} (H : t_X12_readsStep  Q s) : ac_M g i_X12_readsStep (d + 40) 0 0 [.ref 69] (false, 586, SH, s, τ) (liV τ Q) := tok_X12_readsStep 8 d 0  Q s H
