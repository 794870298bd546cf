theorem o_X3_take {g : ac_G} {τ : Nat → Nat → Int64} (d : Nat)  {Q : ac_m → Prop} {s : ac_m} (H : w_X3_take  Q s) : ac_M g i_X3_take d 0 0 [.ref 3, .ref 14] (false, 586, SH, s, τ) (liV τ Q) := by
  refine ac_ofX (by decide +kernel) rfl rfl rfl ?_
  refine ax_aload_n (pc' := 1) dX3_take_0 rfl rfl ?_
  refine ax_getR (pc' := 4) dX3_take_1 fl_X3_9 sh_14 rfl rfl rfl ?_
  refine ax_iconst (pc' := 5) (v := (0 : Int32)) dX3_take_4 (by decide) rfl ?_
  refine ax_aload_n (pc' := 6) dX3_take_5 rfl rfl ?_
  refine ax_getR (pc' := 9) dX3_take_6 fl_X3_9 sh_3 rfl rfl rfl ?_
  refine ax_iconst (pc' := 10) (v := (0 : Int32)) dX3_take_9 (by decide) rfl ?_
  refine ax_bipush (pc' := 12) (v := (6 : Int32)) dX3_take_10 (by decide) rfl ?_
  refine ax_copy (pc' := 15) dX3_take_12 mj_X3_52 mk_copy.1 mk_copy.2.1 mk_copy.2.2 sh_15 sh_4 rfl rfl (by decide) (by decide) (by decide) (by decide) (by decide) rfl rfl ?_
  refine ax_aload_n (pc' := 16) dX3_take_15 rfl rfl ?_
  refine ax_getR (pc' := 19) dX3_take_16 fl_X3_15 sh_14 rfl rfl rfl ?_
  refine ax_iconst (pc' := 20) (v := (0 : Int32)) dX3_take_19 (by decide) rfl ?_
  refine ax_aload_n (pc' := 21) dX3_take_20 rfl rfl ?_
  refine ax_getR (pc' := 24) dX3_take_21 fl_X3_15 sh_3 rfl rfl rfl ?_
  refine ax_iconst (pc' := 25) (v := (0 : Int32)) dX3_take_24 (by decide) rfl ?_
  refine ax_bipush (pc' := 27) (v := (6 : Int32)) dX3_take_25 (by decide) rfl ?_
  refine ax_copy (pc' := 30) dX3_take_27 mj_X3_52 mk_copy.1 mk_copy.2.1 mk_copy.2.2 sh_16 sh_5 rfl rfl (by decide) (by decide) (by decide) (by decide) (by decide) rfl rfl ?_
  refine ax_aload_n (pc' := 31) dX3_take_30 rfl rfl ?_
  refine ax_getR (pc' := 34) dX3_take_31 fl_X3_18 sh_14 rfl rfl rfl ?_
  refine ax_iconst (pc' := 35) (v := (0 : Int32)) dX3_take_34 (by decide) rfl ?_
  refine ax_aload_n (pc' := 36) dX3_take_35 rfl rfl ?_
  refine ax_getR (pc' := 39) dX3_take_36 fl_X3_18 sh_3 rfl rfl rfl ?_
  refine ax_iconst (pc' := 40) (v := (0 : Int32)) dX3_take_39 (by decide) rfl ?_
  refine ax_bipush (pc' := 42) (v := (13 : Int32)) dX3_take_40 (by decide) rfl ?_
  refine ax_copy (pc' := 45) dX3_take_42 mj_X3_52 mk_copy.1 mk_copy.2.1 mk_copy.2.2 sh_17 sh_6 rfl rfl (by decide) (by decide) (by decide) (by decide) (by decide) rfl rfl ?_
  refine ax_aload_n (pc' := 46) dX3_take_45 rfl rfl ?_
  refine ax_getR (pc' := 49) dX3_take_46 fl_X3_21 sh_14 rfl rfl rfl ?_
  refine ax_iconst (pc' := 50) (v := (0 : Int32)) dX3_take_49 (by decide) rfl ?_
  refine ax_aload_n (pc' := 51) dX3_take_50 rfl rfl ?_
  refine ax_getR (pc' := 54) dX3_take_51 fl_X3_21 sh_3 rfl rfl rfl ?_
  refine ax_iconst (pc' := 55) (v := (0 : Int32)) dX3_take_54 (by decide) rfl ?_
  refine ax_bipush (pc' := 57) (v := (13 : Int32)) dX3_take_55 (by decide) rfl ?_
  refine ax_copy (pc' := 60) dX3_take_57 mj_X3_52 mk_copy.1 mk_copy.2.1 mk_copy.2.2 sh_18 sh_7 rfl rfl (by decide) (by decide) (by decide) (by decide) (by decide) rfl rfl ?_
  refine ax_aload_n (pc' := 61) dX3_take_60 rfl rfl ?_
  refine ax_getR (pc' := 64) dX3_take_61 fl_X3_24 sh_14 rfl rfl rfl ?_
  refine ax_iconst (pc' := 65) (v := (0 : Int32)) dX3_take_64 (by decide) rfl ?_
  refine ax_aload_n (pc' := 66) dX3_take_65 rfl rfl ?_
  refine ax_getR (pc' := 69) dX3_take_66 fl_X3_24 sh_3 rfl rfl rfl ?_
  refine ax_iconst (pc' := 70) (v := (0 : Int32)) dX3_take_69 (by decide) rfl ?_
  refine ax_bipush (pc' := 72) (v := (13 : Int32)) dX3_take_70 (by decide) rfl ?_
  refine ax_copy (pc' := 75) dX3_take_72 mj_X3_52 mk_copy.1 mk_copy.2.1 mk_copy.2.2 sh_19 sh_8 rfl rfl (by decide) (by decide) (by decide) (by decide) (by decide) rfl rfl ?_
  refine ax_aload_n (pc' := 76) dX3_take_75 rfl rfl ?_
  refine ax_getR (pc' := 79) dX3_take_76 fl_X3_27 sh_14 rfl rfl rfl ?_
  refine ax_iconst (pc' := 80) (v := (0 : Int32)) dX3_take_79 (by decide) rfl ?_
  refine ax_aload_n (pc' := 81) dX3_take_80 rfl rfl ?_
  refine ax_getR (pc' := 84) dX3_take_81 fl_X3_27 sh_3 rfl rfl rfl ?_
  refine ax_iconst (pc' := 85) (v := (0 : Int32)) dX3_take_84 (by decide) rfl ?_
  refine ax_bipush (pc' := 87) (v := (13 : Int32)) dX3_take_85 (by decide) rfl ?_
  refine ax_copy (pc' := 90) dX3_take_87 mj_X3_52 mk_copy.1 mk_copy.2.1 mk_copy.2.2 sh_20 sh_9 rfl rfl (by decide) (by decide) (by decide) (by decide) (by decide) rfl rfl ?_
  refine ax_aload_n (pc' := 91) dX3_take_90 rfl rfl ?_
  refine ax_getR (pc' := 94) dX3_take_91 fl_X3_30 sh_14 rfl rfl rfl ?_
  refine ax_iconst (pc' := 95) (v := (0 : Int32)) dX3_take_94 (by decide) rfl ?_
  refine ax_aload_n (pc' := 96) dX3_take_95 rfl rfl ?_
  refine ax_getR (pc' := 99) dX3_take_96 fl_X3_30 sh_3 rfl rfl rfl ?_
  refine ax_iconst (pc' := 100) (v := (0 : Int32)) dX3_take_99 (by decide) rfl ?_
  refine ax_bipush (pc' := 102) (v := (10 : Int32)) dX3_take_100 (by decide) rfl ?_
  refine ax_copy (pc' := 105) dX3_take_102 mj_X3_52 mk_copy.1 mk_copy.2.1 mk_copy.2.2 sh_21 sh_10 rfl rfl (by decide) (by decide) (by decide) (by decide) (by decide) rfl rfl ?_
  refine ax_aload_n (pc' := 106) dX3_take_105 rfl rfl ?_
  refine ax_getR (pc' := 109) dX3_take_106 fl_X3_33 sh_14 rfl rfl rfl ?_
  refine ax_iconst (pc' := 110) (v := (0 : Int32)) dX3_take_109 (by decide) rfl ?_
  refine ax_aload_n (pc' := 111) dX3_take_110 rfl rfl ?_
  refine ax_getR (pc' := 114) dX3_take_111 fl_X3_33 sh_3 rfl rfl rfl ?_
  refine ax_iconst (pc' := 115) (v := (0 : Int32)) dX3_take_114 (by decide) rfl ?_
  refine ax_bipush (pc' := 117) (v := (10 : Int32)) dX3_take_115 (by decide) rfl ?_
  refine ax_copy (pc' := 120) dX3_take_117 mj_X3_52 mk_copy.1 mk_copy.2.1 mk_copy.2.2 sh_22 sh_11 rfl rfl (by decide) (by decide) (by decide) (by decide) (by decide) rfl rfl ?_
  refine ax_aload_n (pc' := 121) dX3_take_120 rfl rfl ?_
  refine ax_getR (pc' := 124) dX3_take_121 fl_X3_36 sh_14 rfl rfl rfl ?_
  refine ax_iconst (pc' := 125) (v := (0 : Int32)) dX3_take_124 (by decide) rfl ?_
  refine ax_aload_n (pc' := 126) dX3_take_125 rfl rfl ?_
  refine ax_getR (pc' := 129) dX3_take_126 fl_X3_36 sh_3 rfl rfl rfl ?_
  refine ax_iconst (pc' := 130) (v := (0 : Int32)) dX3_take_129 (by decide) rfl ?_
  refine ax_bipush (pc' := 132) (v := (10 : Int32)) dX3_take_130 (by decide) rfl ?_
  refine ax_copy (pc' := 135) dX3_take_132 mj_X3_52 mk_copy.1 mk_copy.2.1 mk_copy.2.2 sh_23 sh_12 rfl rfl (by decide) (by decide) (by decide) (by decide) (by decide) rfl rfl ?_
  refine ax_aload_n (pc' := 136) dX3_take_135 rfl rfl ?_
  refine ax_aload_n (pc' := 137) dX3_take_136 rfl rfl ?_
  refine ax_getI (pc' := 140) dX3_take_137 fl_X3_42 sh_14 rfl rfl rfl ?_
  refine ax_putI (pc' := 143) dX3_take_140 fp_X3_42 sh_3 rfl rfl rfl ?_
  refine ax_aload_n (pc' := 144) dX3_take_143 rfl rfl ?_
  refine ax_aload_n (pc' := 145) dX3_take_144 rfl rfl ?_
  refine ax_getI (pc' := 148) dX3_take_145 fl_X3_46 sh_14 rfl rfl rfl ?_
  refine ax_putI (pc' := 151) dX3_take_148 fp_X3_46 sh_3 rfl rfl rfl ?_
  refine ax_aload_n (pc' := 152) dX3_take_151 rfl rfl ?_
  refine ax_aload_n (pc' := 153) dX3_take_152 rfl rfl ?_
  refine ax_getI (pc' := 156) dX3_take_153 fl_X3_49 sh_14 rfl rfl rfl ?_
  refine ax_putI (pc' := 159) dX3_take_156 fp_X3_49 sh_3 rfl rfl rfl ?_
  exact ax_vret dX3_take_159 rfl rfl rfl ⟨_, rfl, rfl, H⟩
theorem o_X3_clear {g : ac_G} {τ : Nat → Nat → Int64} (d : Nat)  {Q : ac_m → Prop} {s : ac_m} (H : w_X3_clear  Q s) : ac_M g i_X3_clear (d + 1) 0 0 [.ref 14] (false, 586, SH, s, τ) (liV τ Q) := by
  refine ac_ofX (by decide +kernel) rfl rfl rfl ?_
  refine ax_aload_n (pc' := 1) dX3_clear_0 rfl rfl ?_
  refine ax_getR (pc' := 4) dX3_clear_1 fl_X3_9 sh_14 rfl rfl rfl ?_
  refine ax_iconst (pc' := 5) (v := (0 : Int32)) dX3_clear_4 (by decide) rfl ?_
  refine ay_S2 (pc' := 8) (ce' := 0) (sl' := 0) (mc2 := 0) (ms2 := 0) (I2 := i_J7_fill_53178) dX3_clear_5 ml_X3_58 rfl rfl rfl rfl rfl rfl rfl rfl (ac_M.imp (o_J7_fill_53178 _ 15 6 (0 : Int32) sh_15 rfl H) ?_)
  rintro _ _ ⟨s5, rfl, rfl, H⟩
  refine ax_aload_n (pc' := 9) dX3_clear_8 rfl rfl ?_
  refine ax_getR (pc' := 12) dX3_clear_9 fl_X3_15 sh_14 rfl rfl rfl ?_
  refine ax_iconst (pc' := 13) (v := (0 : Int32)) dX3_clear_12 (by decide) rfl ?_
  refine ay_S2 (pc' := 16) (ce' := 0) (sl' := 0) (mc2 := 0) (ms2 := 0) (I2 := i_J7_fill_53178) dX3_clear_13 ml_X3_58 rfl rfl rfl rfl rfl rfl rfl rfl (ac_M.imp (o_J7_fill_53178 _ 16 6 (0 : Int32) sh_16 rfl H) ?_)
  rintro _ _ ⟨s13, rfl, rfl, H⟩
  refine ax_aload_n (pc' := 17) dX3_clear_16 rfl rfl ?_
  refine ax_getR (pc' := 20) dX3_clear_17 fl_X3_18 sh_14 rfl rfl rfl ?_
  refine ax_iconst (pc' := 21) (v := (0 : Int32)) dX3_clear_20 (by decide) rfl ?_
  refine ay_S2 (pc' := 24) (ce' := 0) (sl' := 0) (mc2 := 0) (ms2 := 0) (I2 := i_J7_fill_53178) dX3_clear_21 ml_X3_58 rfl rfl rfl rfl rfl rfl rfl rfl (ac_M.imp (o_J7_fill_53178 _ 17 13 (0 : Int32) sh_17 rfl H) ?_)
  rintro _ _ ⟨s21, rfl, rfl, H⟩
  refine ax_aload_n (pc' := 25) dX3_clear_24 rfl rfl ?_
  refine ax_getR (pc' := 28) dX3_clear_25 fl_X3_21 sh_14 rfl rfl rfl ?_
  refine ax_iconst (pc' := 29) (v := (0 : Int32)) dX3_clear_28 (by decide) rfl ?_
  refine ay_S2 (pc' := 32) (ce' := 0) (sl' := 0) (mc2 := 0) (ms2 := 0) (I2 := i_J7_fill_53178) dX3_clear_29 ml_X3_58 rfl rfl rfl rfl rfl rfl rfl rfl (ac_M.imp (o_J7_fill_53178 _ 18 13 (0 : Int32) sh_18 rfl H) ?_)
  rintro _ _ ⟨s29, rfl, rfl, H⟩
  refine ax_aload_n (pc' := 33) dX3_clear_32 rfl rfl ?_
  refine ax_getR (pc' := 36) dX3_clear_33 fl_X3_24 sh_14 rfl rfl rfl ?_
  refine ax_iconst (pc' := 37) (v := (0 : Int32)) dX3_clear_36 (by decide) rfl ?_
  refine ay_S2 (pc' := 40) (ce' := 0) (sl' := 0) (mc2 := 0) (ms2 := 0) (I2 := i_J7_fill_53178) dX3_clear_37 ml_X3_58 rfl rfl rfl rfl rfl rfl rfl rfl (ac_M.imp (o_J7_fill_53178 _ 19 13 (0 : Int32) sh_19 rfl H) ?_)
  rintro _ _ ⟨s37, rfl, rfl, H⟩
  refine ax_aload_n (pc' := 41) dX3_clear_40 rfl rfl ?_
  refine ax_getR (pc' := 44) dX3_clear_41 fl_X3_27 sh_14 rfl rfl rfl ?_
  refine ax_iconst (pc' := 45) (v := (0 : Int32)) dX3_clear_44 (by decide) rfl ?_
  refine ay_S2 (pc' := 48) (ce' := 0) (sl' := 0) (mc2 := 0) (ms2 := 0) (I2 := i_J7_fill_53178) dX3_clear_45 ml_X3_58 rfl rfl rfl rfl rfl rfl rfl rfl (ac_M.imp (o_J7_fill_53178 _ 20 13 (0 : Int32) sh_20 rfl H) ?_)
  rintro _ _ ⟨s45, rfl, rfl, H⟩
  refine ax_aload_n (pc' := 49) dX3_clear_48 rfl rfl ?_
  refine ax_iconst (pc' := 50) (v := (0 : Int32)) dX3_clear_49 (by decide) rfl ?_
  refine ax_putI (pc' := 53) dX3_clear_50 fp_X3_42 sh_14 rfl rfl rfl ?_
  refine ax_aload_n (pc' := 54) dX3_clear_53 rfl rfl ?_
  refine ax_iconst (pc' := 55) (v := (0 : Int32)) dX3_clear_54 (by decide) rfl ?_
  refine ax_putI (pc' := 58) dX3_clear_55 fp_X3_46 sh_14 rfl rfl rfl ?_
  refine ax_aload_n (pc' := 59) dX3_clear_58 rfl rfl ?_
  refine ax_iconst (pc' := 60) (v := (0 : Int32)) dX3_clear_59 (by decide) rfl ?_
  refine ax_putI (pc' := 63) dX3_clear_60 fp_X3_49 sh_14 rfl rfl rfl ?_
  exact ax_vret dX3_clear_63 rfl rfl rfl ⟨_, rfl, rfl, H⟩
theorem o_X3_readInto {g : ac_G} {τ : Nat → Nat → Int64} (d : Nat) (r2 : Nat) (n2 : Nat) (p3 : Int32) (p4 : Int32) (p5 : Int32) (hr2 : SH r2 = .inl (0, n2, 0)) (hn2 : Nat.blt r2 586 = true) {Q : Int32 → ac_m → Prop} {s : ac_m} (H : w_X3_readInto r2 n2 p3 p4 p5 Q s) : ac_M g i_X3_readInto (d + 3) 0 0 [.ref 1, .ref r2, .int p3, .int p4, .int p5] (false, 586, SH, s, τ) (liI τ Q) := by
  refine ac_ofX (by decide +kernel) rfl rfl rfl ?_
  refine ax_aload_n (pc' := 1) dX3_readInto_0 rfl rfl ?_
  refine ax_iload_n (pc' := 2) dX3_readInto_1 rfl rfl ?_
  refine ax_iload (pc' := 4) dX3_readInto_2 rfl rfl ?_
  refine ay_V2 (pc' := 7) (ce' := 0) (sl' := 0) (mc2 := 0) (ms2 := 0) (I2 := i_X10_number) dX3_readInto_4 ml_X3_115 sh_1 (by decide) rfl rfl rfl rfl rfl rfl rfl rfl rfl (ac_M.imp (o_X10_number _ p4 p5 H) ?_)
  rintro _ _ ⟨r4, s4, rfl, rfl, H⟩
  refine ax_istore (pc' := 9) dX3_readInto_7 rfl rfl rfl ?_
  refine ax_iload (pc' := 11) dX3_readInto_9 rfl rfl ?_
  refine ax_iconst (pc' := 12) (v := (-1 : Int32)) dX3_readInto_11 (by decide) rfl ?_
  refine ax_icmp_eq (pc' := 15) (tgt := 25) dX3_readInto_12 (by decide) rfl (fun hc12 => ?_) (fun hc12 => ?_)
  · have H := H.1 hc12
    refine ax_iconst (pc' := 26) (v := (0 : Int32)) dX3_readInto_25 (by decide) rfl ?_
    exact ax_zret dX3_readInto_26 rfl rfl rfl rfl ⟨_, _, rfl, rfl, H⟩
  · have H := H.2 hc12
    refine ax_iload_n (pc' := 16) dX3_readInto_15 rfl rfl ?_
    refine ax_if_lt (pc' := 19) (tgt := 25) dX3_readInto_16 (by decide) rfl (fun hc16 => ?_) (fun hc16 => ?_)
    · have H := H.1 hc16
      refine ax_iconst (pc' := 26) (v := (0 : Int32)) dX3_readInto_25 (by decide) rfl ?_
      exact ax_zret dX3_readInto_26 rfl rfl rfl rfl ⟨_, _, rfl, rfl, H⟩
    · have H := H.2 hc16
      refine ax_iload_n (pc' := 20) dX3_readInto_19 rfl rfl ?_
      refine ax_aload_n (pc' := 21) dX3_readInto_20 rfl rfl ?_
      refine ax_alen (pc' := 22) (v := (Int32.ofNat n2)) dX3_readInto_21 hr2 rfl rfl hn2 rfl ?_
      refine ax_icmp_lt (pc' := 25) (tgt := 27) dX3_readInto_22 (by decide) rfl (fun hc22 => ?_) (fun hc22 => ?_)
      · have H := H.1 hc22
        refine ax_aload_n (pc' := 28) dX3_readInto_27 rfl rfl ?_
        refine ax_iload_n (pc' := 29) dX3_readInto_28 rfl rfl ?_
        refine ax_iload (pc' := 31) dX3_readInto_29 rfl rfl ?_
        obtain ⟨hj31, H⟩ := H
        refine ax_iast (pc' := 32) dX3_readInto_31 hr2 hj31 hn2 rfl ?_
        refine ax_iconst (pc' := 33) (v := (1 : Int32)) dX3_readInto_32 (by decide) rfl ?_
        exact ax_zret dX3_readInto_33 rfl rfl rfl rfl ⟨_, _, rfl, rfl, H⟩
      · have H := H.2 hc22
        refine ax_iconst (pc' := 26) (v := (0 : Int32)) dX3_readInto_25 (by decide) rfl ?_
        exact ax_zret dX3_readInto_26 rfl rfl rfl rfl ⟨_, _, rfl, rfl, H⟩
theorem o_X3_readFolk {g : ac_G} {τ : Nat → Nat → Int64} (d : Nat)  {Q : Int32 → ac_m → Prop} {s : ac_m} (H : w_X3_readFolk  Q s) : ac_M g i_X3_readFolk (d + 4) 0 0 [.ref 14, .ref 1] (false, 586, SH, s, τ) (liI τ Q) := by
  refine ac_ofX (by decide +kernel) rfl rfl rfl ?_
  refine ax_aload_n (pc' := 1) dX3_readFolk_0 rfl rfl ?_
  refine ax_getI (pc' := 4) dX3_readFolk_1 fl_X3_42 sh_14 rfl rfl rfl ?_
  refine ax_istore_n (pc' := 5) dX3_readFolk_4 rfl rfl rfl ?_
  refine ax_iload_n (pc' := 6) dX3_readFolk_5 rfl rfl ?_
  refine ax_bipush (pc' := 8) (v := (6 : Int32)) dX3_readFolk_6 (by decide) rfl ?_
  refine ax_icmp_lt (pc' := 11) (tgt := 17) dX3_readFolk_8 (by decide) rfl (fun hc8 => ?_) (fun hc8 => ?_)
  · have H := H.1 hc8
    refine ax_aload_n (pc' := 18) dX3_readFolk_17 rfl rfl ?_
    refine ax_dup (pc' := 19) dX3_readFolk_18 rfl rfl ?_
    refine ax_getI (pc' := 22) dX3_readFolk_19 fl_X3_42 sh_14 rfl rfl rfl ?_
    refine ax_iconst (pc' := 23) (v := (1 : Int32)) dX3_readFolk_22 (by decide) rfl ?_
    refine ax_iadd (pc' := 24) dX3_readFolk_23 rfl ?_
    refine ax_putI (pc' := 27) dX3_readFolk_24 fp_X3_42 sh_14 rfl rfl rfl ?_
    refine ax_aload_n (pc' := 28) dX3_readFolk_27 rfl rfl ?_
    refine ax_aload_n (pc' := 29) dX3_readFolk_28 rfl rfl ?_
    refine ax_getR (pc' := 32) dX3_readFolk_29 fl_X3_9 sh_14 rfl rfl rfl ?_
    refine ax_iload_n (pc' := 33) dX3_readFolk_32 rfl rfl ?_
    refine ax_iconst (pc' := 34) (v := (0 : Int32)) dX3_readFolk_33 (by decide) rfl ?_
    refine ax_bipush (pc' := 36) (v := (99 : Int32)) dX3_readFolk_34 (by decide) rfl ?_
    refine ay_S5 (pc' := 39) (ce' := 0) (sl' := 0) (mc2 := 0) (ms2 := 0) (I2 := i_X3_readInto) dX3_readFolk_36 ml_X3_103 rfl rfl rfl rfl rfl rfl rfl rfl (ac_M.imp (o_X3_readInto _ 15 6 (s 14 10) (0 : Int32) (99 : Int32) sh_15 rfl H) ?_)
    rintro _ _ ⟨r36, s36, rfl, rfl, H⟩
    refine ax_if_eq (pc' := 42) (tgt := 70) dX3_readFolk_39 (by decide) rfl (fun hc39 => ?_) (fun hc39 => ?_)
    · have H := H.1 hc39
      refine ax_iconst (pc' := 71) (v := (0 : Int32)) dX3_readFolk_70 (by decide) rfl ?_
      exact ax_zret dX3_readFolk_71 rfl rfl rfl rfl ⟨_, _, rfl, rfl, H⟩
    · have H := H.2 hc39
      refine ax_aload_n (pc' := 43) dX3_readFolk_42 rfl rfl ?_
      refine ax_aload_n (pc' := 44) dX3_readFolk_43 rfl rfl ?_
      refine ax_getR (pc' := 47) dX3_readFolk_44 fl_X3_15 sh_14 rfl rfl rfl ?_
      refine ax_iload_n (pc' := 48) dX3_readFolk_47 rfl rfl ?_
      refine ax_iconst (pc' := 49) (v := (0 : Int32)) dX3_readFolk_48 (by decide) rfl ?_
      refine ax_bipush (pc' := 51) (v := (9 : Int32)) dX3_readFolk_49 (by decide) rfl ?_
      refine ay_S5 (pc' := 54) (ce' := 0) (sl' := 0) (mc2 := 0) (ms2 := 0) (I2 := i_X3_readInto) dX3_readFolk_51 ml_X3_103 rfl rfl rfl rfl rfl rfl rfl rfl (ac_M.imp (o_X3_readInto _ 16 6 (s 14 10) (0 : Int32) (9 : Int32) sh_16 rfl H) ?_)
      rintro _ _ ⟨r51, s51, rfl, rfl, H⟩
      refine ax_if_eq (pc' := 57) (tgt := 70) dX3_readFolk_54 (by decide) rfl (fun hc54 => ?_) (fun hc54 => ?_)
      · have H := H.1 hc54
        refine ax_iconst (pc' := 71) (v := (0 : Int32)) dX3_readFolk_70 (by decide) rfl ?_
        exact ax_zret dX3_readFolk_71 rfl rfl rfl rfl ⟨_, _, rfl, rfl, H⟩
      · have H := H.2 hc54
        refine ax_aload_n (pc' := 58) dX3_readFolk_57 rfl rfl ?_
        refine ax_bipush (pc' := 60) (v := (59 : Int32)) dX3_readFolk_58 (by decide) rfl ?_
        refine ay_V1 (pc' := 63) (ce' := 0) (sl' := 0) (mc2 := 0) (ms2 := 0) (I2 := i_X10_expects) dX3_readFolk_60 ml_X3_107 sh_1 (by decide) rfl rfl rfl rfl rfl rfl rfl rfl rfl (ac_M.imp (o_X10_expects _ (59 : Int32) H) ?_)
        rintro _ _ ⟨r60, s60, rfl, rfl, H⟩
        refine ax_if_eq (pc' := 66) (tgt := 70) dX3_readFolk_63 (by decide) rfl (fun hc63 => ?_) (fun hc63 => ?_)
        · have H := H.1 hc63
          refine ax_iconst (pc' := 71) (v := (0 : Int32)) dX3_readFolk_70 (by decide) rfl ?_
          exact ax_zret dX3_readFolk_71 rfl rfl rfl rfl ⟨_, _, rfl, rfl, H⟩
        · have H := H.2 hc63
          refine ax_iconst (pc' := 67) (v := (1 : Int32)) dX3_readFolk_66 (by decide) rfl ?_
          refine ax_goto (tgt := 71) dX3_readFolk_67 (by decide) ?_
          exact ax_zret dX3_readFolk_71 rfl rfl rfl rfl ⟨_, _, rfl, rfl, H⟩
  · have H := H.2 hc8
    refine ax_aload_n (pc' := 12) dX3_readFolk_11 rfl rfl ?_
    refine ax_iconst (pc' := 13) (v := (3 : Int32)) dX3_readFolk_12 (by decide) rfl ?_
    refine ay_V1 (pc' := 16) (ce' := 0) (sl' := 0) (mc2 := 0) (ms2 := 0) (I2 := i_X10_fail) dX3_readFolk_13 ml_X3_99 sh_1 (by decide) rfl rfl rfl rfl rfl rfl rfl rfl rfl (ac_M.imp (o_X10_fail _ (3 : Int32) H) ?_)
    rintro _ _ ⟨r13, s13, rfl, rfl, H⟩
    obtain ⟨hb, H⟩ := H
    exact ax_zret dX3_readFolk_16 rfl hb rfl rfl ⟨_, _, rfl, rfl, H⟩
theorem o_X3_areUnlike {g : ac_G} {τ : Nat → Nat → Int64} (d : Nat) (r2 : Nat) (n2 : Nat) (r3 : Nat) (n3 : Nat) (p4 : Int32) (hr2 : SH r2 = .inl (0, n2, 0)) (hn2 : Nat.blt r2 586 = true) (hr3 : SH r3 = .inl (0, n3, 0)) (hn3 : Nat.blt r3 586 = true) {Q : Int32 → ac_m → Prop} {s : ac_m} (H : w_X3_areUnlike r2 n2 r3 n3 p4 Q s) : ac_M g i_X3_areUnlike (d + 1) 0 0 [.ref 1, .ref r2, .ref r3, .int p4] (false, 586, SH, s, τ) (liI τ Q) := by
  refine ac_ofX (by decide +kernel) rfl rfl rfl ?_
  refine ax_iload_n (pc' := 1) dX3_areUnlike_0 rfl rfl ?_
  refine ax_if_lt (pc' := 4) (tgt := 25) dX3_areUnlike_1 (by decide) rfl (fun hc1 => ?_) (fun hc1 => ?_)
  · have H := H.1 hc1
    refine ax_aload_n (pc' := 26) dX3_areUnlike_25 rfl rfl ?_
    refine ax_iconst (pc' := 27) (v := (2 : Int32)) dX3_areUnlike_26 (by decide) rfl ?_
    refine ay_V1 (pc' := 30) (ce' := 0) (sl' := 0) (mc2 := 0) (ms2 := 0) (I2 := i_X10_fail) dX3_areUnlike_27 ml_X3_99 sh_1 (by decide) rfl rfl rfl rfl rfl rfl rfl rfl rfl (ac_M.imp (o_X10_fail _ (2 : Int32) H) ?_)
    rintro _ _ ⟨r27, s27, rfl, rfl, H⟩
    obtain ⟨hb, H⟩ := H
    exact ax_zret dX3_areUnlike_30 rfl hb rfl rfl ⟨_, _, rfl, rfl, H⟩
  · have H := H.2 hc1
    refine ax_iload_n (pc' := 5) dX3_areUnlike_4 rfl rfl ?_
    refine ax_aload_n (pc' := 6) dX3_areUnlike_5 rfl rfl ?_
    refine ax_alen (pc' := 7) (v := (Int32.ofNat n2)) dX3_areUnlike_6 hr2 rfl rfl hn2 rfl ?_
    refine ax_icmp_ge (pc' := 10) (tgt := 25) dX3_areUnlike_7 (by decide) rfl (fun hc7 => ?_) (fun hc7 => ?_)
    · have H := H.1 hc7
      refine ax_aload_n (pc' := 26) dX3_areUnlike_25 rfl rfl ?_
      refine ax_iconst (pc' := 27) (v := (2 : Int32)) dX3_areUnlike_26 (by decide) rfl ?_
      refine ay_V1 (pc' := 30) (ce' := 0) (sl' := 0) (mc2 := 0) (ms2 := 0) (I2 := i_X10_fail) dX3_areUnlike_27 ml_X3_99 sh_1 (by decide) rfl rfl rfl rfl rfl rfl rfl rfl rfl (ac_M.imp (o_X10_fail _ (2 : Int32) H) ?_)
      rintro _ _ ⟨r27, s27, rfl, rfl, H⟩
      obtain ⟨hb, H⟩ := H
      exact ax_zret dX3_areUnlike_30 rfl hb rfl rfl ⟨_, _, rfl, rfl, H⟩
    · have H := H.2 hc7
      refine ax_iload_n (pc' := 11) dX3_areUnlike_10 rfl rfl ?_
      refine ax_aload_n (pc' := 12) dX3_areUnlike_11 rfl rfl ?_
      refine ax_alen (pc' := 13) (v := (Int32.ofNat n3)) dX3_areUnlike_12 hr3 rfl rfl hn3 rfl ?_
      refine ax_icmp_ge (pc' := 16) (tgt := 25) dX3_areUnlike_13 (by decide) rfl (fun hc13 => ?_) (fun hc13 => ?_)
      · have H := H.1 hc13
        refine ax_aload_n (pc' := 26) dX3_areUnlike_25 rfl rfl ?_
        refine ax_iconst (pc' := 27) (v := (2 : Int32)) dX3_areUnlike_26 (by decide) rfl ?_
        refine ay_V1 (pc' := 30) (ce' := 0) (sl' := 0) (mc2 := 0) (ms2 := 0) (I2 := i_X10_fail) dX3_areUnlike_27 ml_X3_99 sh_1 (by decide) rfl rfl rfl rfl rfl rfl rfl rfl rfl (ac_M.imp (o_X10_fail _ (2 : Int32) H) ?_)
        rintro _ _ ⟨r27, s27, rfl, rfl, H⟩
        obtain ⟨hb, H⟩ := H
        exact ax_zret dX3_areUnlike_30 rfl hb rfl rfl ⟨_, _, rfl, rfl, H⟩
      · have H := H.2 hc13
        refine ax_aload_n (pc' := 17) dX3_areUnlike_16 rfl rfl ?_
        refine ax_iload_n (pc' := 18) dX3_areUnlike_17 rfl rfl ?_
        obtain ⟨hj18, H⟩ := H
        refine ax_iald (pc' := 19) dX3_areUnlike_18 hr2 hj18 hn2 rfl ?_
        refine ax_aload_n (pc' := 20) dX3_areUnlike_19 rfl rfl ?_
        refine ax_iload_n (pc' := 21) dX3_areUnlike_20 rfl rfl ?_
        obtain ⟨hj21, H⟩ := H
        refine ax_iald (pc' := 22) dX3_areUnlike_21 hr3 hj21 hn3 rfl ?_
        refine ax_icmp_ne (pc' := 25) (tgt := 31) dX3_areUnlike_22 (by decide) rfl (fun hc22 => ?_) (fun hc22 => ?_)
        · have H := H.1 hc22
          refine ax_iconst (pc' := 32) (v := (1 : Int32)) dX3_areUnlike_31 (by decide) rfl ?_
          exact ax_zret dX3_areUnlike_32 rfl rfl rfl rfl ⟨_, _, rfl, rfl, H⟩
        · have H := H.2 hc22
          refine ax_aload_n (pc' := 26) dX3_areUnlike_25 rfl rfl ?_
          refine ax_iconst (pc' := 27) (v := (2 : Int32)) dX3_areUnlike_26 (by decide) rfl ?_
          refine ay_V1 (pc' := 30) (ce' := 0) (sl' := 0) (mc2 := 0) (ms2 := 0) (I2 := i_X10_fail) dX3_areUnlike_27 ml_X3_99 sh_1 (by decide) rfl rfl rfl rfl rfl rfl rfl rfl rfl (ac_M.imp (o_X10_fail _ (2 : Int32) H) ?_)
          rintro _ _ ⟨r27, s27, rfl, rfl, H⟩
          obtain ⟨hb, H⟩ := H
          exact ax_zret dX3_areUnlike_30 rfl hb rfl rfl ⟨_, _, rfl, rfl, H⟩
theorem o_X3_readBeast {g : ac_G} {τ : Nat → Nat → Int64} (d : Nat)  {Q : Int32 → ac_m → Prop} {s : ac_m} (H : w_X3_readBeast  Q s) : ac_M g i_X3_readBeast (d + 4) 0 0 [.ref 14, .ref 1] (false, 586, SH, s, τ) (liI τ Q) := by
  refine ac_ofX (by decide +kernel) rfl rfl rfl ?_
  refine ax_aload_n (pc' := 1) dX3_readBeast_0 rfl rfl ?_
  refine ax_getI (pc' := 4) dX3_readBeast_1 fl_X3_46 sh_14 rfl rfl rfl ?_
  refine ax_istore_n (pc' := 5) dX3_readBeast_4 rfl rfl rfl ?_
  refine ax_iload_n (pc' := 6) dX3_readBeast_5 rfl rfl ?_
  refine ax_bipush (pc' := 8) (v := (12 : Int32)) dX3_readBeast_6 (by decide) rfl ?_
  refine ax_icmp_lt (pc' := 11) (tgt := 17) dX3_readBeast_8 (by decide) rfl (fun hc8 => ?_) (fun hc8 => ?_)
  · have H := H.1 hc8
    refine ax_aload_n (pc' := 18) dX3_readBeast_17 rfl rfl ?_
    refine ax_dup (pc' := 19) dX3_readBeast_18 rfl rfl ?_
    refine ax_getI (pc' := 22) dX3_readBeast_19 fl_X3_46 sh_14 rfl rfl rfl ?_
    refine ax_iconst (pc' := 23) (v := (1 : Int32)) dX3_readBeast_22 (by decide) rfl ?_
    refine ax_iadd (pc' := 24) dX3_readBeast_23 rfl ?_
    refine ax_putI (pc' := 27) dX3_readBeast_24 fp_X3_46 sh_14 rfl rfl rfl ?_
    refine ax_aload_n (pc' := 28) dX3_readBeast_27 rfl rfl ?_
    refine ax_aload_n (pc' := 29) dX3_readBeast_28 rfl rfl ?_
    refine ax_getR (pc' := 32) dX3_readBeast_29 fl_X3_18 sh_14 rfl rfl rfl ?_
    refine ax_iload_n (pc' := 33) dX3_readBeast_32 rfl rfl ?_
    refine ax_iconst (pc' := 34) (v := (0 : Int32)) dX3_readBeast_33 (by decide) rfl ?_
    refine ax_aload_n (pc' := 35) dX3_readBeast_34 rfl rfl ?_
    refine ax_getI (pc' := 38) dX3_readBeast_35 fl_X3_42 sh_14 rfl rfl rfl ?_
    refine ax_iconst (pc' := 39) (v := (1 : Int32)) dX3_readBeast_38 (by decide) rfl ?_
    refine ax_isub (pc' := 40) dX3_readBeast_39 rfl ?_
    refine ay_S5 (pc' := 43) (ce' := 0) (sl' := 0) (mc2 := 0) (ms2 := 0) (I2 := i_X3_readInto) dX3_readBeast_40 ml_X3_103 rfl rfl rfl rfl rfl rfl rfl rfl (ac_M.imp (o_X3_readInto _ 17 13 (s 14 11) (0 : Int32) (((ac_u s 14 11 ((s 14 11) + (1 : Int32))) 14 10) - (1 : Int32)) sh_17 rfl H) ?_)
    rintro _ _ ⟨r40, s40, rfl, rfl, H⟩
    refine ax_if_eq (pc' := 46) (tgt := 123) dX3_readBeast_43 (by decide) rfl (fun hc43 => ?_) (fun hc43 => ?_)
    · have H := H.1 hc43
      refine ax_iconst (pc' := 124) (v := (0 : Int32)) dX3_readBeast_123 (by decide) rfl ?_
      exact ax_zret dX3_readBeast_124 rfl rfl rfl rfl ⟨_, _, rfl, rfl, H⟩
    · have H := H.2 hc43
      refine ax_aload_n (pc' := 47) dX3_readBeast_46 rfl rfl ?_
      refine ax_aload_n (pc' := 48) dX3_readBeast_47 rfl rfl ?_
      refine ax_getR (pc' := 51) dX3_readBeast_48 fl_X3_21 sh_14 rfl rfl rfl ?_
      refine ax_iload_n (pc' := 52) dX3_readBeast_51 rfl rfl ?_
      refine ax_iconst (pc' := 53) (v := (0 : Int32)) dX3_readBeast_52 (by decide) rfl ?_
      refine ax_aload_n (pc' := 54) dX3_readBeast_53 rfl rfl ?_
      refine ax_getI (pc' := 57) dX3_readBeast_54 fl_X3_42 sh_14 rfl rfl rfl ?_
      refine ax_iconst (pc' := 58) (v := (1 : Int32)) dX3_readBeast_57 (by decide) rfl ?_
      refine ax_isub (pc' := 59) dX3_readBeast_58 rfl ?_
      refine ay_S5 (pc' := 62) (ce' := 0) (sl' := 0) (mc2 := 0) (ms2 := 0) (I2 := i_X3_readInto) dX3_readBeast_59 ml_X3_103 rfl rfl rfl rfl rfl rfl rfl rfl (ac_M.imp (o_X3_readInto _ 18 13 (s 14 11) (0 : Int32) ((s40 14 10) - (1 : Int32)) sh_18 rfl H) ?_)
      rintro _ _ ⟨r59, s59, rfl, rfl, H⟩
      refine ax_if_eq (pc' := 65) (tgt := 123) dX3_readBeast_62 (by decide) rfl (fun hc62 => ?_) (fun hc62 => ?_)
      · have H := H.1 hc62
        refine ax_iconst (pc' := 124) (v := (0 : Int32)) dX3_readBeast_123 (by decide) rfl ?_
        exact ax_zret dX3_readBeast_124 rfl rfl rfl rfl ⟨_, _, rfl, rfl, H⟩
      · have H := H.2 hc62
        refine ax_aload_n (pc' := 66) dX3_readBeast_65 rfl rfl ?_
        refine ax_aload_n (pc' := 67) dX3_readBeast_66 rfl rfl ?_
        refine ax_getR (pc' := 70) dX3_readBeast_67 fl_X3_18 sh_14 rfl rfl rfl ?_
        refine ax_aload_n (pc' := 71) dX3_readBeast_70 rfl rfl ?_
        refine ax_getR (pc' := 74) dX3_readBeast_71 fl_X3_21 sh_14 rfl rfl rfl ?_
        refine ax_iload_n (pc' := 75) dX3_readBeast_74 rfl rfl ?_
        refine ay_S4 (pc' := 78) (ce' := 0) (sl' := 0) (mc2 := 0) (ms2 := 0) (I2 := i_X3_areUnlike) dX3_readBeast_75 ml_X3_111 rfl rfl rfl rfl rfl rfl rfl rfl (ac_M.imp (o_X3_areUnlike _ 17 13 18 13 (s 14 11) sh_17 rfl sh_18 rfl H) ?_)
        rintro _ _ ⟨r75, s75, rfl, rfl, H⟩
        refine ax_if_eq (pc' := 81) (tgt := 123) dX3_readBeast_78 (by decide) rfl (fun hc78 => ?_) (fun hc78 => ?_)
        · have H := H.1 hc78
          refine ax_iconst (pc' := 124) (v := (0 : Int32)) dX3_readBeast_123 (by decide) rfl ?_
          exact ax_zret dX3_readBeast_124 rfl rfl rfl rfl ⟨_, _, rfl, rfl, H⟩
        · have H := H.2 hc78
          refine ax_aload_n (pc' := 82) dX3_readBeast_81 rfl rfl ?_
          refine ax_aload_n (pc' := 83) dX3_readBeast_82 rfl rfl ?_
          refine ax_getR (pc' := 86) dX3_readBeast_83 fl_X3_24 sh_14 rfl rfl rfl ?_
          refine ax_iload_n (pc' := 87) dX3_readBeast_86 rfl rfl ?_
          refine ax_iconst (pc' := 88) (v := (0 : Int32)) dX3_readBeast_87 (by decide) rfl ?_
          refine ax_iconst (pc' := 89) (v := (5 : Int32)) dX3_readBeast_88 (by decide) rfl ?_
          refine ay_S5 (pc' := 92) (ce' := 0) (sl' := 0) (mc2 := 0) (ms2 := 0) (I2 := i_X3_readInto) dX3_readBeast_89 ml_X3_103 rfl rfl rfl rfl rfl rfl rfl rfl (ac_M.imp (o_X3_readInto _ 19 13 (s 14 11) (0 : Int32) (5 : Int32) sh_19 rfl H) ?_)
          rintro _ _ ⟨r89, s89, rfl, rfl, H⟩
          refine ax_if_eq (pc' := 95) (tgt := 123) dX3_readBeast_92 (by decide) rfl (fun hc92 => ?_) (fun hc92 => ?_)
          · have H := H.1 hc92
            refine ax_iconst (pc' := 124) (v := (0 : Int32)) dX3_readBeast_123 (by decide) rfl ?_
            exact ax_zret dX3_readBeast_124 rfl rfl rfl rfl ⟨_, _, rfl, rfl, H⟩
          · have H := H.2 hc92
            refine ax_aload_n (pc' := 96) dX3_readBeast_95 rfl rfl ?_
            refine ax_aload_n (pc' := 97) dX3_readBeast_96 rfl rfl ?_
            refine ax_getR (pc' := 100) dX3_readBeast_97 fl_X3_27 sh_14 rfl rfl rfl ?_
            refine ax_iload_n (pc' := 101) dX3_readBeast_100 rfl rfl ?_
            refine ax_iconst (pc' := 102) (v := (1 : Int32)) dX3_readBeast_101 (by decide) rfl ?_
            refine ax_bipush (pc' := 104) (v := (30 : Int32)) dX3_readBeast_102 (by decide) rfl ?_
            refine ay_S5 (pc' := 107) (ce' := 0) (sl' := 0) (mc2 := 0) (ms2 := 0) (I2 := i_X3_readInto) dX3_readBeast_104 ml_X3_103 rfl rfl rfl rfl rfl rfl rfl rfl (ac_M.imp (o_X3_readInto _ 20 13 (s 14 11) (1 : Int32) (30 : Int32) sh_20 rfl H) ?_)
            rintro _ _ ⟨r104, s104, rfl, rfl, H⟩
            refine ax_if_eq (pc' := 110) (tgt := 123) dX3_readBeast_107 (by decide) rfl (fun hc107 => ?_) (fun hc107 => ?_)
            · have H := H.1 hc107
              refine ax_iconst (pc' := 124) (v := (0 : Int32)) dX3_readBeast_123 (by decide) rfl ?_
              exact ax_zret dX3_readBeast_124 rfl rfl rfl rfl ⟨_, _, rfl, rfl, H⟩
            · have H := H.2 hc107
              refine ax_aload_n (pc' := 111) dX3_readBeast_110 rfl rfl ?_
              refine ax_bipush (pc' := 113) (v := (59 : Int32)) dX3_readBeast_111 (by decide) rfl ?_
              refine ay_V1 (pc' := 116) (ce' := 0) (sl' := 0) (mc2 := 0) (ms2 := 0) (I2 := i_X10_expects) dX3_readBeast_113 ml_X3_107 sh_1 (by decide) rfl rfl rfl rfl rfl rfl rfl rfl rfl (ac_M.imp (o_X10_expects _ (59 : Int32) H) ?_)
              rintro _ _ ⟨r113, s113, rfl, rfl, H⟩
              refine ax_if_eq (pc' := 119) (tgt := 123) dX3_readBeast_116 (by decide) rfl (fun hc116 => ?_) (fun hc116 => ?_)
              · have H := H.1 hc116
                refine ax_iconst (pc' := 124) (v := (0 : Int32)) dX3_readBeast_123 (by decide) rfl ?_
                exact ax_zret dX3_readBeast_124 rfl rfl rfl rfl ⟨_, _, rfl, rfl, H⟩
              · have H := H.2 hc116
                refine ax_iconst (pc' := 120) (v := (1 : Int32)) dX3_readBeast_119 (by decide) rfl ?_
                refine ax_goto (tgt := 124) dX3_readBeast_120 (by decide) ?_
                exact ax_zret dX3_readBeast_124 rfl rfl rfl rfl ⟨_, _, rfl, rfl, H⟩
  · have H := H.2 hc8
    refine ax_aload_n (pc' := 12) dX3_readBeast_11 rfl rfl ?_
    refine ax_iconst (pc' := 13) (v := (3 : Int32)) dX3_readBeast_12 (by decide) rfl ?_
    refine ay_V1 (pc' := 16) (ce' := 0) (sl' := 0) (mc2 := 0) (ms2 := 0) (I2 := i_X10_fail) dX3_readBeast_13 ml_X3_99 sh_1 (by decide) rfl rfl rfl rfl rfl rfl rfl rfl rfl (ac_M.imp (o_X10_fail _ (3 : Int32) H) ?_)
    rintro _ _ ⟨r13, s13, rfl, rfl, H⟩
    obtain ⟨hb, H⟩ := H
    exact ax_zret dX3_readBeast_16 rfl hb rfl rfl ⟨_, _, rfl, rfl, H⟩
theorem o_X3_readFair {g : ac_G} {τ : Nat → Nat → Int64} (d : Nat)  {Q : Int32 → ac_m → Prop} {s : ac_m} (H : w_X3_readFair  Q s) : ac_M g i_X3_readFair (d + 4) 0 0 [.ref 14, .ref 1] (false, 586, SH, s, τ) (liI τ Q) := by
  refine ac_ofX (by decide +kernel) rfl rfl rfl ?_
  refine ax_aload_n (pc' := 1) dX3_readFair_0 rfl rfl ?_
  refine ax_getI (pc' := 4) dX3_readFair_1 fl_X3_49 sh_14 rfl rfl rfl ?_
  refine ax_istore_n (pc' := 5) dX3_readFair_4 rfl rfl rfl ?_
  refine ax_iload_n (pc' := 6) dX3_readFair_5 rfl rfl ?_
  refine ax_bipush (pc' := 8) (v := (10 : Int32)) dX3_readFair_6 (by decide) rfl ?_
  refine ax_icmp_lt (pc' := 11) (tgt := 17) dX3_readFair_8 (by decide) rfl (fun hc8 => ?_) (fun hc8 => ?_)
  · have H := H.1 hc8
    refine ax_aload_n (pc' := 18) dX3_readFair_17 rfl rfl ?_
    refine ax_dup (pc' := 19) dX3_readFair_18 rfl rfl ?_
    refine ax_getI (pc' := 22) dX3_readFair_19 fl_X3_49 sh_14 rfl rfl rfl ?_
    refine ax_iconst (pc' := 23) (v := (1 : Int32)) dX3_readFair_22 (by decide) rfl ?_
    refine ax_iadd (pc' := 24) dX3_readFair_23 rfl ?_
    refine ax_putI (pc' := 27) dX3_readFair_24 fp_X3_49 sh_14 rfl rfl rfl ?_
    refine ax_aload_n (pc' := 28) dX3_readFair_27 rfl rfl ?_
    refine ax_aload_n (pc' := 29) dX3_readFair_28 rfl rfl ?_
    refine ax_getR (pc' := 32) dX3_readFair_29 fl_X3_30 sh_14 rfl rfl rfl ?_
    refine ax_iload_n (pc' := 33) dX3_readFair_32 rfl rfl ?_
    refine ax_iconst (pc' := 34) (v := (0 : Int32)) dX3_readFair_33 (by decide) rfl ?_
    refine ax_iconst (pc' := 35) (v := (5 : Int32)) dX3_readFair_34 (by decide) rfl ?_
    refine ay_S5 (pc' := 38) (ce' := 0) (sl' := 0) (mc2 := 0) (ms2 := 0) (I2 := i_X3_readInto) dX3_readFair_35 ml_X3_103 rfl rfl rfl rfl rfl rfl rfl rfl (ac_M.imp (o_X3_readInto _ 21 10 (s 14 12) (0 : Int32) (5 : Int32) sh_21 rfl H) ?_)
    rintro _ _ ⟨r35, s35, rfl, rfl, H⟩
    refine ax_if_eq (pc' := 41) (tgt := 99) dX3_readFair_38 (by decide) rfl (fun hc38 => ?_) (fun hc38 => ?_)
    · have H := H.1 hc38
      refine ax_iconst (pc' := 100) (v := (0 : Int32)) dX3_readFair_99 (by decide) rfl ?_
      exact ax_zret dX3_readFair_100 rfl rfl rfl rfl ⟨_, _, rfl, rfl, H⟩
    · have H := H.2 hc38
      refine ax_aload_n (pc' := 42) dX3_readFair_41 rfl rfl ?_
      refine ax_aload_n (pc' := 43) dX3_readFair_42 rfl rfl ?_
      refine ax_getR (pc' := 46) dX3_readFair_43 fl_X3_33 sh_14 rfl rfl rfl ?_
      refine ax_iload_n (pc' := 47) dX3_readFair_46 rfl rfl ?_
      refine ax_iconst (pc' := 48) (v := (0 : Int32)) dX3_readFair_47 (by decide) rfl ?_
      refine ax_iconst (pc' := 49) (v := (5 : Int32)) dX3_readFair_48 (by decide) rfl ?_
      refine ay_S5 (pc' := 52) (ce' := 0) (sl' := 0) (mc2 := 0) (ms2 := 0) (I2 := i_X3_readInto) dX3_readFair_49 ml_X3_103 rfl rfl rfl rfl rfl rfl rfl rfl (ac_M.imp (o_X3_readInto _ 22 10 (s 14 12) (0 : Int32) (5 : Int32) sh_22 rfl H) ?_)
      rintro _ _ ⟨r49, s49, rfl, rfl, H⟩
      refine ax_if_eq (pc' := 55) (tgt := 99) dX3_readFair_52 (by decide) rfl (fun hc52 => ?_) (fun hc52 => ?_)
      · have H := H.1 hc52
        refine ax_iconst (pc' := 100) (v := (0 : Int32)) dX3_readFair_99 (by decide) rfl ?_
        exact ax_zret dX3_readFair_100 rfl rfl rfl rfl ⟨_, _, rfl, rfl, H⟩
      · have H := H.2 hc52
        refine ax_aload_n (pc' := 56) dX3_readFair_55 rfl rfl ?_
        refine ax_aload_n (pc' := 57) dX3_readFair_56 rfl rfl ?_
        refine ax_getR (pc' := 60) dX3_readFair_57 fl_X3_30 sh_14 rfl rfl rfl ?_
        refine ax_aload_n (pc' := 61) dX3_readFair_60 rfl rfl ?_
        refine ax_getR (pc' := 64) dX3_readFair_61 fl_X3_33 sh_14 rfl rfl rfl ?_
        refine ax_iload_n (pc' := 65) dX3_readFair_64 rfl rfl ?_
        refine ay_S4 (pc' := 68) (ce' := 0) (sl' := 0) (mc2 := 0) (ms2 := 0) (I2 := i_X3_areUnlike) dX3_readFair_65 ml_X3_111 rfl rfl rfl rfl rfl rfl rfl rfl (ac_M.imp (o_X3_areUnlike _ 21 10 22 10 (s 14 12) sh_21 rfl sh_22 rfl H) ?_)
        rintro _ _ ⟨r65, s65, rfl, rfl, H⟩
        refine ax_if_eq (pc' := 71) (tgt := 99) dX3_readFair_68 (by decide) rfl (fun hc68 => ?_) (fun hc68 => ?_)
        · have H := H.1 hc68
          refine ax_iconst (pc' := 100) (v := (0 : Int32)) dX3_readFair_99 (by decide) rfl ?_
          exact ax_zret dX3_readFair_100 rfl rfl rfl rfl ⟨_, _, rfl, rfl, H⟩
        · have H := H.2 hc68
          refine ax_aload_n (pc' := 72) dX3_readFair_71 rfl rfl ?_
          refine ax_aload_n (pc' := 73) dX3_readFair_72 rfl rfl ?_
          refine ax_getR (pc' := 76) dX3_readFair_73 fl_X3_36 sh_14 rfl rfl rfl ?_
          refine ax_iload_n (pc' := 77) dX3_readFair_76 rfl rfl ?_
          refine ax_iconst (pc' := 78) (v := (1 : Int32)) dX3_readFair_77 (by decide) rfl ?_
          refine ax_bipush (pc' := 80) (v := (9 : Int32)) dX3_readFair_78 (by decide) rfl ?_
          refine ay_S5 (pc' := 83) (ce' := 0) (sl' := 0) (mc2 := 0) (ms2 := 0) (I2 := i_X3_readInto) dX3_readFair_80 ml_X3_103 rfl rfl rfl rfl rfl rfl rfl rfl (ac_M.imp (o_X3_readInto _ 23 10 (s 14 12) (1 : Int32) (9 : Int32) sh_23 rfl H) ?_)
          rintro _ _ ⟨r80, s80, rfl, rfl, H⟩
          refine ax_if_eq (pc' := 86) (tgt := 99) dX3_readFair_83 (by decide) rfl (fun hc83 => ?_) (fun hc83 => ?_)
          · have H := H.1 hc83
            refine ax_iconst (pc' := 100) (v := (0 : Int32)) dX3_readFair_99 (by decide) rfl ?_
            exact ax_zret dX3_readFair_100 rfl rfl rfl rfl ⟨_, _, rfl, rfl, H⟩
          · have H := H.2 hc83
            refine ax_aload_n (pc' := 87) dX3_readFair_86 rfl rfl ?_
            refine ax_bipush (pc' := 89) (v := (59 : Int32)) dX3_readFair_87 (by decide) rfl ?_
            refine ay_V1 (pc' := 92) (ce' := 0) (sl' := 0) (mc2 := 0) (ms2 := 0) (I2 := i_X10_expects) dX3_readFair_89 ml_X3_107 sh_1 (by decide) rfl rfl rfl rfl rfl rfl rfl rfl rfl (ac_M.imp (o_X10_expects _ (59 : Int32) H) ?_)
            rintro _ _ ⟨r89, s89, rfl, rfl, H⟩
            refine ax_if_eq (pc' := 95) (tgt := 99) dX3_readFair_92 (by decide) rfl (fun hc92 => ?_) (fun hc92 => ?_)
            · have H := H.1 hc92
              refine ax_iconst (pc' := 100) (v := (0 : Int32)) dX3_readFair_99 (by decide) rfl ?_
              exact ax_zret dX3_readFair_100 rfl rfl rfl rfl ⟨_, _, rfl, rfl, H⟩
            · have H := H.2 hc92
              refine ax_iconst (pc' := 96) (v := (1 : Int32)) dX3_readFair_95 (by decide) rfl ?_
              refine ax_goto (tgt := 100) dX3_readFair_96 (by decide) ?_
              exact ax_zret dX3_readFair_100 rfl rfl rfl rfl ⟨_, _, rfl, rfl, H⟩
  · have H := H.2 hc8
    refine ax_aload_n (pc' := 12) dX3_readFair_11 rfl rfl ?_
    refine ax_iconst (pc' := 13) (v := (3 : Int32)) dX3_readFair_12 (by decide) rfl ?_
    refine ay_V1 (pc' := 16) (ce' := 0) (sl' := 0) (mc2 := 0) (ms2 := 0) (I2 := i_X10_fail) dX3_readFair_13 ml_X3_99 sh_1 (by decide) rfl rfl rfl rfl rfl rfl rfl rfl rfl (ac_M.imp (o_X10_fail _ (3 : Int32) H) ?_)
    rintro _ _ ⟨r13, s13, rfl, rfl, H⟩
    obtain ⟨hb, H⟩ := H
    exact ax_zret dX3_readFair_16 rfl hb rfl rfl ⟨_, _, rfl, rfl, H⟩
theorem o_X3_readClause {g : ac_G} {τ : Nat → Nat → Int64} (d : Nat)  {Q : Int32 → ac_m → Prop} {s : ac_m} (H : w_X3_readClause  Q s) : ac_M g i_X3_readClause (d + 5) 0 0 [.ref 14, .ref 1] (false, 586, SH, s, τ) (liI τ Q) := by
  refine ac_ofX (by decide +kernel) rfl rfl rfl ?_
  refine ax_aload_n (pc' := 1) dX3_readClause_0 rfl rfl ?_
  refine ax_ldcT (pc' := 3) (i := 1) dX3_readClause_1 rfl rfl ?_
  refine ay_V1 (pc' := 6) (ce' := 0) (sl' := 0) (mc2 := 0) (ms2 := 0) (I2 := i_X10_passesWord) dX3_readClause_3 ml_X3_82 sh_1 (by decide) rfl rfl rfl rfl rfl rfl rfl rfl rfl (ac_M.imp (o_X10_passesWord _ 1 (by decide) H) ?_)
  rintro _ _ ⟨r3, s3, rfl, rfl, H⟩
  refine ax_if_eq (pc' := 9) (tgt := 15) dX3_readClause_6 (by decide) rfl (fun hc6 => ?_) (fun hc6 => ?_)
  · have H := H.1 hc6
    refine ax_aload_n (pc' := 16) dX3_readClause_15 rfl rfl ?_
    refine ax_ldcT (pc' := 18) (i := 2) dX3_readClause_16 rfl rfl ?_
    refine ay_V1 (pc' := 21) (ce' := 0) (sl' := 0) (mc2 := 0) (ms2 := 0) (I2 := i_X10_passesWord) dX3_readClause_18 ml_X3_82 sh_1 (by decide) rfl rfl rfl rfl rfl rfl rfl rfl rfl (ac_M.imp (o_X10_passesWord _ 2 (by decide) H) ?_)
    rintro _ _ ⟨r18, s18, rfl, rfl, H⟩
    refine ax_if_eq (pc' := 24) (tgt := 30) dX3_readClause_21 (by decide) rfl (fun hc21 => ?_) (fun hc21 => ?_)
    · have H := H.1 hc21
      refine ax_aload_n (pc' := 31) dX3_readClause_30 rfl rfl ?_
      refine ax_ldcT (pc' := 33) (i := 3) dX3_readClause_31 rfl rfl ?_
      refine ay_V1 (pc' := 36) (ce' := 0) (sl' := 0) (mc2 := 0) (ms2 := 0) (I2 := i_X10_passesWord) dX3_readClause_33 ml_X3_82 sh_1 (by decide) rfl rfl rfl rfl rfl rfl rfl rfl rfl (ac_M.imp (o_X10_passesWord _ 3 (by decide) H) ?_)
      rintro _ _ ⟨r33, s33, rfl, rfl, H⟩
      refine ax_if_eq (pc' := 39) (tgt := 45) dX3_readClause_36 (by decide) rfl (fun hc36 => ?_) (fun hc36 => ?_)
      · have H := H.1 hc36
        refine ax_aload_n (pc' := 46) dX3_readClause_45 rfl rfl ?_
        refine ax_iconst (pc' := 47) (v := (1 : Int32)) dX3_readClause_46 (by decide) rfl ?_
        refine ay_V1 (pc' := 50) (ce' := 0) (sl' := 0) (mc2 := 0) (ms2 := 0) (I2 := i_X10_fail) dX3_readClause_47 ml_X3_99 sh_1 (by decide) rfl rfl rfl rfl rfl rfl rfl rfl rfl (ac_M.imp (o_X10_fail _ (1 : Int32) H) ?_)
        rintro _ _ ⟨r47, s47, rfl, rfl, H⟩
        obtain ⟨hb, H⟩ := H
        exact ax_zret dX3_readClause_50 rfl hb rfl rfl ⟨_, _, rfl, rfl, H⟩
      · have H := H.2 hc36
        refine ax_aload_n (pc' := 40) dX3_readClause_39 rfl rfl ?_
        refine ax_aload_n (pc' := 41) dX3_readClause_40 rfl rfl ?_
        refine ay_V1 (pc' := 44) (ce' := 0) (sl' := 0) (mc2 := 0) (ms2 := 0) (I2 := i_X3_readFair) dX3_readClause_41 ml_X3_96 sh_14 (by decide) rfl rfl rfl rfl rfl rfl rfl rfl rfl (ac_M.imp (o_X3_readFair _  H) ?_)
        rintro _ _ ⟨r41, s41, rfl, rfl, H⟩
        obtain ⟨hb, H⟩ := H
        exact ax_zret dX3_readClause_44 rfl hb rfl rfl ⟨_, _, rfl, rfl, H⟩
    · have H := H.2 hc21
      refine ax_aload_n (pc' := 25) dX3_readClause_24 rfl rfl ?_
      refine ax_aload_n (pc' := 26) dX3_readClause_25 rfl rfl ?_
      refine ay_V1 (pc' := 29) (ce' := 0) (sl' := 0) (mc2 := 0) (ms2 := 0) (I2 := i_X3_readBeast) dX3_readClause_26 ml_X3_91 sh_14 (by decide) rfl rfl rfl rfl rfl rfl rfl rfl rfl (ac_M.imp (o_X3_readBeast _  H) ?_)
      rintro _ _ ⟨r26, s26, rfl, rfl, H⟩
      obtain ⟨hb, H⟩ := H
      exact ax_zret dX3_readClause_29 rfl hb rfl rfl ⟨_, _, rfl, rfl, H⟩
  · have H := H.2 hc6
    refine ax_aload_n (pc' := 10) dX3_readClause_9 rfl rfl ?_
    refine ax_aload_n (pc' := 11) dX3_readClause_10 rfl rfl ?_
    refine ay_V1 (pc' := 14) (ce' := 0) (sl' := 0) (mc2 := 0) (ms2 := 0) (I2 := i_X3_readFolk) dX3_readClause_11 ml_X3_86 sh_14 (by decide) rfl rfl rfl rfl rfl rfl rfl rfl rfl (ac_M.imp (o_X3_readFolk _  H) ?_)
    rintro _ _ ⟨r11, s11, rfl, rfl, H⟩
    obtain ⟨hb, H⟩ := H
    exact ax_zret dX3_readClause_14 rfl hb rfl rfl ⟨_, _, rfl, rfl, H⟩
theorem ol_X3_read_6 {g : ac_G} {τ : Nat → Nat → Int64} (d : Nat)  {Q : Int32 → ac_m → Prop}    {x2 : Int32} {s : ac_m} (H : l_X3_read_6  Q    x2 s) : ac_X g i_X3_read (d + 6) 0 0 (liI τ Q) 0 0 6 [some (.ref 14), some (.ref 1), some (.int x2)] [] (false, 586, SH, s, τ) := by
  refine H (fun x2 s => ac_X g i_X3_read (d + 6) 0 0 (liI τ Q) 0 0 6 [some (.ref 14), some (.ref 1), some (.int x2)] [] (false, 586, SH, s, τ)) ?_
  intro x2 s H
  refine ax_iload_n (pc' := 7) dX3_read_6 rfl rfl ?_
  refine ax_aload_n (pc' := 8) dX3_read_7 rfl rfl ?_
  refine ax_getI (pc' := 11) dX3_read_8 fl_X3_67 sh_1 rfl rfl rfl ?_
  refine ax_icmp_gt (pc' := 14) (tgt := 39) dX3_read_11 (by decide) rfl (fun hc11 => ?_) (fun hc11 => ?_)
  · have H := H.1 hc11
    refine ax_iconst (pc' := 40) (v := (1 : Int32)) dX3_read_39 (by decide) rfl ?_
    exact ax_zret dX3_read_40 rfl rfl rfl rfl ⟨_, _, rfl, rfl, H⟩
  · have H := H.2 hc11
    refine ax_aload_n (pc' := 15) dX3_read_14 rfl rfl ?_
    refine ay_V0 (pc' := 18) (ce' := 0) (sl' := 0) (mc2 := 0) (ms2 := 0) (I2 := i_X10_ended) dX3_read_15 ml_X3_72 sh_1 (by decide) rfl rfl rfl rfl rfl rfl rfl rfl rfl (ac_M.imp (o_X10_ended _  H) ?_)
    rintro _ _ ⟨r15, s15, rfl, rfl, H⟩
    refine ax_if_eq (pc' := 21) (tgt := 23) dX3_read_18 (by decide) rfl (fun hc18 => ?_) (fun hc18 => ?_)
    · have H := H.1 hc18
      refine ax_aload_n (pc' := 24) dX3_read_23 rfl rfl ?_
      refine ax_aload_n (pc' := 25) dX3_read_24 rfl rfl ?_
      refine ay_V1 (pc' := 28) (ce' := 0) (sl' := 0) (mc2 := 0) (ms2 := 0) (I2 := i_X3_readClause) dX3_read_25 ml_X3_76 sh_14 (by decide) rfl rfl rfl rfl rfl rfl rfl rfl rfl (ac_M.imp (o_X3_readClause _  H) ?_)
      rintro _ _ ⟨r25, s25, rfl, rfl, H⟩
      refine ax_if_ne (pc' := 31) (tgt := 33) dX3_read_28 (by decide) rfl (fun hc28 => ?_) (fun hc28 => ?_)
      · have H := H.1 hc28
        refine ax_iinc (pc' := 36) (v := (x2 + (1 : Int32))) dX3_read_33 rfl rfl rfl rfl rfl ?_
        refine ax_goto (tgt := 6) dX3_read_36 (by decide) ?_
        exact H
      · have H := H.2 hc28
        refine ax_iconst (pc' := 32) (v := (0 : Int32)) dX3_read_31 (by decide) rfl ?_
        exact ax_zret dX3_read_32 rfl rfl rfl rfl ⟨_, _, rfl, rfl, H⟩
    · have H := H.2 hc18
      refine ax_iconst (pc' := 22) (v := (1 : Int32)) dX3_read_21 (by decide) rfl ?_
      exact ax_zret dX3_read_22 rfl rfl rfl rfl ⟨_, _, rfl, rfl, H⟩
theorem o_X3_read {g : ac_G} {τ : Nat → Nat → Int64} (d : Nat)  {Q : Int32 → ac_m → Prop} {s : ac_m} (H : w_X3_read  Q s) : ac_M g i_X3_read (d + 6) 0 0 [.ref 14, .ref 1] (false, 586, SH, s, τ) (liI τ Q) := by
  refine ac_ofX (by decide +kernel) rfl rfl rfl ?_
  refine ax_aload_n (pc' := 1) dX3_read_0 rfl rfl ?_
  refine ay_V0 (pc' := 4) (ce' := 0) (sl' := 0) (mc2 := 0) (ms2 := 0) (I2 := i_X3_clear) dX3_read_1 ml_X3_64 sh_14 (by decide) rfl rfl rfl rfl rfl rfl rfl rfl rfl (ac_M.imp (o_X3_clear _  H) ?_)
  rintro _ _ ⟨s1, rfl, rfl, H⟩
  refine ax_iconst (pc' := 5) (v := (0 : Int32)) dX3_read_4 (by decide) rfl ?_
  refine ax_istore_n (pc' := 6) dX3_read_5 rfl rfl rfl ?_
  refine ol_X3_read_6 d       H
theorem o_X3_hasFolk {g : ac_G} {τ : Nat → Nat → Int64} (d : Nat) (p1 : Int32) {Q : Int32 → ac_m → Prop} {s : ac_m} (H : w_X3_hasFolk p1 Q s) : ac_M g i_X3_hasFolk d 0 0 [.ref 3, .int p1] (false, 586, SH, s, τ) (liI τ Q) := by
  refine ac_ofX (by decide +kernel) rfl rfl rfl ?_
  refine ax_iload_n (pc' := 1) dX3_hasFolk_0 rfl rfl ?_
  refine ax_if_lt (pc' := 4) (tgt := 22) dX3_hasFolk_1 (by decide) rfl (fun hc1 => ?_) (fun hc1 => ?_)
  · have H := H.1 hc1
    refine ax_iconst (pc' := 23) (v := (0 : Int32)) dX3_hasFolk_22 (by decide) rfl ?_
    exact ax_zret dX3_hasFolk_23 rfl rfl rfl rfl ⟨_, _, rfl, rfl, H⟩
  · have H := H.2 hc1
    refine ax_iload_n (pc' := 5) dX3_hasFolk_4 rfl rfl ?_
    refine ax_aload_n (pc' := 6) dX3_hasFolk_5 rfl rfl ?_
    refine ax_getI (pc' := 9) dX3_hasFolk_6 fl_X3_42 sh_3 rfl rfl rfl ?_
    refine ax_icmp_ge (pc' := 12) (tgt := 22) dX3_hasFolk_9 (by decide) rfl (fun hc9 => ?_) (fun hc9 => ?_)
    · have H := H.1 hc9
      refine ax_iconst (pc' := 23) (v := (0 : Int32)) dX3_hasFolk_22 (by decide) rfl ?_
      exact ax_zret dX3_hasFolk_23 rfl rfl rfl rfl ⟨_, _, rfl, rfl, H⟩
    · have H := H.2 hc9
      refine ax_iload_n (pc' := 13) dX3_hasFolk_12 rfl rfl ?_
      refine ax_bipush (pc' := 15) (v := (6 : Int32)) dX3_hasFolk_13 (by decide) rfl ?_
      refine ax_icmp_ge (pc' := 18) (tgt := 22) dX3_hasFolk_15 (by decide) rfl (fun hc15 => ?_) (fun hc15 => ?_)
      · have H := H.1 hc15
        refine ax_iconst (pc' := 23) (v := (0 : Int32)) dX3_hasFolk_22 (by decide) rfl ?_
        exact ax_zret dX3_hasFolk_23 rfl rfl rfl rfl ⟨_, _, rfl, rfl, H⟩
      · have H := H.2 hc15
        refine ax_iconst (pc' := 19) (v := (1 : Int32)) dX3_hasFolk_18 (by decide) rfl ?_
        refine ax_goto (tgt := 23) dX3_hasFolk_19 (by decide) ?_
        exact ax_zret dX3_hasFolk_23 rfl rfl rfl rfl ⟨_, _, rfl, rfl, H⟩
theorem o_X3_hasBeast {g : ac_G} {τ : Nat → Nat → Int64} (d : Nat) (p1 : Int32) {Q : Int32 → ac_m → Prop} {s : ac_m} (H : w_X3_hasBeast p1 Q s) : ac_M g i_X3_hasBeast d 0 0 [.ref 3, .int p1] (false, 586, SH, s, τ) (liI τ Q) := by
  refine ac_ofX (by decide +kernel) rfl rfl rfl ?_
  refine ax_iload_n (pc' := 1) dX3_hasBeast_0 rfl rfl ?_
  refine ax_if_lt (pc' := 4) (tgt := 22) dX3_hasBeast_1 (by decide) rfl (fun hc1 => ?_) (fun hc1 => ?_)
  · have H := H.1 hc1
    refine ax_iconst (pc' := 23) (v := (0 : Int32)) dX3_hasBeast_22 (by decide) rfl ?_
    exact ax_zret dX3_hasBeast_23 rfl rfl rfl rfl ⟨_, _, rfl, rfl, H⟩
  · have H := H.2 hc1
    refine ax_iload_n (pc' := 5) dX3_hasBeast_4 rfl rfl ?_
    refine ax_aload_n (pc' := 6) dX3_hasBeast_5 rfl rfl ?_
    refine ax_getI (pc' := 9) dX3_hasBeast_6 fl_X3_46 sh_3 rfl rfl rfl ?_
    refine ax_icmp_ge (pc' := 12) (tgt := 22) dX3_hasBeast_9 (by decide) rfl (fun hc9 => ?_) (fun hc9 => ?_)
    · have H := H.1 hc9
      refine ax_iconst (pc' := 23) (v := (0 : Int32)) dX3_hasBeast_22 (by decide) rfl ?_
      exact ax_zret dX3_hasBeast_23 rfl rfl rfl rfl ⟨_, _, rfl, rfl, H⟩
    · have H := H.2 hc9
      refine ax_iload_n (pc' := 13) dX3_hasBeast_12 rfl rfl ?_
      refine ax_bipush (pc' := 15) (v := (12 : Int32)) dX3_hasBeast_13 (by decide) rfl ?_
      refine ax_icmp_ge (pc' := 18) (tgt := 22) dX3_hasBeast_15 (by decide) rfl (fun hc15 => ?_) (fun hc15 => ?_)
      · have H := H.1 hc15
        refine ax_iconst (pc' := 23) (v := (0 : Int32)) dX3_hasBeast_22 (by decide) rfl ?_
        exact ax_zret dX3_hasBeast_23 rfl rfl rfl rfl ⟨_, _, rfl, rfl, H⟩
      · have H := H.2 hc15
        refine ax_iconst (pc' := 19) (v := (1 : Int32)) dX3_hasBeast_18 (by decide) rfl ?_
        refine ax_goto (tgt := 23) dX3_hasBeast_19 (by decide) ?_
        exact ax_zret dX3_hasBeast_23 rfl rfl rfl rfl ⟨_, _, rfl, rfl, H⟩
theorem o_X3_growthOf {g : ac_G} {τ : Nat → Nat → Int64} (d : Nat) (p1 : Int32) {Q : Int32 → ac_m → Prop} {s : ac_m} (H : w_X3_growthOf p1 Q s) : ac_M g i_X3_growthOf (d + 1) 0 0 [.ref 3, .int p1] (false, 586, SH, s, τ) (liI τ Q) := by
  refine ac_ofX (by decide +kernel) rfl rfl rfl ?_
  refine ax_aload_n (pc' := 1) dX3_growthOf_0 rfl rfl ?_
  refine ax_iload_n (pc' := 2) dX3_growthOf_1 rfl rfl ?_
  refine ay_V1 (pc' := 5) (ce' := 0) (sl' := 0) (mc2 := 0) (ms2 := 0) (I2 := i_X3_hasFolk) dX3_growthOf_2 ml_X3_119 sh_3 (by decide) rfl rfl rfl rfl rfl rfl rfl rfl rfl (ac_M.imp (o_X3_hasFolk _ p1 H) ?_)
  rintro _ _ ⟨r2, s2, rfl, rfl, H⟩
  refine ax_if_eq (pc' := 8) (tgt := 17) dX3_growthOf_5 (by decide) rfl (fun hc5 => ?_) (fun hc5 => ?_)
  · have H := H.1 hc5
    refine ax_iconst (pc' := 18) (v := (0 : Int32)) dX3_growthOf_17 (by decide) rfl ?_
    exact ax_iret dX3_growthOf_18 rfl rfl rfl ⟨_, _, rfl, rfl, H⟩
  · have H := H.2 hc5
    refine ax_aload_n (pc' := 9) dX3_growthOf_8 rfl rfl ?_
    refine ax_getR (pc' := 12) dX3_growthOf_9 fl_X3_15 sh_3 rfl rfl rfl ?_
    refine ax_iload_n (pc' := 13) dX3_growthOf_12 rfl rfl ?_
    obtain ⟨hj13, H⟩ := H
    refine ax_iald (pc' := 14) dX3_growthOf_13 sh_5 hj13 rfl rfl ?_
    refine ax_goto (tgt := 18) dX3_growthOf_14 (by decide) ?_
    exact ax_iret dX3_growthOf_18 rfl rfl rfl ⟨_, _, rfl, rfl, H⟩
theorem o_X3_doerOf {g : ac_G} {τ : Nat → Nat → Int64} (d : Nat) (p1 : Int32) {Q : Int32 → ac_m → Prop} {s : ac_m} (H : w_X3_doerOf p1 Q s) : ac_M g i_X3_doerOf (d + 1) 0 0 [.ref 3, .int p1] (false, 586, SH, s, τ) (liI τ Q) := by
  refine ac_ofX (by decide +kernel) rfl rfl rfl ?_
  refine ax_aload_n (pc' := 1) dX3_doerOf_0 rfl rfl ?_
  refine ax_iload_n (pc' := 2) dX3_doerOf_1 rfl rfl ?_
  refine ay_V1 (pc' := 5) (ce' := 0) (sl' := 0) (mc2 := 0) (ms2 := 0) (I2 := i_X3_hasBeast) dX3_doerOf_2 ml_X3_122 sh_3 (by decide) rfl rfl rfl rfl rfl rfl rfl rfl rfl (ac_M.imp (o_X3_hasBeast _ p1 H) ?_)
  rintro _ _ ⟨r2, s2, rfl, rfl, H⟩
  refine ax_if_eq (pc' := 8) (tgt := 17) dX3_doerOf_5 (by decide) rfl (fun hc5 => ?_) (fun hc5 => ?_)
  · have H := H.1 hc5
    refine ax_iconst (pc' := 18) (v := (-1 : Int32)) dX3_doerOf_17 (by decide) rfl ?_
    exact ax_iret dX3_doerOf_18 rfl rfl rfl ⟨_, _, rfl, rfl, H⟩
  · have H := H.2 hc5
    refine ax_aload_n (pc' := 9) dX3_doerOf_8 rfl rfl ?_
    refine ax_getR (pc' := 12) dX3_doerOf_9 fl_X3_18 sh_3 rfl rfl rfl ?_
    refine ax_iload_n (pc' := 13) dX3_doerOf_12 rfl rfl ?_
    obtain ⟨hj13, H⟩ := H
    refine ax_iald (pc' := 14) dX3_doerOf_13 sh_6 hj13 rfl rfl ?_
    refine ax_goto (tgt := 18) dX3_doerOf_14 (by decide) ?_
    exact ax_iret dX3_doerOf_18 rfl rfl rfl ⟨_, _, rfl, rfl, H⟩
theorem o_X3_receiverOf {g : ac_G} {τ : Nat → Nat → Int64} (d : Nat) (p1 : Int32) {Q : Int32 → ac_m → Prop} {s : ac_m} (H : w_X3_receiverOf p1 Q s) : ac_M g i_X3_receiverOf (d + 1) 0 0 [.ref 3, .int p1] (false, 586, SH, s, τ) (liI τ Q) := by
  refine ac_ofX (by decide +kernel) rfl rfl rfl ?_
  refine ax_aload_n (pc' := 1) dX3_receiverOf_0 rfl rfl ?_
  refine ax_iload_n (pc' := 2) dX3_receiverOf_1 rfl rfl ?_
  refine ay_V1 (pc' := 5) (ce' := 0) (sl' := 0) (mc2 := 0) (ms2 := 0) (I2 := i_X3_hasBeast) dX3_receiverOf_2 ml_X3_122 sh_3 (by decide) rfl rfl rfl rfl rfl rfl rfl rfl rfl (ac_M.imp (o_X3_hasBeast _ p1 H) ?_)
  rintro _ _ ⟨r2, s2, rfl, rfl, H⟩
  refine ax_if_eq (pc' := 8) (tgt := 17) dX3_receiverOf_5 (by decide) rfl (fun hc5 => ?_) (fun hc5 => ?_)
  · have H := H.1 hc5
    refine ax_iconst (pc' := 18) (v := (-1 : Int32)) dX3_receiverOf_17 (by decide) rfl ?_
    exact ax_iret dX3_receiverOf_18 rfl rfl rfl ⟨_, _, rfl, rfl, H⟩
  · have H := H.2 hc5
    refine ax_aload_n (pc' := 9) dX3_receiverOf_8 rfl rfl ?_
    refine ax_getR (pc' := 12) dX3_receiverOf_9 fl_X3_21 sh_3 rfl rfl rfl ?_
    refine ax_iload_n (pc' := 13) dX3_receiverOf_12 rfl rfl ?_
    obtain ⟨hj13, H⟩ := H
    refine ax_iald (pc' := 14) dX3_receiverOf_13 sh_7 hj13 rfl rfl ?_
    refine ax_goto (tgt := 18) dX3_receiverOf_14 (by decide) ?_
    exact ax_iret dX3_receiverOf_18 rfl rfl rfl ⟨_, _, rfl, rfl, H⟩
theorem o_X3_kindOf {g : ac_G} {τ : Nat → Nat → Int64} (d : Nat) (p1 : Int32) {Q : Int32 → ac_m → Prop} {s : ac_m} (H : w_X3_kindOf p1 Q s) : ac_M g i_X3_kindOf (d + 1) 0 0 [.ref 3, .int p1] (false, 586, SH, s, τ) (liI τ Q) := by
  refine ac_ofX (by decide +kernel) rfl rfl rfl ?_
  refine ax_aload_n (pc' := 1) dX3_kindOf_0 rfl rfl ?_
  refine ax_iload_n (pc' := 2) dX3_kindOf_1 rfl rfl ?_
  refine ay_V1 (pc' := 5) (ce' := 0) (sl' := 0) (mc2 := 0) (ms2 := 0) (I2 := i_X3_hasBeast) dX3_kindOf_2 ml_X3_122 sh_3 (by decide) rfl rfl rfl rfl rfl rfl rfl rfl rfl (ac_M.imp (o_X3_hasBeast _ p1 H) ?_)
  rintro _ _ ⟨r2, s2, rfl, rfl, H⟩
  refine ax_if_eq (pc' := 8) (tgt := 17) dX3_kindOf_5 (by decide) rfl (fun hc5 => ?_) (fun hc5 => ?_)
  · have H := H.1 hc5
    refine ax_iconst (pc' := 18) (v := (-1 : Int32)) dX3_kindOf_17 (by decide) rfl ?_
    exact ax_iret dX3_kindOf_18 rfl rfl rfl ⟨_, _, rfl, rfl, H⟩
  · have H := H.2 hc5
    refine ax_aload_n (pc' := 9) dX3_kindOf_8 rfl rfl ?_
    refine ax_getR (pc' := 12) dX3_kindOf_9 fl_X3_24 sh_3 rfl rfl rfl ?_
    refine ax_iload_n (pc' := 13) dX3_kindOf_12 rfl rfl ?_
    obtain ⟨hj13, H⟩ := H
    refine ax_iald (pc' := 14) dX3_kindOf_13 sh_8 hj13 rfl rfl ?_
    refine ax_goto (tgt := 18) dX3_kindOf_14 (by decide) ?_
    exact ax_iret dX3_kindOf_18 rfl rfl rfl ⟨_, _, rfl, rfl, H⟩
theorem o_X3_fairPart {g : ac_G} {τ : Nat → Nat → Int64} (d : Nat) (p1 : Int32) (p2 : Int32) {Q : Int32 → ac_m → Prop} {s : ac_m} (H : w_X3_fairPart p1 p2 Q s) : ac_M g i_X3_fairPart d 0 0 [.ref 3, .int p1, .int p2] (false, 586, SH, s, τ) (liI τ Q) := by
  refine ac_ofX (by decide +kernel) rfl rfl rfl ?_
  refine ax_iload_n (pc' := 1) dX3_fairPart_0 rfl rfl ?_
  refine ax_if_lt (pc' := 4) (tgt := 18) dX3_fairPart_1 (by decide) rfl (fun hc1 => ?_) (fun hc1 => ?_)
  · have H := H.1 hc1
    refine ax_iconst (pc' := 19) (v := (-1 : Int32)) dX3_fairPart_18 (by decide) rfl ?_
    exact ax_iret dX3_fairPart_19 rfl rfl rfl ⟨_, _, rfl, rfl, H⟩
  · have H := H.2 hc1
    refine ax_iload_n (pc' := 5) dX3_fairPart_4 rfl rfl ?_
    refine ax_aload_n (pc' := 6) dX3_fairPart_5 rfl rfl ?_
    refine ax_getI (pc' := 9) dX3_fairPart_6 fl_X3_49 sh_3 rfl rfl rfl ?_
    refine ax_icmp_ge (pc' := 12) (tgt := 18) dX3_fairPart_9 (by decide) rfl (fun hc9 => ?_) (fun hc9 => ?_)
    · have H := H.1 hc9
      refine ax_iconst (pc' := 19) (v := (-1 : Int32)) dX3_fairPart_18 (by decide) rfl ?_
      exact ax_iret dX3_fairPart_19 rfl rfl rfl ⟨_, _, rfl, rfl, H⟩
    · have H := H.2 hc9
      refine ax_iload_n (pc' := 13) dX3_fairPart_12 rfl rfl ?_
      refine ax_bipush (pc' := 15) (v := (10 : Int32)) dX3_fairPart_13 (by decide) rfl ?_
      refine ax_icmp_lt (pc' := 18) (tgt := 20) dX3_fairPart_15 (by decide) rfl (fun hc15 => ?_) (fun hc15 => ?_)
      · have H := H.1 hc15
        refine ax_iload_n (pc' := 21) dX3_fairPart_20 rfl rfl ?_
        refine ax_if_ne (pc' := 24) (tgt := 33) dX3_fairPart_21 (by decide) rfl (fun hc21 => ?_) (fun hc21 => ?_)
        · have H := H.1 hc21
          refine ax_iload_n (pc' := 34) dX3_fairPart_33 rfl rfl ?_
          refine ax_iconst (pc' := 35) (v := (1 : Int32)) dX3_fairPart_34 (by decide) rfl ?_
          refine ax_icmp_ne (pc' := 38) (tgt := 47) dX3_fairPart_35 (by decide) rfl (fun hc35 => ?_) (fun hc35 => ?_)
          · have H := H.1 hc35
            refine ax_aload_n (pc' := 48) dX3_fairPart_47 rfl rfl ?_
            refine ax_getR (pc' := 51) dX3_fairPart_48 fl_X3_36 sh_3 rfl rfl rfl ?_
            refine ax_iload_n (pc' := 52) dX3_fairPart_51 rfl rfl ?_
            obtain ⟨hj52, H⟩ := H
            refine ax_iald (pc' := 53) dX3_fairPart_52 sh_12 hj52 rfl rfl ?_
            exact ax_iret dX3_fairPart_53 rfl rfl rfl ⟨_, _, rfl, rfl, H⟩
          · have H := H.2 hc35
            refine ax_aload_n (pc' := 39) dX3_fairPart_38 rfl rfl ?_
            refine ax_getR (pc' := 42) dX3_fairPart_39 fl_X3_33 sh_3 rfl rfl rfl ?_
            refine ax_iload_n (pc' := 43) dX3_fairPart_42 rfl rfl ?_
            obtain ⟨hj43, H⟩ := H
            refine ax_iald (pc' := 44) dX3_fairPart_43 sh_11 hj43 rfl rfl ?_
            refine ax_goto (tgt := 53) dX3_fairPart_44 (by decide) ?_
            exact ax_iret dX3_fairPart_53 rfl rfl rfl ⟨_, _, rfl, rfl, H⟩
        · have H := H.2 hc21
          refine ax_aload_n (pc' := 25) dX3_fairPart_24 rfl rfl ?_
          refine ax_getR (pc' := 28) dX3_fairPart_25 fl_X3_30 sh_3 rfl rfl rfl ?_
          refine ax_iload_n (pc' := 29) dX3_fairPart_28 rfl rfl ?_
          obtain ⟨hj29, H⟩ := H
          refine ax_iald (pc' := 30) dX3_fairPart_29 sh_10 hj29 rfl rfl ?_
          refine ax_goto (tgt := 53) dX3_fairPart_30 (by decide) ?_
          exact ax_iret dX3_fairPart_53 rfl rfl rfl ⟨_, _, rfl, rfl, H⟩
      · have H := H.2 hc15
        refine ax_iconst (pc' := 19) (v := (-1 : Int32)) dX3_fairPart_18 (by decide) rfl ?_
        exact ax_iret dX3_fairPart_19 rfl rfl rfl ⟨_, _, rfl, rfl, H⟩
theorem ol_X3_matching_5 {g : ac_G} {τ : Nat → Nat → Int64} (d : Nat) (r1 : Nat) (p2 : Int32) (hr1 : SH r1 = .inl (0, 13, 0)) (hn1 : Nat.blt r1 586 = true) {Q : Int32 → ac_m → Prop}  (f2 : Int32)  {x3 : Int32} {x4 : Int32} {s : ac_m} (H : l_X3_matching_5 r1 p2 Q  f2  x3 x4 s) : ac_X g i_X3_matching d 0 0 (liI τ Q) 0 0 5 [some (.ref 3), some (.ref r1), some (.int f2), some (.int x3), some (.int x4)] [] (false, 586, SH, s, τ) := by
  refine H (fun x3 x4 s => ac_X g i_X3_matching d 0 0 (liI τ Q) 0 0 5 [some (.ref 3), some (.ref r1), some (.int f2), some (.int x3), some (.int x4)] [] (false, 586, SH, s, τ)) ?_
  intro x3 x4 s H
  refine ax_iload (pc' := 7) dX3_matching_5 rfl rfl ?_
  refine ax_aload_n (pc' := 8) dX3_matching_7 rfl rfl ?_
  refine ax_getI (pc' := 11) dX3_matching_8 fl_X3_46 sh_3 rfl rfl rfl ?_
  refine ax_icmp_ge (pc' := 14) (tgt := 42) dX3_matching_11 (by decide) rfl (fun hc11 => ?_) (fun hc11 => ?_)
  · have H := H.1 hc11
    refine ax_iload_n (pc' := 43) dX3_matching_42 rfl rfl ?_
    exact ax_iret dX3_matching_43 rfl rfl rfl ⟨_, _, rfl, rfl, H⟩
  · have H := H.2 hc11
    refine ax_iload (pc' := 16) dX3_matching_14 rfl rfl ?_
    refine ax_aload_n (pc' := 17) dX3_matching_16 rfl rfl ?_
    refine ax_alen (pc' := 18) (v := (13 : Int32)) dX3_matching_17 hr1 rfl (by decide) hn1 rfl ?_
    refine ax_icmp_ge (pc' := 21) (tgt := 42) dX3_matching_18 (by decide) rfl (fun hc18 => ?_) (fun hc18 => ?_)
    · have H := H.1 hc18
      refine ax_iload_n (pc' := 43) dX3_matching_42 rfl rfl ?_
      exact ax_iret dX3_matching_43 rfl rfl rfl ⟨_, _, rfl, rfl, H⟩
    · have H := H.2 hc18
      refine ax_aload_n (pc' := 22) dX3_matching_21 rfl rfl ?_
      refine ax_iload (pc' := 24) dX3_matching_22 rfl rfl ?_
      obtain ⟨hj24, H⟩ := H
      refine ax_iald (pc' := 25) dX3_matching_24 hr1 hj24 hn1 rfl ?_
      refine ax_iload_n (pc' := 26) dX3_matching_25 rfl rfl ?_
      refine ax_icmp_ne (pc' := 29) (tgt := 36) dX3_matching_26 (by decide) rfl (fun hc26 => ?_) (fun hc26 => ?_)
      · have H := H.1 hc26
        refine ax_iinc (pc' := 39) (v := (x4 + (1 : Int32))) dX3_matching_36 rfl rfl rfl rfl rfl ?_
        refine ax_goto (tgt := 5) dX3_matching_39 (by decide) ?_
        exact H
      · have H := H.2 hc26
        refine ax_iload_n (pc' := 30) dX3_matching_29 rfl rfl ?_
        refine ax_iconst (pc' := 31) (v := (1 : Int32)) dX3_matching_30 (by decide) rfl ?_
        refine ax_iload (pc' := 33) dX3_matching_31 rfl rfl ?_
        refine ax_ishl (pc' := 34) dX3_matching_33 rfl ?_
        refine ax_ior (pc' := 35) dX3_matching_34 rfl ?_
        refine ax_istore_n (pc' := 36) dX3_matching_35 rfl rfl rfl ?_
        refine ax_iinc (pc' := 39) (v := (x4 + (1 : Int32))) dX3_matching_36 rfl rfl rfl rfl rfl ?_
        refine ax_goto (tgt := 5) dX3_matching_39 (by decide) ?_
        exact H
theorem o_X3_matching {g : ac_G} {τ : Nat → Nat → Int64} (d : Nat) (r1 : Nat) (p2 : Int32) (hr1 : SH r1 = .inl (0, 13, 0)) (hn1 : Nat.blt r1 586 = true) {Q : Int32 → ac_m → Prop} {s : ac_m} (H : w_X3_matching r1 p2 Q s) : ac_M g i_X3_matching d 0 0 [.ref 3, .ref r1, .int p2] (false, 586, SH, s, τ) (liI τ Q) := by
  refine ac_ofX (by decide +kernel) rfl rfl rfl ?_
  refine ax_iconst (pc' := 1) (v := (0 : Int32)) dX3_matching_0 (by decide) rfl ?_
  refine ax_istore_n (pc' := 2) dX3_matching_1 rfl rfl rfl ?_
  refine ax_iconst (pc' := 3) (v := (0 : Int32)) dX3_matching_2 (by decide) rfl ?_
  refine ax_istore (pc' := 5) dX3_matching_3 rfl rfl rfl ?_
  refine ol_X3_matching_5 d r1 p2 hr1 hn1 _    H
theorem o_X3_doneBy {g : ac_G} {τ : Nat → Nat → Int64} (d : Nat) (p1 : Int32) {Q : Int32 → ac_m → Prop} {s : ac_m} (H : w_X3_doneBy p1 Q s) : ac_M g i_X3_doneBy (d + 1) 0 0 [.ref 3, .int p1] (false, 586, SH, s, τ) (liI τ Q) := by
  refine ac_ofX (by decide +kernel) rfl rfl rfl ?_
  refine ax_aload_n (pc' := 1) dX3_doneBy_0 rfl rfl ?_
  refine ax_aload_n (pc' := 2) dX3_doneBy_1 rfl rfl ?_
  refine ax_getR (pc' := 5) dX3_doneBy_2 fl_X3_18 sh_3 rfl rfl rfl ?_
  refine ax_iload_n (pc' := 6) dX3_doneBy_5 rfl rfl ?_
  refine ay_V2 (pc' := 9) (ce' := 0) (sl' := 0) (mc2 := 0) (ms2 := 0) (I2 := i_X3_matching) dX3_doneBy_6 ml_X3_125 sh_3 (by decide) rfl rfl rfl rfl rfl rfl rfl rfl rfl (ac_M.imp (o_X3_matching _ 6 p1 sh_6 rfl H) ?_)
  rintro _ _ ⟨r6, s6, rfl, rfl, H⟩
  exact ax_iret dX3_doneBy_9 rfl rfl rfl ⟨_, _, rfl, rfl, H⟩
theorem o_X3_doneFor {g : ac_G} {τ : Nat → Nat → Int64} (d : Nat) (p1 : Int32) {Q : Int32 → ac_m → Prop} {s : ac_m} (H : w_X3_doneFor p1 Q s) : ac_M g i_X3_doneFor (d + 1) 0 0 [.ref 3, .int p1] (false, 586, SH, s, τ) (liI τ Q) := by
  refine ac_ofX (by decide +kernel) rfl rfl rfl ?_
  refine ax_aload_n (pc' := 1) dX3_doneFor_0 rfl rfl ?_
  refine ax_aload_n (pc' := 2) dX3_doneFor_1 rfl rfl ?_
  refine ax_getR (pc' := 5) dX3_doneFor_2 fl_X3_21 sh_3 rfl rfl rfl ?_
  refine ax_iload_n (pc' := 6) dX3_doneFor_5 rfl rfl ?_
  refine ay_V2 (pc' := 9) (ce' := 0) (sl' := 0) (mc2 := 0) (ms2 := 0) (I2 := i_X3_matching) dX3_doneFor_6 ml_X3_125 sh_3 (by decide) rfl rfl rfl rfl rfl rfl rfl rfl rfl (ac_M.imp (o_X3_matching _ 7 p1 sh_7 rfl H) ?_)
  rintro _ _ ⟨r6, s6, rfl, rfl, H⟩
  exact ax_iret dX3_doneFor_9 rfl rfl rfl ⟨_, _, rfl, rfl, H⟩
theorem o_X3_ofKind {g : ac_G} {τ : Nat → Nat → Int64} (d : Nat) (p1 : Int32) {Q : Int32 → ac_m → Prop} {s : ac_m} (H : w_X3_ofKind p1 Q s) : ac_M g i_X3_ofKind (d + 1) 0 0 [.ref 3, .int p1] (false, 586, SH, s, τ) (liI τ Q) := by
  refine ac_ofX (by decide +kernel) rfl rfl rfl ?_
  refine ax_aload_n (pc' := 1) dX3_ofKind_0 rfl rfl ?_
  refine ax_aload_n (pc' := 2) dX3_ofKind_1 rfl rfl ?_
  refine ax_getR (pc' := 5) dX3_ofKind_2 fl_X3_24 sh_3 rfl rfl rfl ?_
  refine ax_iload_n (pc' := 6) dX3_ofKind_5 rfl rfl ?_
  refine ay_V2 (pc' := 9) (ce' := 0) (sl' := 0) (mc2 := 0) (ms2 := 0) (I2 := i_X3_matching) dX3_ofKind_6 ml_X3_125 sh_3 (by decide) rfl rfl rfl rfl rfl rfl rfl rfl rfl (ac_M.imp (o_X3_matching _ 8 p1 sh_8 rfl H) ?_)
  rintro _ _ ⟨r6, s6, rfl, rfl, H⟩
  exact ax_iret dX3_ofKind_9 rfl rfl rfl ⟨_, _, rfl, rfl, H⟩
theorem ol_X3_doersFor_5 {g : ac_G} {τ : Nat → Nat → Int64} (d : Nat) (p1 : Int32) (p2 : Int32) {Q : Int32 → ac_m → Prop}  (f1 : Int32) (f2 : Int32)  {x3 : Int32} {x4 : Int32} {s : ac_m} (H : l_X3_doersFor_5 p1 p2 Q  f1 f2  x3 x4 s) : ac_X g i_X3_doersFor d 0 0 (liI τ Q) 0 0 5 [some (.ref 3), some (.int f1), some (.int f2), some (.int x3), some (.int x4)] [] (false, 586, SH, s, τ) := by
  refine H (fun x3 x4 s => ac_X g i_X3_doersFor d 0 0 (liI τ Q) 0 0 5 [some (.ref 3), some (.int f1), some (.int f2), some (.int x3), some (.int x4)] [] (false, 586, SH, s, τ)) ?_
  intro x3 x4 s H
  refine ax_iload (pc' := 7) dX3_doersFor_5 rfl rfl ?_
  refine ax_bipush (pc' := 9) (v := (12 : Int32)) dX3_doersFor_7 (by decide) rfl ?_
  refine ax_icmp_ge (pc' := 12) (tgt := 53) dX3_doersFor_9 (by decide) rfl (fun hc9 => ?_) (fun hc9 => ?_)
  · have H := H.1 hc9
    refine ax_iload_n (pc' := 54) dX3_doersFor_53 rfl rfl ?_
    exact ax_iret dX3_doersFor_54 rfl rfl rfl ⟨_, _, rfl, rfl, H⟩
  · have H := H.2 hc9
    refine ax_iload_n (pc' := 13) dX3_doersFor_12 rfl rfl ?_
    refine ax_iconst (pc' := 14) (v := (1 : Int32)) dX3_doersFor_13 (by decide) rfl ?_
    refine ax_iload (pc' := 16) dX3_doersFor_14 rfl rfl ?_
    refine ax_ishl (pc' := 17) dX3_doersFor_16 rfl ?_
    refine ax_iand (pc' := 18) dX3_doersFor_17 rfl ?_
    refine ax_if_eq (pc' := 21) (tgt := 47) dX3_doersFor_18 (by decide) rfl (fun hc18 => ?_) (fun hc18 => ?_)
    · have H := H.1 hc18
      refine ax_iinc (pc' := 50) (v := (x4 + (1 : Int32))) dX3_doersFor_47 rfl rfl rfl rfl rfl ?_
      refine ax_goto (tgt := 5) dX3_doersFor_50 (by decide) ?_
      exact H
    · have H := H.2 hc18
      refine ax_iload_n (pc' := 22) dX3_doersFor_21 rfl rfl ?_
      refine ax_iconst (pc' := 23) (v := (1 : Int32)) dX3_doersFor_22 (by decide) rfl ?_
      refine ax_aload_n (pc' := 24) dX3_doersFor_23 rfl rfl ?_
      refine ax_getR (pc' := 27) dX3_doersFor_24 fl_X3_21 sh_3 rfl rfl rfl ?_
      refine ax_iload (pc' := 29) dX3_doersFor_27 rfl rfl ?_
      obtain ⟨hj29, H⟩ := H
      refine ax_iald (pc' := 30) dX3_doersFor_29 sh_7 hj29 rfl rfl ?_
      refine ax_ishl (pc' := 31) dX3_doersFor_30 rfl ?_
      refine ax_iand (pc' := 32) dX3_doersFor_31 rfl ?_
      refine ax_if_eq (pc' := 35) (tgt := 47) dX3_doersFor_32 (by decide) rfl (fun hc32 => ?_) (fun hc32 => ?_)
      · have H := H.1 hc32
        refine ax_iinc (pc' := 50) (v := (x4 + (1 : Int32))) dX3_doersFor_47 rfl rfl rfl rfl rfl ?_
        refine ax_goto (tgt := 5) dX3_doersFor_50 (by decide) ?_
        exact H
      · have H := H.2 hc32
        refine ax_iload_n (pc' := 36) dX3_doersFor_35 rfl rfl ?_
        refine ax_iconst (pc' := 37) (v := (1 : Int32)) dX3_doersFor_36 (by decide) rfl ?_
        refine ax_aload_n (pc' := 38) dX3_doersFor_37 rfl rfl ?_
        refine ax_getR (pc' := 41) dX3_doersFor_38 fl_X3_18 sh_3 rfl rfl rfl ?_
        refine ax_iload (pc' := 43) dX3_doersFor_41 rfl rfl ?_
        obtain ⟨hj43, H⟩ := H
        refine ax_iald (pc' := 44) dX3_doersFor_43 sh_6 hj43 rfl rfl ?_
        refine ax_ishl (pc' := 45) dX3_doersFor_44 rfl ?_
        refine ax_ior (pc' := 46) dX3_doersFor_45 rfl ?_
        refine ax_istore_n (pc' := 47) dX3_doersFor_46 rfl rfl rfl ?_
        refine ax_iinc (pc' := 50) (v := (x4 + (1 : Int32))) dX3_doersFor_47 rfl rfl rfl rfl rfl ?_
        refine ax_goto (tgt := 5) dX3_doersFor_50 (by decide) ?_
        exact H
theorem o_X3_doersFor {g : ac_G} {τ : Nat → Nat → Int64} (d : Nat) (p1 : Int32) (p2 : Int32) {Q : Int32 → ac_m → Prop} {s : ac_m} (H : w_X3_doersFor p1 p2 Q s) : ac_M g i_X3_doersFor d 0 0 [.ref 3, .int p1, .int p2] (false, 586, SH, s, τ) (liI τ Q) := by
  refine ac_ofX (by decide +kernel) rfl rfl rfl ?_
  refine ax_iconst (pc' := 1) (v := (0 : Int32)) dX3_doersFor_0 (by decide) rfl ?_
  refine ax_istore_n (pc' := 2) dX3_doersFor_1 rfl rfl rfl ?_
  refine ax_iconst (pc' := 3) (v := (0 : Int32)) dX3_doersFor_2 (by decide) rfl ?_
  refine ax_istore (pc' := 5) dX3_doersFor_3 rfl rfl rfl ?_
  refine ol_X3_doersFor_5 d p1 p2  _ _    H
theorem o_X3_useFair {g : ac_G} {τ : Nat → Nat → Int64} (d : Nat) (p1 : Int32) {Q : ac_m → Prop} {s : ac_m} (H : w_X3_useFair p1 Q s) : ac_M g i_X3_useFair d 0 0 [.ref 3, .int p1] (false, 586, SH, s, τ) (liV τ Q) := by
  refine ac_ofX (by decide +kernel) rfl rfl rfl ?_
  refine ax_iload_n (pc' := 1) dX3_useFair_0 rfl rfl ?_
  refine ax_if_lt (pc' := 4) (tgt := 10) dX3_useFair_1 (by decide) rfl (fun hc1 => ?_) (fun hc1 => ?_)
  · have H := H.1 hc1
    exact ax_vret dX3_useFair_10 rfl rfl rfl ⟨_, rfl, rfl, H⟩
  · have H := H.2 hc1
    refine ax_iload_n (pc' := 5) dX3_useFair_4 rfl rfl ?_
    refine ax_bipush (pc' := 7) (v := (10 : Int32)) dX3_useFair_5 (by decide) rfl ?_
    refine ax_icmp_lt (pc' := 10) (tgt := 11) dX3_useFair_7 (by decide) rfl (fun hc7 => ?_) (fun hc7 => ?_)
    · have H := H.1 hc7
      refine ax_aload_n (pc' := 12) dX3_useFair_11 rfl rfl ?_
      refine ax_getR (pc' := 15) dX3_useFair_12 fl_X3_30 sh_3 rfl rfl rfl ?_
      refine ax_iload_n (pc' := 16) dX3_useFair_15 rfl rfl ?_
      obtain ⟨hj16, H⟩ := H
      refine ax_iald (pc' := 17) dX3_useFair_16 sh_10 hj16 rfl rfl ?_
      refine ax_istore_n (pc' := 18) dX3_useFair_17 rfl rfl rfl ?_
      refine ax_aload_n (pc' := 19) dX3_useFair_18 rfl rfl ?_
      refine ax_getR (pc' := 22) dX3_useFair_19 fl_X3_33 sh_3 rfl rfl rfl ?_
      refine ax_iload_n (pc' := 23) dX3_useFair_22 rfl rfl ?_
      obtain ⟨hj23, H⟩ := H
      refine ax_iald (pc' := 24) dX3_useFair_23 sh_11 hj23 rfl rfl ?_
      refine ax_istore_n (pc' := 25) dX3_useFair_24 rfl rfl rfl ?_
      refine ax_iload_n (pc' := 26) dX3_useFair_25 rfl rfl ?_
      refine ax_if_lt (pc' := 29) (tgt := 55) dX3_useFair_26 (by decide) rfl (fun hc26 => ?_) (fun hc26 => ?_)
      · have H := H.1 hc26
        exact ax_vret dX3_useFair_55 rfl rfl rfl ⟨_, rfl, rfl, H⟩
      · have H := H.2 hc26
        refine ax_iload_n (pc' := 30) dX3_useFair_29 rfl rfl ?_
        refine ax_bipush (pc' := 32) (v := (6 : Int32)) dX3_useFair_30 (by decide) rfl ?_
        refine ax_icmp_ge (pc' := 35) (tgt := 55) dX3_useFair_32 (by decide) rfl (fun hc32 => ?_) (fun hc32 => ?_)
        · have H := H.1 hc32
          exact ax_vret dX3_useFair_55 rfl rfl rfl ⟨_, rfl, rfl, H⟩
        · have H := H.2 hc32
          refine ax_iload_n (pc' := 36) dX3_useFair_35 rfl rfl ?_
          refine ax_if_lt (pc' := 39) (tgt := 55) dX3_useFair_36 (by decide) rfl (fun hc36 => ?_) (fun hc36 => ?_)
          · have H := H.1 hc36
            exact ax_vret dX3_useFair_55 rfl rfl rfl ⟨_, rfl, rfl, H⟩
          · have H := H.2 hc36
            refine ax_iload_n (pc' := 40) dX3_useFair_39 rfl rfl ?_
            refine ax_bipush (pc' := 42) (v := (6 : Int32)) dX3_useFair_40 (by decide) rfl ?_
            refine ax_icmp_ge (pc' := 45) (tgt := 55) dX3_useFair_42 (by decide) rfl (fun hc42 => ?_) (fun hc42 => ?_)
            · have H := H.1 hc42
              exact ax_vret dX3_useFair_55 rfl rfl rfl ⟨_, rfl, rfl, H⟩
            · have H := H.2 hc42
              refine ax_aload_n (pc' := 46) dX3_useFair_45 rfl rfl ?_
              refine ax_getR (pc' := 49) dX3_useFair_46 fl_X3_39 sh_3 rfl rfl rfl ?_
              refine ax_iload_n (pc' := 50) dX3_useFair_49 rfl rfl ?_
              obtain ⟨hj50, H⟩ := H
              refine ax_iald (pc' := 51) dX3_useFair_50 sh_13 hj50 rfl rfl ?_
              refine ax_iconst (pc' := 52) (v := (-1 : Int32)) dX3_useFair_51 (by decide) rfl ?_
              refine ax_icmp_ne (pc' := 55) (tgt := 56) dX3_useFair_52 (by decide) rfl (fun hc52 => ?_) (fun hc52 => ?_)
              · have H := H.1 hc52
                refine ax_aload_n (pc' := 57) dX3_useFair_56 rfl rfl ?_
                refine ax_getR (pc' := 60) dX3_useFair_57 fl_X3_39 sh_3 rfl rfl rfl ?_
                refine ax_iload_n (pc' := 61) dX3_useFair_60 rfl rfl ?_
                obtain ⟨hj61, H⟩ := H
                refine ax_iald (pc' := 62) dX3_useFair_61 sh_13 hj61 rfl rfl ?_
                refine ax_aload_n (pc' := 63) dX3_useFair_62 rfl rfl ?_
                refine ax_getR (pc' := 66) dX3_useFair_63 fl_X3_36 sh_3 rfl rfl rfl ?_
                refine ax_iload_n (pc' := 67) dX3_useFair_66 rfl rfl ?_
                obtain ⟨hj67, H⟩ := H
                refine ax_iald (pc' := 68) dX3_useFair_67 sh_12 hj67 rfl rfl ?_
                refine ax_imul (pc' := 69) dX3_useFair_68 rfl ?_
                refine ax_topi (fun y69 hy69 => ?_)
                have H := H y69 hy69
                refine ax_istore (pc' := 71) dX3_useFair_69 rfl rfl rfl ?_
                refine ax_aload_n (pc' := 72) dX3_useFair_71 rfl rfl ?_
                refine ax_getR (pc' := 75) dX3_useFair_72 fl_X3_39 sh_3 rfl rfl rfl ?_
                refine ax_iload_n (pc' := 76) dX3_useFair_75 rfl rfl ?_
                obtain ⟨hj76, H⟩ := H
                refine ax_iald (pc' := 77) dX3_useFair_76 sh_13 hj76 rfl rfl ?_
                refine ax_iconst (pc' := 78) (v := (-1 : Int32)) dX3_useFair_77 (by decide) rfl ?_
                refine ax_icmp_eq (pc' := 81) (tgt := 92) dX3_useFair_78 (by decide) rfl (fun hc78 => ?_) (fun hc78 => ?_)
                · have H := H.1 hc78
                  refine ax_aload_n (pc' := 93) dX3_useFair_92 rfl rfl ?_
                  refine ax_getR (pc' := 96) dX3_useFair_93 fl_X3_39 sh_3 rfl rfl rfl ?_
                  refine ax_iload_n (pc' := 97) dX3_useFair_96 rfl rfl ?_
                  refine ax_iload (pc' := 99) dX3_useFair_97 rfl rfl ?_
                  obtain ⟨hj99, H⟩ := H
                  refine ax_iast (pc' := 100) dX3_useFair_99 sh_13 hj99 rfl rfl ?_
                  exact ax_vret dX3_useFair_100 rfl rfl rfl ⟨_, rfl, rfl, H⟩
                · have H := H.2 hc78
                  refine ax_iload (pc' := 83) dX3_useFair_81 rfl rfl ?_
                  refine ax_aload_n (pc' := 84) dX3_useFair_83 rfl rfl ?_
                  refine ax_getR (pc' := 87) dX3_useFair_84 fl_X3_39 sh_3 rfl rfl rfl ?_
                  refine ax_iload_n (pc' := 88) dX3_useFair_87 rfl rfl ?_
                  obtain ⟨hj88, H⟩ := H
                  refine ax_iald (pc' := 89) dX3_useFair_88 sh_13 hj88 rfl rfl ?_
                  refine ax_icmp_ge (pc' := 92) (tgt := 100) dX3_useFair_89 (by decide) rfl (fun hc89 => ?_) (fun hc89 => ?_)
                  · have H := H.1 hc89
                    exact ax_vret dX3_useFair_100 rfl rfl rfl ⟨_, rfl, rfl, H⟩
                  · have H := H.2 hc89
                    refine ax_aload_n (pc' := 93) dX3_useFair_92 rfl rfl ?_
                    refine ax_getR (pc' := 96) dX3_useFair_93 fl_X3_39 sh_3 rfl rfl rfl ?_
                    refine ax_iload_n (pc' := 97) dX3_useFair_96 rfl rfl ?_
                    refine ax_iload (pc' := 99) dX3_useFair_97 rfl rfl ?_
                    obtain ⟨hj99, H⟩ := H
                    refine ax_iast (pc' := 100) dX3_useFair_99 sh_13 hj99 rfl rfl ?_
                    exact ax_vret dX3_useFair_100 rfl rfl rfl ⟨_, rfl, rfl, H⟩
              · have H := H.2 hc52
                exact ax_vret dX3_useFair_55 rfl rfl rfl ⟨_, rfl, rfl, H⟩
    · have H := H.2 hc7
      exact ax_vret dX3_useFair_10 rfl rfl rfl ⟨_, rfl, rfl, H⟩
theorem ol_X3_cheapest_48 {g : ac_G} {τ : Nat → Nat → Int64} (d : Nat) (p1 : Int32) (p2 : Int32) {Q : Int32 → ac_m → Prop} {K76 : ac_m → Prop} (f2 : Int32) (f3 : Int32)  {x4 : Int32} {s : ac_m} (hK76 : ∀  (s : ac_m), K76  s → ac_X g i_X3_cheapest (d + 1) 0 0 (liI τ Q) 0 0 76 [some (.ref 3), none, some (.int f2), some (.int f3), none] [] (false, 586, SH, s, τ)) (H : l_X3_cheapest_48 p1 p2 Q K76 f2 f3  x4 s) : ac_X g i_X3_cheapest (d + 1) 0 0 (liI τ Q) 0 0 48 [some (.ref 3), none, some (.int f2), some (.int f3), some (.int x4)] [] (false, 586, SH, s, τ) := by
  refine H (fun x4 s => ac_X g i_X3_cheapest (d + 1) 0 0 (liI τ Q) 0 0 48 [some (.ref 3), none, some (.int f2), some (.int f3), some (.int x4)] [] (false, 586, SH, s, τ)) ?_
  intro x4 s H
  refine ax_iload (pc' := 50) dX3_cheapest_48 rfl rfl ?_
  refine ax_aload_n (pc' := 51) dX3_cheapest_50 rfl rfl ?_
  refine ax_getI (pc' := 54) dX3_cheapest_51 fl_X3_49 sh_3 rfl rfl rfl ?_
  refine ax_icmp_ge (pc' := 57) (tgt := 76) dX3_cheapest_54 (by decide) rfl (fun hc54 => ?_) (fun hc54 => ?_)
  · have H := H.1 hc54
    refine ax_drop 4 rfl ?_
    exact hK76 _ H
  · have H := H.2 hc54
    refine ax_iload (pc' := 59) dX3_cheapest_57 rfl rfl ?_
    refine ax_bipush (pc' := 61) (v := (10 : Int32)) dX3_cheapest_59 (by decide) rfl ?_
    refine ax_icmp_ge (pc' := 64) (tgt := 76) dX3_cheapest_61 (by decide) rfl (fun hc61 => ?_) (fun hc61 => ?_)
    · have H := H.1 hc61
      refine ax_drop 4 rfl ?_
      exact hK76 _ H
    · have H := H.2 hc61
      refine ax_aload_n (pc' := 65) dX3_cheapest_64 rfl rfl ?_
      refine ax_iload (pc' := 67) dX3_cheapest_65 rfl rfl ?_
      refine ay_V1 (pc' := 70) (ce' := 0) (sl' := 0) (mc2 := 0) (ms2 := 0) (I2 := i_X3_useFair) dX3_cheapest_67 ml_X3_129 sh_3 (by decide) rfl rfl rfl rfl rfl rfl rfl rfl rfl (ac_M.imp (o_X3_useFair _ x4 H) ?_)
      rintro _ _ ⟨s67, rfl, rfl, H⟩
      refine ax_iinc (pc' := 73) (v := (x4 + (1 : Int32))) dX3_cheapest_70 rfl rfl rfl rfl rfl ?_
      refine ax_goto (tgt := 48) dX3_cheapest_73 (by decide) ?_
      exact H
theorem ol_X3_cheapest_39 {g : ac_G} {τ : Nat → Nat → Int64} (d : Nat) (p1 : Int32) (p2 : Int32) {Q : Int32 → ac_m → Prop}  (f2 : Int32)  {x3 : Int32} {s : ac_m} (H : l_X3_cheapest_39 p1 p2 Q  f2  x3 s) : ac_X g i_X3_cheapest (d + 1) 0 0 (liI τ Q) 0 0 39 [some (.ref 3), none, some (.int f2), some (.int x3), none] [] (false, 586, SH, s, τ) := by
  refine H (fun x3 s => ac_X g i_X3_cheapest (d + 1) 0 0 (liI τ Q) 0 0 39 [some (.ref 3), none, some (.int f2), some (.int x3), none] [] (false, 586, SH, s, τ)) ?_
  intro x3 s H
  refine ax_iload_n (pc' := 40) dX3_cheapest_39 rfl rfl ?_
  refine ax_bipush (pc' := 42) (v := (6 : Int32)) dX3_cheapest_40 (by decide) rfl ?_
  refine ax_icmp_ge (pc' := 45) (tgt := 82) dX3_cheapest_42 (by decide) rfl (fun hc42 => ?_) (fun hc42 => ?_)
  · have H := H.1 hc42
    refine ax_aload_n (pc' := 83) dX3_cheapest_82 rfl rfl ?_
    refine ax_getR (pc' := 86) dX3_cheapest_83 fl_X3_39 sh_3 rfl rfl rfl ?_
    refine ax_iload_n (pc' := 87) dX3_cheapest_86 rfl rfl ?_
    obtain ⟨hj87, H⟩ := H
    refine ax_iald (pc' := 88) dX3_cheapest_87 sh_13 hj87 rfl rfl ?_
    refine ax_sipush (pc' := 91) (v := (999 : Int32)) dX3_cheapest_88 (by decide) rfl ?_
    refine ax_icmp_le (pc' := 94) (tgt := 98) dX3_cheapest_91 (by decide) rfl (fun hc91 => ?_) (fun hc91 => ?_)
    · have H := H.1 hc91
      refine ax_aload_n (pc' := 99) dX3_cheapest_98 rfl rfl ?_
      refine ax_getR (pc' := 102) dX3_cheapest_99 fl_X3_39 sh_3 rfl rfl rfl ?_
      refine ax_iload_n (pc' := 103) dX3_cheapest_102 rfl rfl ?_
      obtain ⟨hj103, H⟩ := H
      refine ax_iald (pc' := 104) dX3_cheapest_103 sh_13 hj103 rfl rfl ?_
      exact ax_iret dX3_cheapest_104 rfl rfl rfl ⟨_, _, rfl, rfl, H⟩
    · have H := H.2 hc91
      refine ax_iconst (pc' := 95) (v := (-1 : Int32)) dX3_cheapest_94 (by decide) rfl ?_
      refine ax_goto (tgt := 104) dX3_cheapest_95 (by decide) ?_
      exact ax_iret dX3_cheapest_104 rfl rfl rfl ⟨_, _, rfl, rfl, H⟩
  · have H := H.2 hc42
    refine ax_iconst (pc' := 46) (v := (0 : Int32)) dX3_cheapest_45 (by decide) rfl ?_
    refine ax_istore (pc' := 48) dX3_cheapest_46 rfl rfl rfl ?_
    refine ol_X3_cheapest_48 d p1 p2  _ _   ?_ H
    · intro  sk48 H
      refine ax_iinc (pc' := 79) (v := (x3 + (1 : Int32))) dX3_cheapest_76 rfl rfl rfl rfl rfl ?_
      refine ax_goto (tgt := 39) dX3_cheapest_79 (by decide) ?_
      exact H
theorem o_X3_cheapest {g : ac_G} {τ : Nat → Nat → Int64} (d : Nat) (p1 : Int32) (p2 : Int32) {Q : Int32 → ac_m → Prop} {s : ac_m} (H : w_X3_cheapest p1 p2 Q s) : ac_M g i_X3_cheapest (d + 1) 0 0 [.ref 3, .int p1, .int p2] (false, 586, SH, s, τ) (liI τ Q) := by
  refine ac_ofX (by decide +kernel) rfl rfl rfl ?_
  refine ax_iload_n (pc' := 1) dX3_cheapest_0 rfl rfl ?_
  refine ax_if_lt (pc' := 4) (tgt := 20) dX3_cheapest_1 (by decide) rfl (fun hc1 => ?_) (fun hc1 => ?_)
  · have H := H.1 hc1
    refine ax_iconst (pc' := 21) (v := (-1 : Int32)) dX3_cheapest_20 (by decide) rfl ?_
    exact ax_iret dX3_cheapest_21 rfl rfl rfl ⟨_, _, rfl, rfl, H⟩
  · have H := H.2 hc1
    refine ax_iload_n (pc' := 5) dX3_cheapest_4 rfl rfl ?_
    refine ax_bipush (pc' := 7) (v := (6 : Int32)) dX3_cheapest_5 (by decide) rfl ?_
    refine ax_icmp_ge (pc' := 10) (tgt := 20) dX3_cheapest_7 (by decide) rfl (fun hc7 => ?_) (fun hc7 => ?_)
    · have H := H.1 hc7
      refine ax_iconst (pc' := 21) (v := (-1 : Int32)) dX3_cheapest_20 (by decide) rfl ?_
      exact ax_iret dX3_cheapest_21 rfl rfl rfl ⟨_, _, rfl, rfl, H⟩
    · have H := H.2 hc7
      refine ax_iload_n (pc' := 11) dX3_cheapest_10 rfl rfl ?_
      refine ax_if_lt (pc' := 14) (tgt := 20) dX3_cheapest_11 (by decide) rfl (fun hc11 => ?_) (fun hc11 => ?_)
      · have H := H.1 hc11
        refine ax_iconst (pc' := 21) (v := (-1 : Int32)) dX3_cheapest_20 (by decide) rfl ?_
        exact ax_iret dX3_cheapest_21 rfl rfl rfl ⟨_, _, rfl, rfl, H⟩
      · have H := H.2 hc11
        refine ax_iload_n (pc' := 15) dX3_cheapest_14 rfl rfl ?_
        refine ax_bipush (pc' := 17) (v := (6 : Int32)) dX3_cheapest_15 (by decide) rfl ?_
        refine ax_icmp_lt (pc' := 20) (tgt := 22) dX3_cheapest_17 (by decide) rfl (fun hc17 => ?_) (fun hc17 => ?_)
        · have H := H.1 hc17
          refine ax_aload_n (pc' := 23) dX3_cheapest_22 rfl rfl ?_
          refine ax_getR (pc' := 26) dX3_cheapest_23 fl_X3_39 sh_3 rfl rfl rfl ?_
          refine ax_iconst (pc' := 27) (v := (-1 : Int32)) dX3_cheapest_26 (by decide) rfl ?_
          refine ay_S2 (pc' := 30) (ce' := 0) (sl' := 0) (mc2 := 0) (ms2 := 0) (I2 := i_J7_fill_53178) dX3_cheapest_27 ml_X3_58 rfl rfl rfl rfl rfl rfl rfl rfl (ac_M.imp (o_J7_fill_53178 _ 13 6 (-1 : Int32) sh_13 rfl H) ?_)
          rintro _ _ ⟨s27, rfl, rfl, H⟩
          refine ax_aload_n (pc' := 31) dX3_cheapest_30 rfl rfl ?_
          refine ax_getR (pc' := 34) dX3_cheapest_31 fl_X3_39 sh_3 rfl rfl rfl ?_
          refine ax_iload_n (pc' := 35) dX3_cheapest_34 rfl rfl ?_
          refine ax_iconst (pc' := 36) (v := (1 : Int32)) dX3_cheapest_35 (by decide) rfl ?_
          obtain ⟨hj36, H⟩ := H
          refine ax_iast (pc' := 37) dX3_cheapest_36 sh_13 hj36 rfl rfl ?_
          refine ax_iconst (pc' := 38) (v := (1 : Int32)) dX3_cheapest_37 (by decide) rfl ?_
          refine ax_istore_n (pc' := 39) dX3_cheapest_38 rfl rfl rfl ?_
          refine ax_drop 1 rfl ?_
          refine ol_X3_cheapest_39 d p1 p2  _    H
        · have H := H.2 hc17
          refine ax_iconst (pc' := 21) (v := (-1 : Int32)) dX3_cheapest_20 (by decide) rfl ?_
          exact ax_iret dX3_cheapest_21 rfl rfl rfl ⟨_, _, rfl, rfl, H⟩
