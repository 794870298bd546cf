theorem o_X11_feed {g : ac_G} {τ : Nat → Nat → Int64} (d : Nat) (p1 : Int32) (p2 : Int32) (p3 : Int32) (p4 : Int32) (p5 : Int32) {Q : Int32 → ac_m → Prop} {s : ac_m} (H : w_X11_feed p1 p2 p3 p4 p5 Q s) : ac_M g i_X11_feed (d + 1) 0 0 [.ref 0, .int p1, .int p2, .int p3, .int p4, .int p5] (false, 586, SH, s, τ) (liI τ Q) := by
  refine ac_ofX (by decide +kernel) rfl rfl rfl ?_
  refine ax_aload_n (pc' := 1) dX11_feed_0 rfl rfl ?_
  refine ax_getR (pc' := 4) dX11_feed_1 fl_X11_12 sh_0 rfl rfl rfl ?_
  refine ay_V0 (pc' := 7) (ce' := 0) (sl' := 0) (mc2 := 0) (ms2 := 0) (I2 := i_X10_hasRoom) dX11_feed_4 ml_X11_109 sh_1 (by decide) rfl rfl rfl rfl rfl rfl rfl rfl rfl (ac_M.imp (o_X10_hasRoom _  H) ?_)
  rintro _ _ ⟨r4, s4, rfl, rfl, H⟩
  refine ax_if_ne (pc' := 10) (tgt := 12) dX11_feed_7 (by decide) rfl (fun hc7 => ?_) (fun hc7 => ?_)
  · have H := H.1 hc7
    refine ax_aload_n (pc' := 13) dX11_feed_12 rfl rfl ?_
    refine ax_getR (pc' := 16) dX11_feed_13 fl_X11_12 sh_0 rfl rfl rfl ?_
    refine ax_iload_n (pc' := 17) dX11_feed_16 rfl rfl ?_
    refine ay_V1 (pc' := 20) (ce' := 0) (sl' := 0) (mc2 := 0) (ms2 := 0) (I2 := i_X10_put) dX11_feed_17 ml_X11_113 sh_1 (by decide) rfl rfl rfl rfl rfl rfl rfl rfl rfl (ac_M.imp (o_X10_put _ p1 H) ?_)
    rintro _ _ ⟨s17, rfl, rfl, H⟩
    refine ax_aload_n (pc' := 21) dX11_feed_20 rfl rfl ?_
    refine ax_getR (pc' := 24) dX11_feed_21 fl_X11_12 sh_0 rfl rfl rfl ?_
    refine ax_iload_n (pc' := 25) dX11_feed_24 rfl rfl ?_
    refine ay_V1 (pc' := 28) (ce' := 0) (sl' := 0) (mc2 := 0) (ms2 := 0) (I2 := i_X10_put) dX11_feed_25 ml_X11_113 sh_1 (by decide) rfl rfl rfl rfl rfl rfl rfl rfl rfl (ac_M.imp (o_X10_put _ p2 H) ?_)
    rintro _ _ ⟨s25, rfl, rfl, H⟩
    refine ax_aload_n (pc' := 29) dX11_feed_28 rfl rfl ?_
    refine ax_getR (pc' := 32) dX11_feed_29 fl_X11_12 sh_0 rfl rfl rfl ?_
    refine ax_iload_n (pc' := 33) dX11_feed_32 rfl rfl ?_
    refine ay_V1 (pc' := 36) (ce' := 0) (sl' := 0) (mc2 := 0) (ms2 := 0) (I2 := i_X10_put) dX11_feed_33 ml_X11_113 sh_1 (by decide) rfl rfl rfl rfl rfl rfl rfl rfl rfl (ac_M.imp (o_X10_put _ p3 H) ?_)
    rintro _ _ ⟨s33, rfl, rfl, H⟩
    refine ax_aload_n (pc' := 37) dX11_feed_36 rfl rfl ?_
    refine ax_getR (pc' := 40) dX11_feed_37 fl_X11_12 sh_0 rfl rfl rfl ?_
    refine ax_iload (pc' := 42) dX11_feed_40 rfl rfl ?_
    refine ay_V1 (pc' := 45) (ce' := 0) (sl' := 0) (mc2 := 0) (ms2 := 0) (I2 := i_X10_put) dX11_feed_42 ml_X11_113 sh_1 (by decide) rfl rfl rfl rfl rfl rfl rfl rfl rfl (ac_M.imp (o_X10_put _ p4 H) ?_)
    rintro _ _ ⟨s42, rfl, rfl, H⟩
    refine ax_aload_n (pc' := 46) dX11_feed_45 rfl rfl ?_
    refine ax_getR (pc' := 49) dX11_feed_46 fl_X11_12 sh_0 rfl rfl rfl ?_
    refine ax_iload (pc' := 51) dX11_feed_49 rfl rfl ?_
    refine ay_V1 (pc' := 54) (ce' := 0) (sl' := 0) (mc2 := 0) (ms2 := 0) (I2 := i_X10_put) dX11_feed_51 ml_X11_113 sh_1 (by decide) rfl rfl rfl rfl rfl rfl rfl rfl rfl (ac_M.imp (o_X10_put _ p5 H) ?_)
    rintro _ _ ⟨s51, rfl, rfl, H⟩
    refine ax_aload_n (pc' := 55) dX11_feed_54 rfl rfl ?_
    refine ax_getR (pc' := 58) dX11_feed_55 fl_X11_12 sh_0 rfl rfl rfl ?_
    refine ax_getI (pc' := 61) dX11_feed_58 fl_X11_117 sh_1 rfl rfl rfl ?_
    exact ax_iret dX11_feed_61 rfl rfl rfl ⟨_, _, rfl, rfl, H⟩
  · have H := H.2 hc7
    refine ax_iconst (pc' := 11) (v := (-1 : Int32)) dX11_feed_10 (by decide) rfl ?_
    exact ax_iret dX11_feed_11 rfl rfl rfl ⟨_, _, rfl, rfl, H⟩
theorem tw_X11_need_14 : ac_Tw RX11 404 408 "java/lang/IllegalArgumentException" ["java/lang/RuntimeException", "java/lang/Exception"] := ⟨by decide +kernel, by decide +kernel, by decide +kernel⟩
theorem o_X11_need {g : ac_G} {τ : Nat → Nat → Int64} (d : Nat) (p1 : Int32) {Q : ac_m → Prop} {X : String → ac_m → Prop} {s : ac_m} (H : w_X11_need p1 Q X s) : ac_M g i_X11_need d 1 6 [.ref 0, .int p1] (false, 586, SH, s, τ) (liVX τ Q X) := by
  refine ac_ofX (by decide +kernel) rfl rfl rfl ?_
  refine ax_iload_n (pc' := 1) dX11_need_0 rfl rfl ?_
  refine ax_if_ne (pc' := 4) (tgt := 25) dX11_need_1 (by decide) rfl (fun hc1 => ?_) (fun hc1 => ?_)
  · have H := H.1 hc1
    exact ax_vret dX11_need_25 rfl rfl rfl (Or.inl ⟨_, rfl, rfl, H⟩)
  · have H := H.2 hc1
    refine ax_aload_n (pc' := 5) dX11_need_4 rfl rfl ?_
    refine ax_dup (pc' := 6) dX11_need_5 rfl rfl ?_
    refine ax_getI (pc' := 9) dX11_need_6 fl_X11_106 sh_0 rfl rfl rfl ?_
    refine ax_iconst (pc' := 10) (v := (1 : Int32)) dX11_need_9 (by decide) rfl ?_
    refine ax_iadd (pc' := 11) dX11_need_10 rfl ?_
    refine ax_putI (pc' := 14) dX11_need_11 fp_X11_106 sh_0 rfl rfl rfl ?_
    exact ax_throwS (i := 0) tw_X11_need_14 rfl rfl dX11_need_14 dX11_need_17 dX11_need_18 dX11_need_21 dX11_need_24 rfl rfl rfl rfl (Or.inr ⟨_, _, rfl, rfl, H⟩)
theorem o_X11_needWithin {g : ac_G} {τ : Nat → Nat → Int64} (d : Nat) (p1 : Int32) (p2 : Int32) (p3 : Int32) {Q : ac_m → Prop} {X : String → ac_m → Prop} {s : ac_m} (H : w_X11_needWithin p1 p2 p3 Q X s) : ac_M g i_X11_needWithin (d + 1) 1 6 [.ref 0, .int p1, .int p2, .int p3] (false, 586, SH, s, τ) (liVX τ Q X) := by
  refine ac_ofX (by decide +kernel) rfl rfl rfl ?_
  refine ax_aload_n (pc' := 1) dX11_needWithin_0 rfl rfl ?_
  refine ax_iload_n (pc' := 2) dX11_needWithin_1 rfl rfl ?_
  refine ax_iload_n (pc' := 3) dX11_needWithin_2 rfl rfl ?_
  refine ax_icmp_lt (pc' := 6) (tgt := 15) dX11_needWithin_3 (by decide) rfl (fun hc3 => ?_) (fun hc3 => ?_)
  · have H := H.1 hc3
    refine ax_iconst (pc' := 16) (v := (0 : Int32)) dX11_needWithin_15 (by decide) rfl ?_
    refine ay_V1 (pc' := 19) (ce' := 1) (sl' := 6) (mc2 := 1) (ms2 := 6) (I2 := i_X11_need) dX11_needWithin_16 ml_X11_354 sh_0 (by decide) rfl rfl rfl rfl rfl rfl rfl rfl rfl (ac_M.imp (o_X11_need _ (0 : Int32) H) ?_)
    rintro _ _ (⟨s16, rfl, rfl, H⟩ | ⟨E, s0, rfl, rfl, H⟩)
    rotate_left
    · exact Or.inr ⟨E, s0, rfl, rfl, H⟩
    exact ax_vret dX11_needWithin_19 rfl rfl rfl (Or.inl ⟨_, rfl, rfl, H⟩)
  · have H := H.2 hc3
    refine ax_iload_n (pc' := 7) dX11_needWithin_6 rfl rfl ?_
    refine ax_iload_n (pc' := 8) dX11_needWithin_7 rfl rfl ?_
    refine ax_icmp_gt (pc' := 11) (tgt := 15) dX11_needWithin_8 (by decide) rfl (fun hc8 => ?_) (fun hc8 => ?_)
    · have H := H.1 hc8
      refine ax_iconst (pc' := 16) (v := (0 : Int32)) dX11_needWithin_15 (by decide) rfl ?_
      refine ay_V1 (pc' := 19) (ce' := 1) (sl' := 6) (mc2 := 1) (ms2 := 6) (I2 := i_X11_need) dX11_needWithin_16 ml_X11_354 sh_0 (by decide) rfl rfl rfl rfl rfl rfl rfl rfl rfl (ac_M.imp (o_X11_need _ (0 : Int32) H) ?_)
      rintro _ _ (⟨s16, rfl, rfl, H⟩ | ⟨E, s0, rfl, rfl, H⟩)
      rotate_left
      · exact Or.inr ⟨E, s0, rfl, rfl, H⟩
      exact ax_vret dX11_needWithin_19 rfl rfl rfl (Or.inl ⟨_, rfl, rfl, H⟩)
    · have H := H.2 hc8
      refine ax_iconst (pc' := 12) (v := (1 : Int32)) dX11_needWithin_11 (by decide) rfl ?_
      refine ax_goto (tgt := 16) dX11_needWithin_12 (by decide) ?_
      refine ay_V1 (pc' := 19) (ce' := 1) (sl' := 6) (mc2 := 1) (ms2 := 6) (I2 := i_X11_need) dX11_needWithin_16 ml_X11_354 sh_0 (by decide) rfl rfl rfl rfl rfl rfl rfl rfl rfl (ac_M.imp (o_X11_need _ (1 : Int32) H) ?_)
      rintro _ _ (⟨s16, rfl, rfl, H⟩ | ⟨E, s0, rfl, rfl, H⟩)
      rotate_left
      · exact Or.inr ⟨E, s0, rfl, rfl, H⟩
      exact ax_vret dX11_needWithin_19 rfl rfl rfl (Or.inl ⟨_, rfl, rfl, H⟩)
theorem o_X11_hills {g : ac_G} {τ : Nat → Nat → Int64} (d : Nat) (p1 : Int32) {Q : Int32 → ac_m → Prop} {X : String → ac_m → Prop} {s : ac_m} (H : w_X11_hills p1 Q X s) : ac_M g i_X11_hills (d + 7) 1 6 [.ref 0, .int p1] (false, 586, SH, s, τ) (liIX τ Q X) := by
  refine ac_ofX (by decide +kernel) rfl rfl rfl ?_
  refine ax_aload_n (pc' := 1) dX11_hills_0 rfl rfl ?_
  refine ax_iload_n (pc' := 2) dX11_hills_1 rfl rfl ?_
  refine ax_iconst (pc' := 3) (v := (0 : Int32)) dX11_hills_2 (by decide) rfl ?_
  refine ax_aload_n (pc' := 4) dX11_hills_3 rfl rfl ?_
  refine ax_getR (pc' := 7) dX11_hills_4 fl_X11_12 sh_0 rfl rfl rfl ?_
  refine ax_getI (pc' := 10) dX11_hills_7 fl_X11_117 sh_1 rfl rfl rfl ?_
  refine ay_V3 (pc' := 13) (ce' := 1) (sl' := 6) (mc2 := 1) (ms2 := 6) (I2 := i_X11_needWithin) dX11_hills_10 ml_X11_120 sh_0 (by decide) rfl rfl rfl rfl rfl rfl rfl rfl rfl (ac_M.imp (o_X11_needWithin _ p1 (0 : Int32) (s 1 1) H) ?_)
  rintro _ _ (⟨s10, rfl, rfl, H⟩ | ⟨E, s0, rfl, rfl, H⟩)
  rotate_left
  · exact Or.inr ⟨E, s0, rfl, rfl, H⟩
  refine ax_aload_n (pc' := 14) dX11_hills_13 rfl rfl ?_
  refine ax_getR (pc' := 17) dX11_hills_14 fl_X11_12 sh_0 rfl rfl rfl ?_
  refine ax_iload_n (pc' := 18) dX11_hills_17 rfl rfl ?_
  refine ay_V1 (pc' := 21) (ce' := 1) (sl' := 6) (mc2 := 0) (ms2 := 0) (I2 := i_X10_open) dX11_hills_18 ml_X11_124 sh_1 (by decide) rfl rfl rfl rfl rfl rfl rfl rfl rfl (ac_M.imp (o_X10_open _ p1 H) ?_)
  rintro _ _ ⟨s18, rfl, rfl, H⟩
  refine ax_aload_n (pc' := 22) dX11_hills_21 rfl rfl ?_
  refine ax_getR (pc' := 25) dX11_hills_22 fl_X11_23 sh_0 rfl rfl rfl ?_
  refine ax_aload_n (pc' := 26) dX11_hills_25 rfl rfl ?_
  refine ax_getR (pc' := 29) dX11_hills_26 fl_X11_12 sh_0 rfl rfl rfl ?_
  refine ay_V1 (pc' := 32) (ce' := 1) (sl' := 6) (mc2 := 0) (ms2 := 0) (I2 := i_X3_read) dX11_hills_29 ml_X11_127 sh_14 (by decide) rfl rfl rfl rfl rfl rfl rfl rfl rfl (ac_M.imp (o_X3_read _  H) ?_)
  rintro _ _ ⟨r29, s29, rfl, rfl, H⟩
  refine ax_if_ne (pc' := 35) (tgt := 43) dX11_hills_32 (by decide) rfl (fun hc32 => ?_) (fun hc32 => ?_)
  · have H := H.1 hc32
    refine ax_aload_n (pc' := 44) dX11_hills_43 rfl rfl ?_
    refine ax_getR (pc' := 47) dX11_hills_44 fl_X11_19 sh_0 rfl rfl rfl ?_
    refine ax_aload_n (pc' := 48) dX11_hills_47 rfl rfl ?_
    refine ax_getR (pc' := 51) dX11_hills_48 fl_X11_23 sh_0 rfl rfl rfl ?_
    refine ay_V1 (pc' := 54) (ce' := 1) (sl' := 6) (mc2 := 0) (ms2 := 0) (I2 := i_X3_take) dX11_hills_51 ml_X11_135 sh_3 (by decide) rfl rfl rfl rfl rfl rfl rfl rfl rfl (ac_M.imp (o_X3_take _  H) ?_)
    rintro _ _ ⟨s51, rfl, rfl, H⟩
    refine ax_aload_n (pc' := 55) dX11_hills_54 rfl rfl ?_
    refine ax_getR (pc' := 58) dX11_hills_55 fl_X11_29 sh_0 rfl rfl rfl ?_
    refine ay_V0 (pc' := 61) (ce' := 1) (sl' := 6) (mc2 := 0) (ms2 := 0) (I2 := i_X4_setPlain) dX11_hills_58 ml_X11_139 sh_25 (by decide) rfl rfl rfl rfl rfl rfl rfl rfl rfl (ac_M.imp (o_X4_setPlain _ 25 is_Lw25 H) ?_)
    rintro _ _ ⟨s58, rfl, rfl, H⟩
    refine ax_aload_n (pc' := 62) dX11_hills_61 rfl rfl ?_
    refine ax_getR (pc' := 65) dX11_hills_62 fl_X11_39 sh_0 rfl rfl rfl ?_
    refine ay_V0 (pc' := 68) (ce' := 1) (sl' := 6) (mc2 := 0) (ms2 := 0) (I2 := i_X0_clear) dX11_hills_65 ml_X11_142 sh_33 (by decide) rfl rfl rfl rfl rfl rfl rfl rfl rfl (ac_M.imp (o_X0_clear _ 33 is_Bk33 H) ?_)
    rintro _ _ ⟨s65, rfl, rfl, H⟩
    refine ax_aload_n (pc' := 69) dX11_hills_68 rfl rfl ?_
    refine ax_getR (pc' := 72) dX11_hills_69 fl_X11_68 sh_0 rfl rfl rfl ?_
    refine ay_V0 (pc' := 75) (ce' := 1) (sl' := 6) (mc2 := 0) (ms2 := 0) (I2 := i_X6_clear) dX11_hills_72 ml_X11_145 sh_58 (by decide) rfl rfl rfl rfl rfl rfl rfl rfl rfl (ac_M.imp (o_X6_clear _  H) ?_)
    rintro _ _ ⟨s72, rfl, rfl, H⟩
    refine ax_aload_n (pc' := 76) dX11_hills_75 rfl rfl ?_
    refine ax_getR (pc' := 79) dX11_hills_76 fl_X11_58 sh_0 rfl rfl rfl ?_
    refine ay_V0 (pc' := 82) (ce' := 1) (sl' := 6) (mc2 := 0) (ms2 := 0) (I2 := i_X5_begin) dX11_hills_79 ml_X11_146 sh_42 (by decide) rfl rfl rfl rfl rfl rfl rfl rfl rfl (ac_M.imp (o_X5_begin _  H) ?_)
    rintro _ _ ⟨s79, rfl, rfl, H⟩
    refine ax_aload_n (pc' := 83) dX11_hills_82 rfl rfl ?_
    refine ax_iconst (pc' := 84) (v := (0 : Int32)) dX11_hills_83 (by decide) rfl ?_
    refine ax_putI (pc' := 87) dX11_hills_84 fp_X11_99 sh_0 rfl rfl rfl ?_
    refine ax_aload_n (pc' := 88) dX11_hills_87 rfl rfl ?_
    refine ax_getR (pc' := 91) dX11_hills_88 fl_X11_19 sh_0 rfl rfl rfl ?_
    refine ax_getI (pc' := 94) dX11_hills_91 fl_X11_149 sh_3 rfl rfl rfl ?_
    exact ax_iret dX11_hills_94 rfl rfl rfl (Or.inl ⟨_, _, rfl, rfl, H⟩)
  · have H := H.2 hc32
    refine ax_aload_n (pc' := 36) dX11_hills_35 rfl rfl ?_
    refine ax_getR (pc' := 39) dX11_hills_36 fl_X11_12 sh_0 rfl rfl rfl ?_
    refine ay_V0 (pc' := 42) (ce' := 1) (sl' := 6) (mc2 := 0) (ms2 := 0) (I2 := i_X10_faultAnswer) dX11_hills_39 ml_X11_131 sh_1 (by decide) rfl rfl rfl rfl rfl rfl rfl rfl rfl (ac_M.imp (o_X10_faultAnswer _  H) ?_)
    rintro _ _ ⟨r39, s39, rfl, rfl, H⟩
    exact ax_iret dX11_hills_42 rfl rfl rfl (Or.inl ⟨_, _, rfl, rfl, H⟩)
theorem o_X11_law {g : ac_G} {τ : Nat → Nat → Int64} (d : Nat) (p1 : Int32) {Q : Int32 → ac_m → Prop} {X : String → ac_m → Prop} {s : ac_m} (H : w_X11_law p1 Q X s) : ac_M g i_X11_law (d + 66) 1 6 [.ref 0, .int p1] (false, 586, SH, s, τ) (liIX τ Q X) := by
  refine ac_ofX (by decide +kernel) rfl rfl rfl ?_
  refine ax_aload_n (pc' := 1) dX11_law_0 rfl rfl ?_
  refine ax_iload_n (pc' := 2) dX11_law_1 rfl rfl ?_
  refine ax_iconst (pc' := 3) (v := (0 : Int32)) dX11_law_2 (by decide) rfl ?_
  refine ax_aload_n (pc' := 4) dX11_law_3 rfl rfl ?_
  refine ax_getR (pc' := 7) dX11_law_4 fl_X11_12 sh_0 rfl rfl rfl ?_
  refine ax_getI (pc' := 10) dX11_law_7 fl_X11_117 sh_1 rfl rfl rfl ?_
  refine ax_sipush (pc' := 13) (v := (150 : Int32)) dX11_law_10 (by decide) rfl ?_
  refine ax_min (pc' := 16) dX11_law_13 mj_X11_152 mk_min.1 mk_min.2.1 mk_min.2.2 rfl rfl rfl rfl ?_
  refine ay_V3 (pc' := 19) (ce' := 1) (sl' := 6) (mc2 := 1) (ms2 := 6) (I2 := i_X11_needWithin) dX11_law_16 ml_X11_120 sh_0 (by decide) rfl rfl rfl rfl rfl rfl rfl rfl rfl (ac_M.imp (o_X11_needWithin _ p1 (0 : Int32) (if (150 : Int32) < (s 1 1) then (150 : Int32) else (s 1 1)) H) ?_)
  rintro _ _ (⟨s16, rfl, rfl, H⟩ | ⟨E, s0, rfl, rfl, H⟩)
  rotate_left
  · exact Or.inr ⟨E, s0, rfl, rfl, H⟩
  refine ax_aload_n (pc' := 20) dX11_law_19 rfl rfl ?_
  refine ax_getR (pc' := 23) dX11_law_20 fl_X11_12 sh_0 rfl rfl rfl ?_
  refine ax_iload_n (pc' := 24) dX11_law_23 rfl rfl ?_
  refine ay_V1 (pc' := 27) (ce' := 1) (sl' := 6) (mc2 := 0) (ms2 := 0) (I2 := i_X10_open) dX11_law_24 ml_X11_124 sh_1 (by decide) rfl rfl rfl rfl rfl rfl rfl rfl rfl (ac_M.imp (o_X10_open _ p1 H) ?_)
  rintro _ _ ⟨s24, rfl, rfl, H⟩
  refine ax_aload_n (pc' := 28) dX11_law_27 rfl rfl ?_
  refine ax_getR (pc' := 31) dX11_law_28 fl_X11_33 sh_0 rfl rfl rfl ?_
  refine ax_aload_n (pc' := 32) dX11_law_31 rfl rfl ?_
  refine ax_getR (pc' := 35) dX11_law_32 fl_X11_12 sh_0 rfl rfl rfl ?_
  refine ay_V1 (pc' := 38) (ce' := 1) (sl' := 6) (mc2 := 0) (ms2 := 0) (I2 := i_X4_read) dX11_law_35 ml_X11_158 sh_29 (by decide) rfl rfl rfl rfl rfl rfl rfl rfl rfl (ac_M.imp (o_X4_read _  H) ?_)
  rintro _ _ ⟨r35, s35, rfl, rfl, H⟩
  refine ax_if_ne (pc' := 41) (tgt := 49) dX11_law_38 (by decide) rfl (fun hc38 => ?_) (fun hc38 => ?_)
  · have H := H.1 hc38
    refine ax_aload_n (pc' := 50) dX11_law_49 rfl rfl ?_
    refine ax_getR (pc' := 53) dX11_law_50 fl_X11_29 sh_0 rfl rfl rfl ?_
    refine ax_aload_n (pc' := 54) dX11_law_53 rfl rfl ?_
    refine ax_getR (pc' := 57) dX11_law_54 fl_X11_33 sh_0 rfl rfl rfl ?_
    refine ay_V1 (pc' := 60) (ce' := 1) (sl' := 6) (mc2 := 0) (ms2 := 0) (I2 := i_X4_take) dX11_law_57 ml_X11_159 sh_25 (by decide) rfl rfl rfl rfl rfl rfl rfl rfl rfl (ac_M.imp (o_X4_take _  H) ?_)
    rintro _ _ ⟨s57, rfl, rfl, H⟩
    refine ax_iconst (pc' := 61) (v := (1 : Int32)) dX11_law_60 (by decide) rfl ?_
    exact ax_iret dX11_law_61 rfl rfl rfl (Or.inl ⟨_, _, rfl, rfl, H⟩)
  · have H := H.2 hc38
    refine ax_aload_n (pc' := 42) dX11_law_41 rfl rfl ?_
    refine ax_getR (pc' := 45) dX11_law_42 fl_X11_12 sh_0 rfl rfl rfl ?_
    refine ay_V0 (pc' := 48) (ce' := 1) (sl' := 6) (mc2 := 0) (ms2 := 0) (I2 := i_X10_faultAnswer) dX11_law_45 ml_X11_131 sh_1 (by decide) rfl rfl rfl rfl rfl rfl rfl rfl rfl (ac_M.imp (o_X10_faultAnswer _  H) ?_)
    rintro _ _ ⟨r45, s45, rfl, rfl, H⟩
    exact ax_iret dX11_law_48 rfl rfl rfl (Or.inl ⟨_, _, rfl, rfl, H⟩)
theorem o_X11_work {g : ac_G} {τ : Nat → Nat → Int64} (d : Nat) (p1 : Int32) {Q : Int32 → ac_m → Prop} {X : String → ac_m → Prop} {s : ac_m} (H : w_X11_work p1 Q X s) : ac_M g i_X11_work (d + 50) 1 6 [.ref 0, .int p1] (false, 586, SH, s, τ) (liIX τ Q X) := by
  refine ac_ofX (by decide +kernel) rfl rfl rfl ?_
  refine ax_aload_n (pc' := 1) dX11_work_0 rfl rfl ?_
  refine ax_iload_n (pc' := 2) dX11_work_1 rfl rfl ?_
  refine ax_iconst (pc' := 3) (v := (0 : Int32)) dX11_work_2 (by decide) rfl ?_
  refine ax_aload_n (pc' := 4) dX11_work_3 rfl rfl ?_
  refine ax_getR (pc' := 7) dX11_work_4 fl_X11_12 sh_0 rfl rfl rfl ?_
  refine ax_getI (pc' := 10) dX11_work_7 fl_X11_117 sh_1 rfl rfl rfl ?_
  refine ax_sipush (pc' := 13) (v := (150 : Int32)) dX11_work_10 (by decide) rfl ?_
  refine ax_min (pc' := 16) dX11_work_13 mj_X11_152 mk_min.1 mk_min.2.1 mk_min.2.2 rfl rfl rfl rfl ?_
  refine ay_V3 (pc' := 19) (ce' := 1) (sl' := 6) (mc2 := 1) (ms2 := 6) (I2 := i_X11_needWithin) dX11_work_16 ml_X11_120 sh_0 (by decide) rfl rfl rfl rfl rfl rfl rfl rfl rfl (ac_M.imp (o_X11_needWithin _ p1 (0 : Int32) (if (150 : Int32) < (s 1 1) then (150 : Int32) else (s 1 1)) H) ?_)
  rintro _ _ (⟨s16, rfl, rfl, H⟩ | ⟨E, s0, rfl, rfl, H⟩)
  rotate_left
  · exact Or.inr ⟨E, s0, rfl, rfl, H⟩
  refine ax_aload_n (pc' := 20) dX11_work_19 rfl rfl ?_
  refine ax_getR (pc' := 23) dX11_work_20 fl_X11_68 sh_0 rfl rfl rfl ?_
  refine ax_getI (pc' := 26) dX11_work_23 fl_X11_162 sh_58 rfl rfl rfl ?_
  refine ax_bipush (pc' := 28) (v := (16 : Int32)) dX11_work_26 (by decide) rfl ?_
  refine ax_icmp_lt (pc' := 31) (tgt := 42) dX11_work_28 (by decide) rfl (fun hc28 => ?_) (fun hc28 => ?_)
  · have H := H.1 hc28
    refine ax_aload_n (pc' := 43) dX11_work_42 rfl rfl ?_
    refine ax_getR (pc' := 46) dX11_work_43 fl_X11_12 sh_0 rfl rfl rfl ?_
    refine ax_iload_n (pc' := 47) dX11_work_46 rfl rfl ?_
    refine ay_V1 (pc' := 50) (ce' := 1) (sl' := 6) (mc2 := 0) (ms2 := 0) (I2 := i_X10_open) dX11_work_47 ml_X11_124 sh_1 (by decide) rfl rfl rfl rfl rfl rfl rfl rfl rfl (ac_M.imp (o_X10_open _ p1 H) ?_)
    rintro _ _ ⟨s47, rfl, rfl, H⟩
    refine ax_aload_n (pc' := 51) dX11_work_50 rfl rfl ?_
    refine ax_getR (pc' := 54) dX11_work_51 fl_X11_49 sh_0 rfl rfl rfl ?_
    refine ax_aload_n (pc' := 55) dX11_work_54 rfl rfl ?_
    refine ax_getR (pc' := 58) dX11_work_55 fl_X11_12 sh_0 rfl rfl rfl ?_
    refine ax_aload_n (pc' := 59) dX11_work_58 rfl rfl ?_
    refine ax_getR (pc' := 62) dX11_work_59 fl_X11_19 sh_0 rfl rfl rfl ?_
    refine ay_V2 (pc' := 65) (ce' := 1) (sl' := 6) (mc2 := 0) (ms2 := 0) (I2 := i_X7_read) dX11_work_62 ml_X11_165 sh_37 (by decide) rfl rfl rfl rfl rfl rfl rfl rfl rfl (ac_M.imp (o_X7_read _  H) ?_)
    rintro _ _ ⟨r62, s62, rfl, rfl, H⟩
    refine ax_if_ne (pc' := 68) (tgt := 76) dX11_work_65 (by decide) rfl (fun hc65 => ?_) (fun hc65 => ?_)
    · have H := H.1 hc65
      refine ax_aload_n (pc' := 77) dX11_work_76 rfl rfl ?_
      refine ax_getR (pc' := 80) dX11_work_77 fl_X11_68 sh_0 rfl rfl rfl ?_
      refine ax_aload_n (pc' := 81) dX11_work_80 rfl rfl ?_
      refine ax_getR (pc' := 84) dX11_work_81 fl_X11_58 sh_0 rfl rfl rfl ?_
      refine ay_V1 (pc' := 87) (ce' := 1) (sl' := 6) (mc2 := 0) (ms2 := 0) (I2 := i_X6_keepWork) dX11_work_84 ml_X11_168 sh_58 (by decide) rfl rfl rfl rfl rfl rfl rfl rfl rfl (ac_M.imp (o_X6_keepWork _  H) ?_)
      rintro _ _ ⟨s84, rfl, rfl, H⟩
      refine ax_aload_n (pc' := 88) dX11_work_87 rfl rfl ?_
      refine ax_getR (pc' := 91) dX11_work_88 fl_X11_49 sh_0 rfl rfl rfl ?_
      refine ax_aload_n (pc' := 92) dX11_work_91 rfl rfl ?_
      refine ax_getR (pc' := 95) dX11_work_92 fl_X11_58 sh_0 rfl rfl rfl ?_
      refine ax_iconst (pc' := 96) (v := (0 : Int32)) dX11_work_95 (by decide) rfl ?_
      refine ax_aload_n (pc' := 97) dX11_work_96 rfl rfl ?_
      refine ax_getR (pc' := 100) dX11_work_97 fl_X11_49 sh_0 rfl rfl rfl ?_
      refine ax_getI (pc' := 103) dX11_work_100 fl_X11_172 sh_37 rfl rfl rfl ?_
      refine ax_iconst (pc' := 104) (v := (0 : Int32)) dX11_work_103 (by decide) rfl ?_
      refine ay_V4 (pc' := 107) (ce' := 1) (sl' := 6) (mc2 := 0) (ms2 := 0) (I2 := i_X7_carryOut) dX11_work_104 ml_X11_173 sh_37 (by decide) rfl rfl rfl rfl rfl rfl rfl rfl rfl (ac_M.imp (to_X7_carryOut _ (0 : Int32) (s84 37 4) (0 : Int32) H) ?_)
      rintro _ _ ⟨s104, rfl, rfl, H⟩
      refine ax_aload_n (pc' := 108) dX11_work_107 rfl rfl ?_
      refine ax_aload_n (pc' := 109) dX11_work_108 rfl rfl ?_
      refine ax_getR (pc' := 112) dX11_work_109 fl_X11_49 sh_0 rfl rfl rfl ?_
      refine ax_getI (pc' := 115) dX11_work_112 fl_X11_177 sh_37 rfl rfl rfl ?_
      refine ax_putI (pc' := 118) dX11_work_115 fp_X11_99 sh_0 rfl rfl rfl ?_
      refine ax_aload_n (pc' := 119) dX11_work_118 rfl rfl ?_
      refine ax_getR (pc' := 122) dX11_work_119 fl_X11_49 sh_0 rfl rfl rfl ?_
      refine ax_getI (pc' := 125) dX11_work_122 fl_X11_180 sh_37 rfl rfl rfl ?_
      exact ax_iret dX11_work_125 rfl rfl rfl (Or.inl ⟨_, _, rfl, rfl, H⟩)
    · have H := H.2 hc65
      refine ax_aload_n (pc' := 69) dX11_work_68 rfl rfl ?_
      refine ax_getR (pc' := 72) dX11_work_69 fl_X11_12 sh_0 rfl rfl rfl ?_
      refine ay_V0 (pc' := 75) (ce' := 1) (sl' := 6) (mc2 := 0) (ms2 := 0) (I2 := i_X10_faultAnswer) dX11_work_72 ml_X11_131 sh_1 (by decide) rfl rfl rfl rfl rfl rfl rfl rfl rfl (ac_M.imp (o_X10_faultAnswer _  H) ?_)
      rintro _ _ ⟨r72, s72, rfl, rfl, H⟩
      exact ax_iret dX11_work_75 rfl rfl rfl (Or.inl ⟨_, _, rfl, rfl, H⟩)
  · have H := H.2 hc28
    refine ax_aload_n (pc' := 32) dX11_work_31 rfl rfl ?_
    refine ax_getR (pc' := 35) dX11_work_32 fl_X11_12 sh_0 rfl rfl rfl ?_
    refine ax_iconst (pc' := 36) (v := (0 : Int32)) dX11_work_35 (by decide) rfl ?_
    refine ay_V1 (pc' := 39) (ce' := 1) (sl' := 6) (mc2 := 0) (ms2 := 0) (I2 := i_X10_open) dX11_work_36 ml_X11_124 sh_1 (by decide) rfl rfl rfl rfl rfl rfl rfl rfl rfl (ac_M.imp (o_X10_open _ (0 : Int32) H) ?_)
    rintro _ _ ⟨s36, rfl, rfl, H⟩
    refine ax_bipush (pc' := 41) (v := (-20 : Int32)) dX11_work_39 (by decide) rfl ?_
    exact ax_iret dX11_work_41 rfl rfl rfl (Or.inl ⟨_, _, rfl, rfl, H⟩)
theorem o_X11_book {g : ac_G} {τ : Nat → Nat → Int64} (d : Nat) (p1 : Int32) {Q : Int32 → ac_m → Prop} {X : String → ac_m → Prop} {s : ac_m} (H : w_X11_book p1 Q X s) : ac_M g i_X11_book (d + 5) 1 6 [.ref 0, .int p1] (false, 586, SH, s, τ) (liIX τ Q X) := by
  refine ac_ofX (by decide +kernel) rfl rfl rfl ?_
  refine ax_aload_n (pc' := 1) dX11_book_0 rfl rfl ?_
  refine ax_iload_n (pc' := 2) dX11_book_1 rfl rfl ?_
  refine ax_iconst (pc' := 3) (v := (0 : Int32)) dX11_book_2 (by decide) rfl ?_
  refine ax_aload_n (pc' := 4) dX11_book_3 rfl rfl ?_
  refine ax_getR (pc' := 7) dX11_book_4 fl_X11_12 sh_0 rfl rfl rfl ?_
  refine ax_getI (pc' := 10) dX11_book_7 fl_X11_117 sh_1 rfl rfl rfl ?_
  refine ax_bipush (pc' := 12) (v := (60 : Int32)) dX11_book_10 (by decide) rfl ?_
  refine ax_min (pc' := 15) dX11_book_12 mj_X11_152 mk_min.1 mk_min.2.1 mk_min.2.2 rfl rfl rfl rfl ?_
  refine ay_V3 (pc' := 18) (ce' := 1) (sl' := 6) (mc2 := 1) (ms2 := 6) (I2 := i_X11_needWithin) dX11_book_15 ml_X11_120 sh_0 (by decide) rfl rfl rfl rfl rfl rfl rfl rfl rfl (ac_M.imp (o_X11_needWithin _ p1 (0 : Int32) (if (60 : Int32) < (s 1 1) then (60 : Int32) else (s 1 1)) H) ?_)
  rintro _ _ (⟨s15, rfl, rfl, H⟩ | ⟨E, s0, rfl, rfl, H⟩)
  rotate_left
  · exact Or.inr ⟨E, s0, rfl, rfl, H⟩
  refine ax_aload_n (pc' := 19) dX11_book_18 rfl rfl ?_
  refine ax_getR (pc' := 22) dX11_book_19 fl_X11_12 sh_0 rfl rfl rfl ?_
  refine ax_iload_n (pc' := 23) dX11_book_22 rfl rfl ?_
  refine ay_V1 (pc' := 26) (ce' := 1) (sl' := 6) (mc2 := 0) (ms2 := 0) (I2 := i_X10_open) dX11_book_23 ml_X11_124 sh_1 (by decide) rfl rfl rfl rfl rfl rfl rfl rfl rfl (ac_M.imp (o_X10_open _ p1 H) ?_)
  rintro _ _ ⟨s23, rfl, rfl, H⟩
  refine ax_aload_n (pc' := 27) dX11_book_26 rfl rfl ?_
  refine ax_getR (pc' := 30) dX11_book_27 fl_X11_43 sh_0 rfl rfl rfl ?_
  refine ax_aload_n (pc' := 31) dX11_book_30 rfl rfl ?_
  refine ax_getR (pc' := 34) dX11_book_31 fl_X11_12 sh_0 rfl rfl rfl ?_
  refine ay_V1 (pc' := 37) (ce' := 1) (sl' := 6) (mc2 := 0) (ms2 := 0) (I2 := i_X0_read) dX11_book_34 ml_X11_183 sh_35 (by decide) rfl rfl rfl rfl rfl rfl rfl rfl rfl (ac_M.imp (o_X0_read _  H) ?_)
  rintro _ _ ⟨r34, s34, rfl, rfl, H⟩
  refine ax_if_ne (pc' := 40) (tgt := 48) dX11_book_37 (by decide) rfl (fun hc37 => ?_) (fun hc37 => ?_)
  · have H := H.1 hc37
    refine ax_aload_n (pc' := 49) dX11_book_48 rfl rfl ?_
    refine ax_getR (pc' := 52) dX11_book_49 fl_X11_39 sh_0 rfl rfl rfl ?_
    refine ax_aload_n (pc' := 53) dX11_book_52 rfl rfl ?_
    refine ax_getR (pc' := 56) dX11_book_53 fl_X11_43 sh_0 rfl rfl rfl ?_
    refine ay_V1 (pc' := 59) (ce' := 1) (sl' := 6) (mc2 := 0) (ms2 := 0) (I2 := i_X0_take) dX11_book_56 ml_X11_184 sh_33 (by decide) rfl rfl rfl rfl rfl rfl rfl rfl rfl (ac_M.imp (o_X0_take _  H) ?_)
    rintro _ _ ⟨s56, rfl, rfl, H⟩
    refine ax_aload_n (pc' := 60) dX11_book_59 rfl rfl ?_
    refine ax_getR (pc' := 63) dX11_book_60 fl_X11_39 sh_0 rfl rfl rfl ?_
    refine ax_getI (pc' := 66) dX11_book_63 fl_X11_187 sh_33 rfl rfl rfl ?_
    exact ax_iret dX11_book_66 rfl rfl rfl (Or.inl ⟨_, _, rfl, rfl, H⟩)
  · have H := H.2 hc37
    refine ax_aload_n (pc' := 41) dX11_book_40 rfl rfl ?_
    refine ax_getR (pc' := 44) dX11_book_41 fl_X11_12 sh_0 rfl rfl rfl ?_
    refine ay_V0 (pc' := 47) (ce' := 1) (sl' := 6) (mc2 := 0) (ms2 := 0) (I2 := i_X10_faultAnswer) dX11_book_44 ml_X11_131 sh_1 (by decide) rfl rfl rfl rfl rfl rfl rfl rfl rfl (ac_M.imp (o_X10_faultAnswer _  H) ?_)
    rintro _ _ ⟨r44, s44, rfl, rfl, H⟩
    exact ax_iret dX11_book_47 rfl rfl rfl (Or.inl ⟨_, _, rfl, rfl, H⟩)
theorem o_X11_fault {g : ac_G} {τ : Nat → Nat → Int64} (d : Nat)  {Q : Int32 → ac_m → Prop} {s : ac_m} (H : w_X11_fault  Q s) : ac_M g i_X11_fault d 0 0 [.ref 0] (false, 586, SH, s, τ) (liI τ Q) := by
  refine ac_ofX (by decide +kernel) rfl rfl rfl ?_
  refine ax_aload_n (pc' := 1) dX11_fault_0 rfl rfl ?_
  refine ax_getR (pc' := 4) dX11_fault_1 fl_X11_12 sh_0 rfl rfl rfl ?_
  refine ax_getI (pc' := 7) dX11_fault_4 fl_X11_190 sh_1 rfl rfl rfl ?_
  exact ax_iret dX11_fault_7 rfl rfl rfl ⟨_, _, rfl, rfl, H⟩
theorem o_X11_undo {g : ac_G} {τ : Nat → Nat → Int64} (d : Nat)  {Q : Int32 → ac_m → Prop} {s : ac_m} (H : w_X11_undo  Q s) : ac_M g i_X11_undo (d + 2) 0 0 [.ref 0] (false, 586, SH, s, τ) (liI τ Q) := by
  refine ac_ofX (by decide +kernel) rfl rfl rfl ?_
  refine ax_aload_n (pc' := 1) dX11_undo_0 rfl rfl ?_
  refine ax_getR (pc' := 4) dX11_undo_1 fl_X11_68 sh_0 rfl rfl rfl ?_
  refine ax_aload_n (pc' := 5) dX11_undo_4 rfl rfl ?_
  refine ax_getR (pc' := 8) dX11_undo_5 fl_X11_58 sh_0 rfl rfl rfl ?_
  refine ay_V1 (pc' := 11) (ce' := 0) (sl' := 0) (mc2 := 0) (ms2 := 0) (I2 := i_X6_undoWork) dX11_undo_8 ml_X11_193 sh_58 (by decide) rfl rfl rfl rfl rfl rfl rfl rfl rfl (ac_M.imp (o_X6_undoWork _  H) ?_)
  rintro _ _ ⟨r8, s8, rfl, rfl, H⟩
  refine ax_if_ne (pc' := 14) (tgt := 16) dX11_undo_11 (by decide) rfl (fun hc11 => ?_) (fun hc11 => ?_)
  · have H := H.1 hc11
    refine ax_aload_n (pc' := 17) dX11_undo_16 rfl rfl ?_
    refine ax_iconst (pc' := 18) (v := (0 : Int32)) dX11_undo_17 (by decide) rfl ?_
    refine ax_putI (pc' := 21) dX11_undo_18 fp_X11_99 sh_0 rfl rfl rfl ?_
    refine ax_aload_n (pc' := 22) dX11_undo_21 rfl rfl ?_
    refine ax_getR (pc' := 25) dX11_undo_22 fl_X11_68 sh_0 rfl rfl rfl ?_
    refine ax_getI (pc' := 28) dX11_undo_25 fl_X11_162 sh_58 rfl rfl rfl ?_
    exact ax_iret dX11_undo_28 rfl rfl rfl ⟨_, _, rfl, rfl, H⟩
  · have H := H.2 hc11
    refine ax_iconst (pc' := 15) (v := (-1 : Int32)) dX11_undo_14 (by decide) rfl ?_
    exact ax_iret dX11_undo_15 rfl rfl rfl ⟨_, _, rfl, rfl, H⟩
theorem o_X11_image {g : ac_G} {τ : Nat → Nat → Int64} (d : Nat)  {Q : Int32 → ac_m → Prop} {s : ac_m} (H : w_X11_image  Q s) : ac_M g i_X11_image (d + 2) 0 0 [.ref 0] (false, 586, SH, s, τ) (liI τ Q) := by
  refine ac_ofX (by decide +kernel) rfl rfl rfl ?_
  refine ax_aload_n (pc' := 1) dX11_image_0 rfl rfl ?_
  refine ax_getR (pc' := 4) dX11_image_1 fl_X11_68 sh_0 rfl rfl rfl ?_
  refine ax_aload_n (pc' := 5) dX11_image_4 rfl rfl ?_
  refine ax_getR (pc' := 8) dX11_image_5 fl_X11_58 sh_0 rfl rfl rfl ?_
  refine ay_V1 (pc' := 11) (ce' := 0) (sl' := 0) (mc2 := 0) (ms2 := 0) (I2 := i_X6_takeImage) dX11_image_8 ml_X11_197 sh_58 (by decide) rfl rfl rfl rfl rfl rfl rfl rfl rfl (ac_M.imp (o_X6_takeImage _  H) ?_)
  rintro _ _ ⟨r8, s8, rfl, rfl, H⟩
  refine ax_if_eq (pc' := 14) (tgt := 24) dX11_image_11 (by decide) rfl (fun hc11 => ?_) (fun hc11 => ?_)
  · have H := H.1 hc11
    refine ax_iconst (pc' := 25) (v := (-1 : Int32)) dX11_image_24 (by decide) rfl ?_
    exact ax_iret dX11_image_25 rfl rfl rfl ⟨_, _, rfl, rfl, H⟩
  · have H := H.2 hc11
    refine ax_aload_n (pc' := 15) dX11_image_14 rfl rfl ?_
    refine ax_getR (pc' := 18) dX11_image_15 fl_X11_68 sh_0 rfl rfl rfl ?_
    refine ax_getI (pc' := 21) dX11_image_18 fl_X11_200 sh_58 rfl rfl rfl ?_
    refine ax_goto (tgt := 25) dX11_image_21 (by decide) ?_
    exact ax_iret dX11_image_25 rfl rfl rfl ⟨_, _, rfl, rfl, H⟩
theorem o_X11_restore {g : ac_G} {τ : Nat → Nat → Int64} (d : Nat)  {Q : Int32 → ac_m → Prop} {s : ac_m} (H : w_X11_restore  Q s) : ac_M g i_X11_restore (d + 2) 0 0 [.ref 0] (false, 586, SH, s, τ) (liI τ Q) := by
  refine ac_ofX (by decide +kernel) rfl rfl rfl ?_
  refine ax_aload_n (pc' := 1) dX11_restore_0 rfl rfl ?_
  refine ax_getR (pc' := 4) dX11_restore_1 fl_X11_68 sh_0 rfl rfl rfl ?_
  refine ax_aload_n (pc' := 5) dX11_restore_4 rfl rfl ?_
  refine ax_getR (pc' := 8) dX11_restore_5 fl_X11_58 sh_0 rfl rfl rfl ?_
  refine ay_V1 (pc' := 11) (ce' := 0) (sl' := 0) (mc2 := 0) (ms2 := 0) (I2 := i_X6_useImage) dX11_restore_8 ml_X11_203 sh_58 (by decide) rfl rfl rfl rfl rfl rfl rfl rfl rfl (ac_M.imp (o_X6_useImage _  H) ?_)
  rintro _ _ ⟨r8, s8, rfl, rfl, H⟩
  refine ax_if_ne (pc' := 14) (tgt := 16) dX11_restore_11 (by decide) rfl (fun hc11 => ?_) (fun hc11 => ?_)
  · have H := H.1 hc11
    refine ax_aload_n (pc' := 17) dX11_restore_16 rfl rfl ?_
    refine ax_iconst (pc' := 18) (v := (0 : Int32)) dX11_restore_17 (by decide) rfl ?_
    refine ax_putI (pc' := 21) dX11_restore_18 fp_X11_99 sh_0 rfl rfl rfl ?_
    refine ax_aload_n (pc' := 22) dX11_restore_21 rfl rfl ?_
    refine ax_getR (pc' := 25) dX11_restore_22 fl_X11_68 sh_0 rfl rfl rfl ?_
    refine ax_getI (pc' := 28) dX11_restore_25 fl_X11_200 sh_58 rfl rfl rfl ?_
    exact ax_iret dX11_restore_28 rfl rfl rfl ⟨_, _, rfl, rfl, H⟩
  · have H := H.2 hc11
    refine ax_iconst (pc' := 15) (v := (-1 : Int32)) dX11_restore_14 (by decide) rfl ?_
    exact ax_iret dX11_restore_15 rfl rfl rfl ⟨_, _, rfl, rfl, H⟩
theorem o_X11_told {g : ac_G} {τ : Nat → Nat → Int64} (d : Nat) (p1 : Int32) {Q : Int32 → ac_m → Prop} {X : String → ac_m → Prop} {s : ac_m} (H : w_X11_told p1 Q X s) : ac_M g i_X11_told (d + 5) 1 6 [.ref 0, .int p1] (false, 586, SH, s, τ) (liIX τ Q X) := by
  refine ac_ofX (by decide +kernel) rfl rfl rfl ?_
  refine ax_aload_n (pc' := 1) dX11_told_0 rfl rfl ?_
  refine ax_iload_n (pc' := 2) dX11_told_1 rfl rfl ?_
  refine ax_iconst (pc' := 3) (v := (0 : Int32)) dX11_told_2 (by decide) rfl ?_
  refine ax_bipush (pc' := 5) (v := (11 : Int32)) dX11_told_3 (by decide) rfl ?_
  refine ay_V3 (pc' := 8) (ce' := 1) (sl' := 6) (mc2 := 1) (ms2 := 6) (I2 := i_X11_needWithin) dX11_told_5 ml_X11_120 sh_0 (by decide) rfl rfl rfl rfl rfl rfl rfl rfl rfl (ac_M.imp (o_X11_needWithin _ p1 (0 : Int32) (11 : Int32) H) ?_)
  rintro _ _ (⟨s5, rfl, rfl, H⟩ | ⟨E, s0, rfl, rfl, H⟩)
  rotate_left
  · exact Or.inr ⟨E, s0, rfl, rfl, H⟩
  refine ax_iload_n (pc' := 9) dX11_told_8 rfl rfl ?_
  by_cases hk9_0 : p1 = (0 : Int32)
  · have H := H.1 hk9_0
    refine ax_tableIn (off := (59)) (tgt := 68) dX11_told_9 (by rw [hk9_0]; decide) (by rw [hk9_0]; decide) (by rw [hk9_0]; rfl) (by decide) ?_
    refine ax_aload_n (pc' := 69) dX11_told_68 rfl rfl ?_
    refine ax_getR (pc' := 72) dX11_told_69 fl_X11_19 sh_0 rfl rfl rfl ?_
    refine ax_getI (pc' := 75) dX11_told_72 fl_X11_206 sh_3 rfl rfl rfl ?_
    exact ax_iret dX11_told_75 rfl rfl rfl (Or.inl ⟨_, _, rfl, rfl, H⟩)
  have H := H.2
  by_cases hk9_1 : p1 = (1 : Int32)
  · have H := H.1 hk9_1
    refine ax_tableIn (off := (67)) (tgt := 76) dX11_told_9 (by rw [hk9_1]; decide) (by rw [hk9_1]; decide) (by rw [hk9_1]; rfl) (by decide) ?_
    refine ax_aload_n (pc' := 77) dX11_told_76 rfl rfl ?_
    refine ax_getR (pc' := 80) dX11_told_77 fl_X11_19 sh_0 rfl rfl rfl ?_
    refine ax_getI (pc' := 83) dX11_told_80 fl_X11_149 sh_3 rfl rfl rfl ?_
    exact ax_iret dX11_told_83 rfl rfl rfl (Or.inl ⟨_, _, rfl, rfl, H⟩)
  have H := H.2
  by_cases hk9_2 : p1 = (2 : Int32)
  · have H := H.1 hk9_2
    refine ax_tableIn (off := (75)) (tgt := 84) dX11_told_9 (by rw [hk9_2]; decide) (by rw [hk9_2]; decide) (by rw [hk9_2]; rfl) (by decide) ?_
    refine ax_aload_n (pc' := 85) dX11_told_84 rfl rfl ?_
    refine ax_getR (pc' := 88) dX11_told_85 fl_X11_19 sh_0 rfl rfl rfl ?_
    refine ax_getI (pc' := 91) dX11_told_88 fl_X11_209 sh_3 rfl rfl rfl ?_
    exact ax_iret dX11_told_91 rfl rfl rfl (Or.inl ⟨_, _, rfl, rfl, H⟩)
  have H := H.2
  by_cases hk9_3 : p1 = (3 : Int32)
  · have H := H.1 hk9_3
    refine ax_tableIn (off := (83)) (tgt := 92) dX11_told_9 (by rw [hk9_3]; decide) (by rw [hk9_3]; decide) (by rw [hk9_3]; rfl) (by decide) ?_
    refine ax_aload_n (pc' := 93) dX11_told_92 rfl rfl ?_
    refine ax_getR (pc' := 96) dX11_told_93 fl_X11_58 sh_0 rfl rfl rfl ?_
    refine ax_getI (pc' := 99) dX11_told_96 fl_X11_212 sh_42 rfl rfl rfl ?_
    exact ax_iret dX11_told_99 rfl rfl rfl (Or.inl ⟨_, _, rfl, rfl, H⟩)
  have H := H.2
  by_cases hk9_4 : p1 = (4 : Int32)
  · have H := H.1 hk9_4
    refine ax_tableIn (off := (91)) (tgt := 100) dX11_told_9 (by rw [hk9_4]; decide) (by rw [hk9_4]; decide) (by rw [hk9_4]; rfl) (by decide) ?_
    refine ax_aload_n (pc' := 101) dX11_told_100 rfl rfl ?_
    refine ax_getR (pc' := 104) dX11_told_101 fl_X11_58 sh_0 rfl rfl rfl ?_
    refine ay_V0 (pc' := 107) (ce' := 1) (sl' := 6) (mc2 := 0) (ms2 := 0) (I2 := i_X5_thereBits) dX11_told_104 ml_X11_215 sh_42 (by decide) rfl rfl rfl rfl rfl rfl rfl rfl rfl (ac_M.imp (o_X5_thereBits _ 42 is_now H) ?_)
    rintro _ _ ⟨r104, s104, rfl, rfl, H⟩
    exact ax_iret dX11_told_107 rfl rfl rfl (Or.inl ⟨_, _, rfl, rfl, H⟩)
  have H := H.2
  by_cases hk9_5 : p1 = (5 : Int32)
  · have H := H.1 hk9_5
    refine ax_tableIn (off := (99)) (tgt := 108) dX11_told_9 (by rw [hk9_5]; decide) (by rw [hk9_5]; decide) (by rw [hk9_5]; rfl) (by decide) ?_
    refine ax_aload_n (pc' := 109) dX11_told_108 rfl rfl ?_
    refine ax_getR (pc' := 112) dX11_told_109 fl_X11_58 sh_0 rfl rfl rfl ?_
    refine ay_V0 (pc' := 115) (ce' := 1) (sl' := 6) (mc2 := 0) (ms2 := 0) (I2 := i_X5_allGrass) dX11_told_112 ml_X11_218 sh_42 (by decide) rfl rfl rfl rfl rfl rfl rfl rfl rfl (ac_M.imp (o_X5_allGrass _ 42 is_now H) ?_)
    rintro _ _ ⟨r112, s112, rfl, rfl, H⟩
    exact ax_iret dX11_told_115 rfl rfl rfl (Or.inl ⟨_, _, rfl, rfl, H⟩)
  have H := H.2
  by_cases hk9_6 : p1 = (6 : Int32)
  · have H := H.1 hk9_6
    refine ax_tableIn (off := (107)) (tgt := 116) dX11_told_9 (by rw [hk9_6]; decide) (by rw [hk9_6]; decide) (by rw [hk9_6]; rfl) (by decide) ?_
    refine ax_aload_n (pc' := 117) dX11_told_116 rfl rfl ?_
    refine ax_getR (pc' := 120) dX11_told_117 fl_X11_58 sh_0 rfl rfl rfl ?_
    refine ax_aload_n (pc' := 121) dX11_told_120 rfl rfl ?_
    refine ax_getR (pc' := 124) dX11_told_121 fl_X11_58 sh_0 rfl rfl rfl ?_
    refine ay_V0 (pc' := 127) (ce' := 1) (sl' := 6) (mc2 := 0) (ms2 := 0) (I2 := i_X5_thereBits) dX11_told_124 ml_X11_215 sh_42 (by decide) rfl rfl rfl rfl rfl rfl rfl rfl rfl (ac_M.imp (o_X5_thereBits _ 42 is_now H) ?_)
    rintro _ _ ⟨r124, s124, rfl, rfl, H⟩
    refine ay_V1 (pc' := 130) (ce' := 1) (sl' := 6) (mc2 := 0) (ms2 := 0) (I2 := i_X5_weightOf) dX11_told_127 ml_X11_221 sh_42 (by decide) rfl rfl rfl rfl rfl rfl rfl rfl rfl (ac_M.imp (o_X5_weightOf _ 42 r124 is_now H) ?_)
    rintro _ _ ⟨r127, s127, rfl, rfl, H⟩
    exact ax_iret dX11_told_130 rfl rfl rfl (Or.inl ⟨_, _, rfl, rfl, H⟩)
  have H := H.2
  by_cases hk9_7 : p1 = (7 : Int32)
  · have H := H.1 hk9_7
    refine ax_tableIn (off := (122)) (tgt := 131) dX11_told_9 (by rw [hk9_7]; decide) (by rw [hk9_7]; decide) (by rw [hk9_7]; rfl) (by decide) ?_
    refine ax_aload_n (pc' := 132) dX11_told_131 rfl rfl ?_
    refine ax_getR (pc' := 135) dX11_told_132 fl_X11_58 sh_0 rfl rfl rfl ?_
    refine ax_aload_n (pc' := 136) dX11_told_135 rfl rfl ?_
    refine ax_getR (pc' := 139) dX11_told_136 fl_X11_58 sh_0 rfl rfl rfl ?_
    refine ay_V0 (pc' := 142) (ce' := 1) (sl' := 6) (mc2 := 0) (ms2 := 0) (I2 := i_X5_thereBits) dX11_told_139 ml_X11_215 sh_42 (by decide) rfl rfl rfl rfl rfl rfl rfl rfl rfl (ac_M.imp (o_X5_thereBits _ 42 is_now H) ?_)
    rintro _ _ ⟨r139, s139, rfl, rfl, H⟩
    refine ay_V1 (pc' := 145) (ce' := 1) (sl' := 6) (mc2 := 0) (ms2 := 0) (I2 := i_X5_eatenBy) dX11_told_142 ml_X11_225 sh_42 (by decide) rfl rfl rfl rfl rfl rfl rfl rfl rfl (ac_M.imp (o_X5_eatenBy _ 42 r139 is_now H) ?_)
    rintro _ _ ⟨r142, s142, rfl, rfl, H⟩
    exact ax_iret dX11_told_145 rfl rfl rfl (Or.inl ⟨_, _, rfl, rfl, H⟩)
  have H := H.2
  by_cases hk9_8 : p1 = (8 : Int32)
  · have H := H.1 hk9_8
    refine ax_tableIn (off := (137)) (tgt := 146) dX11_told_9 (by rw [hk9_8]; decide) (by rw [hk9_8]; decide) (by rw [hk9_8]; rfl) (by decide) ?_
    refine ax_aload_n (pc' := 147) dX11_told_146 rfl rfl ?_
    refine ax_getR (pc' := 150) dX11_told_147 fl_X11_58 sh_0 rfl rfl rfl ?_
    refine ax_getI (pc' := 153) dX11_told_150 fl_X11_228 sh_42 rfl rfl rfl ?_
    exact ax_iret dX11_told_153 rfl rfl rfl (Or.inl ⟨_, _, rfl, rfl, H⟩)
  have H := H.2
  by_cases hk9_9 : p1 = (9 : Int32)
  · have H := H.1 hk9_9
    refine ax_tableIn (off := (145)) (tgt := 154) dX11_told_9 (by rw [hk9_9]; decide) (by rw [hk9_9]; decide) (by rw [hk9_9]; rfl) (by decide) ?_
    refine ax_aload_n (pc' := 155) dX11_told_154 rfl rfl ?_
    refine ax_getR (pc' := 158) dX11_told_155 fl_X11_39 sh_0 rfl rfl rfl ?_
    refine ax_getI (pc' := 161) dX11_told_158 fl_X11_187 sh_33 rfl rfl rfl ?_
    exact ax_iret dX11_told_161 rfl rfl rfl (Or.inl ⟨_, _, rfl, rfl, H⟩)
  have H := H.2
  by_cases hk9_10 : p1 = (10 : Int32)
  · have H := H.1 hk9_10
    refine ax_tableIn (off := (153)) (tgt := 162) dX11_told_9 (by rw [hk9_10]; decide) (by rw [hk9_10]; decide) (by rw [hk9_10]; rfl) (by decide) ?_
    refine ax_aload_n (pc' := 163) dX11_told_162 rfl rfl ?_
    refine ax_getI (pc' := 166) dX11_told_163 fl_X11_99 sh_0 rfl rfl rfl ?_
    exact ax_iret dX11_told_166 rfl rfl rfl (Or.inl ⟨_, _, rfl, rfl, H⟩)
  have H := H.2
  have H := H ⟨hk9_0, hk9_1, hk9_2, hk9_3, hk9_4, hk9_5, hk9_6, hk9_7, hk9_8, hk9_9, hk9_10⟩
  have hq0 : p1.toInt ≠ 0 := ac_ne hk9_0
  have hq1 : p1.toInt ≠ 1 := ac_ne hk9_1
  have hq2 : p1.toInt ≠ 2 := ac_ne hk9_2
  have hq3 : p1.toInt ≠ 3 := ac_ne hk9_3
  have hq4 : p1.toInt ≠ 4 := ac_ne hk9_4
  have hq5 : p1.toInt ≠ 5 := ac_ne hk9_5
  have hq6 : p1.toInt ≠ 6 := ac_ne hk9_6
  have hq7 : p1.toInt ≠ 7 := ac_ne hk9_7
  have hq8 : p1.toInt ≠ 8 := ac_ne hk9_8
  have hq9 : p1.toInt ≠ 9 := ac_ne hk9_9
  have hq10 : p1.toInt ≠ 10 := ac_ne hk9_10
  refine ax_tableOut (tgt := 167) dX11_told_9 (by omega) (by decide) ?_
  refine ax_aload_n (pc' := 168) dX11_told_167 rfl rfl ?_
  refine ax_getR (pc' := 171) dX11_told_168 fl_X11_58 sh_0 rfl rfl rfl ?_
  refine ay_V0 (pc' := 174) (ce' := 1) (sl' := 6) (mc2 := 0) (ms2 := 0) (I2 := i_X5_allCoolness) dX11_told_171 ml_X11_231 sh_42 (by decide) rfl rfl rfl rfl rfl rfl rfl rfl rfl (ac_M.imp (o_X5_allCoolness _ 42 is_now H) ?_)
  rintro _ _ ⟨r171, s171, rfl, rfl, H⟩
  exact ax_iret dX11_told_174 rfl rfl rfl (Or.inl ⟨_, _, rfl, rfl, H⟩)
theorem tw_X11_needNumber_19 : ac_Tn RX11 397 401 "java/util/NoSuchElementException" "java/lang/RuntimeException" 13 prog_31_method_4_code ["java/lang/Exception"] := ⟨by decide +kernel, by decide +kernel, by decide +kernel, ⟨by decide +kernel, by decide +kernel, by decide +kernel, by decide +kernel⟩, by decide +kernel⟩
theorem o_X11_needNumber {g : ac_G} {τ : Nat → Nat → Int64} (d : Nat) (p1 : Int32) (p2 : Int32) {Q : ac_m → Prop} {X : String → ac_m → Prop} {s : ac_m} (H : w_X11_needNumber p1 p2 Q X s) : ac_M g i_X11_needNumber d 1 6 [.ref 0, .int p1, .int p2] (false, 586, SH, s, τ) (liVX τ Q X) := by
  refine ac_ofX (by decide +kernel) rfl rfl rfl ?_
  refine ax_iload_n (pc' := 1) dX11_needNumber_0 rfl rfl ?_
  refine ax_if_lt (pc' := 4) (tgt := 9) dX11_needNumber_1 (by decide) rfl (fun hc1 => ?_) (fun hc1 => ?_)
  · have H := H.1 hc1
    refine ax_aload_n (pc' := 10) dX11_needNumber_9 rfl rfl ?_
    refine ax_dup (pc' := 11) dX11_needNumber_10 rfl rfl ?_
    refine ax_getI (pc' := 14) dX11_needNumber_11 fl_X11_103 sh_0 rfl rfl rfl ?_
    refine ax_iconst (pc' := 15) (v := (1 : Int32)) dX11_needNumber_14 (by decide) rfl ?_
    refine ax_iadd (pc' := 16) dX11_needNumber_15 rfl ?_
    refine ax_putI (pc' := 19) dX11_needNumber_16 fp_X11_103 sh_0 rfl rfl rfl ?_
    exact ax_throwN (i := 21) tw_X11_needNumber_19 rfl rfl dX11_needNumber_19 dX11_needNumber_22 dX11_needNumber_23 dX11_needNumber_26 dX11_needNumber_29 rfl rfl rfl rfl (Or.inr ⟨_, _, rfl, rfl, H⟩)
  · have H := H.2 hc1
    refine ax_iload_n (pc' := 5) dX11_needNumber_4 rfl rfl ?_
    refine ax_iload_n (pc' := 6) dX11_needNumber_5 rfl rfl ?_
    refine ax_icmp_lt (pc' := 9) (tgt := 30) dX11_needNumber_6 (by decide) rfl (fun hc6 => ?_) (fun hc6 => ?_)
    · have H := H.1 hc6
      exact ax_vret dX11_needNumber_30 rfl rfl rfl (Or.inl ⟨_, rfl, rfl, H⟩)
    · have H := H.2 hc6
      refine ax_aload_n (pc' := 10) dX11_needNumber_9 rfl rfl ?_
      refine ax_dup (pc' := 11) dX11_needNumber_10 rfl rfl ?_
      refine ax_getI (pc' := 14) dX11_needNumber_11 fl_X11_103 sh_0 rfl rfl rfl ?_
      refine ax_iconst (pc' := 15) (v := (1 : Int32)) dX11_needNumber_14 (by decide) rfl ?_
      refine ax_iadd (pc' := 16) dX11_needNumber_15 rfl ?_
      refine ax_putI (pc' := 19) dX11_needNumber_16 fp_X11_103 sh_0 rfl rfl rfl ?_
      exact ax_throwN (i := 21) tw_X11_needNumber_19 rfl rfl dX11_needNumber_19 dX11_needNumber_22 dX11_needNumber_23 dX11_needNumber_26 dX11_needNumber_29 rfl rfl rfl rfl (Or.inr ⟨_, _, rfl, rfl, H⟩)
theorem o_X11_needFolk {g : ac_G} {τ : Nat → Nat → Int64} (d : Nat) (p1 : Int32) {Q : ac_m → Prop} {X : String → ac_m → Prop} {s : ac_m} (H : w_X11_needFolk p1 Q X s) : ac_M g i_X11_needFolk (d + 1) 1 6 [.ref 0, .int p1] (false, 586, SH, s, τ) (liVX τ Q X) := by
  refine ac_ofX (by decide +kernel) rfl rfl rfl ?_
  refine ax_aload_n (pc' := 1) dX11_needFolk_0 rfl rfl ?_
  refine ax_iload_n (pc' := 2) dX11_needFolk_1 rfl rfl ?_
  refine ax_aload_n (pc' := 3) dX11_needFolk_2 rfl rfl ?_
  refine ax_getR (pc' := 6) dX11_needFolk_3 fl_X11_19 sh_0 rfl rfl rfl ?_
  refine ax_getI (pc' := 9) dX11_needFolk_6 fl_X11_206 sh_3 rfl rfl rfl ?_
  refine ay_V2 (pc' := 12) (ce' := 1) (sl' := 6) (mc2 := 1) (ms2 := 6) (I2 := i_X11_needNumber) dX11_needFolk_9 ml_X11_270 sh_0 (by decide) rfl rfl rfl rfl rfl rfl rfl rfl rfl (ac_M.imp (o_X11_needNumber _ p1 (s 3 10) H) ?_)
  rintro _ _ (⟨s9, rfl, rfl, H⟩ | ⟨E, s0, rfl, rfl, H⟩)
  rotate_left
  · exact Or.inr ⟨E, s0, rfl, rfl, H⟩
  exact ax_vret dX11_needFolk_12 rfl rfl rfl (Or.inl ⟨_, rfl, rfl, H⟩)
theorem o_X11_folk {g : ac_G} {τ : Nat → Nat → Int64} (d : Nat) (p1 : Int32) (p2 : Int32) {Q : Int32 → ac_m → Prop} {X : String → ac_m → Prop} {s : ac_m} (H : w_X11_folk p1 p2 Q X s) : ac_M g i_X11_folk (d + 5) 2 12 [.ref 0, .int p1, .int p2] (false, 586, SH, s, τ) (liIX τ Q X) := by
  refine ac_ofX (by decide +kernel) rfl rfl rfl ?_
  refine ax_aload_n (pc' := 1) dX11_folk_0 rfl rfl ?_
  refine ax_iload_n (pc' := 2) dX11_folk_1 rfl rfl ?_
  refine ay_V1 (pc' := 5) (ce' := 1) (sl' := 6) (mc2 := 1) (ms2 := 6) (I2 := i_X11_needFolk) dX11_folk_2 ml_X11_234 sh_0 (by decide) rfl rfl rfl rfl rfl rfl rfl rfl rfl (ac_M.imp (o_X11_needFolk _ p1 H) ?_)
  rintro _ _ (⟨s2, rfl, rfl, H⟩ | ⟨E, s0, rfl, rfl, H⟩)
  rotate_left
  · exact Or.inr ⟨E, s0, rfl, rfl, H⟩
  refine ax_aload_n (pc' := 6) dX11_folk_5 rfl rfl ?_
  refine ax_iload_n (pc' := 7) dX11_folk_6 rfl rfl ?_
  refine ax_iconst (pc' := 8) (v := (0 : Int32)) dX11_folk_7 (by decide) rfl ?_
  refine ax_iconst (pc' := 9) (v := (5 : Int32)) dX11_folk_8 (by decide) rfl ?_
  refine ay_V3 (pc' := 12) (ce' := 2) (sl' := 12) (mc2 := 1) (ms2 := 6) (I2 := i_X11_needWithin) dX11_folk_9 ml_X11_120 sh_0 (by decide) rfl rfl rfl rfl rfl rfl rfl rfl rfl (ac_M.imp (o_X11_needWithin _ p2 (0 : Int32) (5 : Int32) H) ?_)
  rintro _ _ (⟨s9, rfl, rfl, H⟩ | ⟨E, s0, rfl, rfl, H⟩)
  rotate_left
  · exact Or.inr ⟨E, s0, rfl, rfl, H⟩
  refine ax_iload_n (pc' := 13) dX11_folk_12 rfl rfl ?_
  by_cases hk13_0 : p2 = (0 : Int32)
  · have H := H.1 hk13_0
    refine ax_tableIn (off := (35)) (tgt := 48) dX11_folk_13 (by rw [hk13_0]; decide) (by rw [hk13_0]; decide) (by rw [hk13_0]; rfl) (by decide) ?_
    refine ax_aload_n (pc' := 49) dX11_folk_48 rfl rfl ?_
    refine ax_getR (pc' := 52) dX11_folk_49 fl_X11_58 sh_0 rfl rfl rfl ?_
    refine ax_iload_n (pc' := 53) dX11_folk_52 rfl rfl ?_
    refine ay_V1 (pc' := 56) (ce' := 2) (sl' := 12) (mc2 := 0) (ms2 := 0) (I2 := i_X5_grassOf) dX11_folk_53 ml_X11_237 sh_42 (by decide) rfl rfl rfl rfl rfl rfl rfl rfl rfl (ac_M.imp (o_X5_grassOf _ 42 p1 is_now H) ?_)
    rintro _ _ ⟨r53, s53, rfl, rfl, H⟩
    exact ax_iret dX11_folk_56 rfl rfl rfl (Or.inl ⟨_, _, rfl, rfl, H⟩)
  have H := H.2
  by_cases hk13_1 : p2 = (1 : Int32)
  · have H := H.1 hk13_1
    refine ax_tableIn (off := (44)) (tgt := 57) dX11_folk_13 (by rw [hk13_1]; decide) (by rw [hk13_1]; decide) (by rw [hk13_1]; rfl) (by decide) ?_
    refine ax_aload_n (pc' := 58) dX11_folk_57 rfl rfl ?_
    refine ax_getR (pc' := 61) dX11_folk_58 fl_X11_19 sh_0 rfl rfl rfl ?_
    refine ax_iload_n (pc' := 62) dX11_folk_61 rfl rfl ?_
    refine ay_V1 (pc' := 65) (ce' := 2) (sl' := 12) (mc2 := 0) (ms2 := 0) (I2 := i_X3_growthOf) dX11_folk_62 ml_X11_240 sh_3 (by decide) rfl rfl rfl rfl rfl rfl rfl rfl rfl (ac_M.imp (o_X3_growthOf _ p1 H) ?_)
    rintro _ _ ⟨r62, s62, rfl, rfl, H⟩
    exact ax_iret dX11_folk_65 rfl rfl rfl (Or.inl ⟨_, _, rfl, rfl, H⟩)
  have H := H.2
  by_cases hk13_2 : p2 = (2 : Int32)
  · have H := H.1 hk13_2
    refine ax_tableIn (off := (53)) (tgt := 66) dX11_folk_13 (by rw [hk13_2]; decide) (by rw [hk13_2]; decide) (by rw [hk13_2]; rfl) (by decide) ?_
    refine ax_aload_n (pc' := 67) dX11_folk_66 rfl rfl ?_
    refine ax_getR (pc' := 70) dX11_folk_67 fl_X11_58 sh_0 rfl rfl rfl ?_
    refine ax_iload_n (pc' := 71) dX11_folk_70 rfl rfl ?_
    refine ay_V1 (pc' := 74) (ce' := 2) (sl' := 12) (mc2 := 0) (ms2 := 0) (I2 := i_X5_grazingBits) dX11_folk_71 ml_X11_243 sh_42 (by decide) rfl rfl rfl rfl rfl rfl rfl rfl rfl (ac_M.imp (o_X5_grazingBits _ 42 p1 is_now H) ?_)
    rintro _ _ ⟨r71, s71, rfl, rfl, H⟩
    exact ax_iret dX11_folk_74 rfl rfl rfl (Or.inl ⟨_, _, rfl, rfl, H⟩)
  have H := H.2
  by_cases hk13_3 : p2 = (3 : Int32)
  · have H := H.1 hk13_3
    refine ax_tableIn (off := (62)) (tgt := 75) dX11_folk_13 (by rw [hk13_3]; decide) (by rw [hk13_3]; decide) (by rw [hk13_3]; rfl) (by decide) ?_
    refine ax_aload_n (pc' := 76) dX11_folk_75 rfl rfl ?_
    refine ax_getR (pc' := 79) dX11_folk_76 fl_X11_58 sh_0 rfl rfl rfl ?_
    refine ay_V0 (pc' := 82) (ce' := 2) (sl' := 12) (mc2 := 0) (ms2 := 0) (I2 := i_X5_thereBits) dX11_folk_79 ml_X11_215 sh_42 (by decide) rfl rfl rfl rfl rfl rfl rfl rfl rfl (ac_M.imp (o_X5_thereBits _ 42 is_now H) ?_)
    rintro _ _ ⟨r79, s79, rfl, rfl, H⟩
    refine ax_aload_n (pc' := 83) dX11_folk_82 rfl rfl ?_
    refine ax_getR (pc' := 86) dX11_folk_83 fl_X11_19 sh_0 rfl rfl rfl ?_
    refine ax_iload_n (pc' := 87) dX11_folk_86 rfl rfl ?_
    refine ay_V1 (pc' := 90) (ce' := 2) (sl' := 12) (mc2 := 0) (ms2 := 0) (I2 := i_X3_doneBy) dX11_folk_87 ml_X11_246 sh_3 (by decide) rfl rfl rfl rfl rfl rfl rfl rfl rfl (ac_M.imp (o_X3_doneBy _ p1 H) ?_)
    rintro _ _ ⟨r87, s87, rfl, rfl, H⟩
    refine ax_iand (pc' := 91) dX11_folk_90 rfl ?_
    exact ax_iret dX11_folk_91 rfl rfl rfl (Or.inl ⟨_, _, rfl, rfl, H⟩)
  have H := H.2
  by_cases hk13_4 : p2 = (4 : Int32)
  · have H := H.1 hk13_4
    refine ax_tableIn (off := (79)) (tgt := 92) dX11_folk_13 (by rw [hk13_4]; decide) (by rw [hk13_4]; decide) (by rw [hk13_4]; rfl) (by decide) ?_
    refine ax_aload_n (pc' := 93) dX11_folk_92 rfl rfl ?_
    refine ax_getR (pc' := 96) dX11_folk_93 fl_X11_58 sh_0 rfl rfl rfl ?_
    refine ay_V0 (pc' := 99) (ce' := 2) (sl' := 12) (mc2 := 0) (ms2 := 0) (I2 := i_X5_thereBits) dX11_folk_96 ml_X11_215 sh_42 (by decide) rfl rfl rfl rfl rfl rfl rfl rfl rfl (ac_M.imp (o_X5_thereBits _ 42 is_now H) ?_)
    rintro _ _ ⟨r96, s96, rfl, rfl, H⟩
    refine ax_aload_n (pc' := 100) dX11_folk_99 rfl rfl ?_
    refine ax_getR (pc' := 103) dX11_folk_100 fl_X11_19 sh_0 rfl rfl rfl ?_
    refine ax_iload_n (pc' := 104) dX11_folk_103 rfl rfl ?_
    refine ay_V1 (pc' := 107) (ce' := 2) (sl' := 12) (mc2 := 0) (ms2 := 0) (I2 := i_X3_doneFor) dX11_folk_104 ml_X11_249 sh_3 (by decide) rfl rfl rfl rfl rfl rfl rfl rfl rfl (ac_M.imp (o_X3_doneFor _ p1 H) ?_)
    rintro _ _ ⟨r104, s104, rfl, rfl, H⟩
    refine ax_iand (pc' := 108) dX11_folk_107 rfl ?_
    exact ax_iret dX11_folk_108 rfl rfl rfl (Or.inl ⟨_, _, rfl, rfl, H⟩)
  have H := H.2
  have H := H ⟨hk13_0, hk13_1, hk13_2, hk13_3, hk13_4⟩
  have hq0 : p2.toInt ≠ 0 := ac_ne hk13_0
  have hq1 : p2.toInt ≠ 1 := ac_ne hk13_1
  have hq2 : p2.toInt ≠ 2 := ac_ne hk13_2
  have hq3 : p2.toInt ≠ 3 := ac_ne hk13_3
  have hq4 : p2.toInt ≠ 4 := ac_ne hk13_4
  refine ax_tableOut (tgt := 109) dX11_folk_13 (by omega) (by decide) ?_
  refine ax_aload_n (pc' := 110) dX11_folk_109 rfl rfl ?_
  refine ax_getR (pc' := 113) dX11_folk_110 fl_X11_58 sh_0 rfl rfl rfl ?_
  refine ax_aload_n (pc' := 114) dX11_folk_113 rfl rfl ?_
  refine ax_getR (pc' := 117) dX11_folk_114 fl_X11_58 sh_0 rfl rfl rfl ?_
  refine ax_iload_n (pc' := 118) dX11_folk_117 rfl rfl ?_
  refine ay_V1 (pc' := 121) (ce' := 2) (sl' := 12) (mc2 := 0) (ms2 := 0) (I2 := i_X5_grazingBits) dX11_folk_118 ml_X11_243 sh_42 (by decide) rfl rfl rfl rfl rfl rfl rfl rfl rfl (ac_M.imp (o_X5_grazingBits _ 42 p1 is_now H) ?_)
  rintro _ _ ⟨r118, s118, rfl, rfl, H⟩
  refine ay_V1 (pc' := 124) (ce' := 2) (sl' := 12) (mc2 := 0) (ms2 := 0) (I2 := i_X5_eatenBy) dX11_folk_121 ml_X11_225 sh_42 (by decide) rfl rfl rfl rfl rfl rfl rfl rfl rfl (ac_M.imp (o_X5_eatenBy _ 42 r118 is_now H) ?_)
  rintro _ _ ⟨r121, s121, rfl, rfl, H⟩
  exact ax_iret dX11_folk_124 rfl rfl rfl (Or.inl ⟨_, _, rfl, rfl, H⟩)
theorem o_X11_needBeast {g : ac_G} {τ : Nat → Nat → Int64} (d : Nat) (p1 : Int32) {Q : ac_m → Prop} {X : String → ac_m → Prop} {s : ac_m} (H : w_X11_needBeast p1 Q X s) : ac_M g i_X11_needBeast (d + 1) 1 6 [.ref 0, .int p1] (false, 586, SH, s, τ) (liVX τ Q X) := by
  refine ac_ofX (by decide +kernel) rfl rfl rfl ?_
  refine ax_aload_n (pc' := 1) dX11_needBeast_0 rfl rfl ?_
  refine ax_iload_n (pc' := 2) dX11_needBeast_1 rfl rfl ?_
  refine ax_aload_n (pc' := 3) dX11_needBeast_2 rfl rfl ?_
  refine ax_getR (pc' := 6) dX11_needBeast_3 fl_X11_19 sh_0 rfl rfl rfl ?_
  refine ax_getI (pc' := 9) dX11_needBeast_6 fl_X11_149 sh_3 rfl rfl rfl ?_
  refine ay_V2 (pc' := 12) (ce' := 1) (sl' := 6) (mc2 := 1) (ms2 := 6) (I2 := i_X11_needNumber) dX11_needBeast_9 ml_X11_270 sh_0 (by decide) rfl rfl rfl rfl rfl rfl rfl rfl rfl (ac_M.imp (o_X11_needNumber _ p1 (s 3 11) H) ?_)
  rintro _ _ (⟨s9, rfl, rfl, H⟩ | ⟨E, s0, rfl, rfl, H⟩)
  rotate_left
  · exact Or.inr ⟨E, s0, rfl, rfl, H⟩
  exact ax_vret dX11_needBeast_12 rfl rfl rfl (Or.inl ⟨_, rfl, rfl, H⟩)
theorem o_X11_beast {g : ac_G} {τ : Nat → Nat → Int64} (d : Nat) (p1 : Int32) (p2 : Int32) {Q : Int32 → ac_m → Prop} {X : String → ac_m → Prop} {s : ac_m} (H : w_X11_beast p1 p2 Q X s) : ac_M g i_X11_beast (d + 5) 2 12 [.ref 0, .int p1, .int p2] (false, 586, SH, s, τ) (liIX τ Q X) := by
  refine ac_ofX (by decide +kernel) rfl rfl rfl ?_
  refine ax_aload_n (pc' := 1) dX11_beast_0 rfl rfl ?_
  refine ax_iload_n (pc' := 2) dX11_beast_1 rfl rfl ?_
  refine ay_V1 (pc' := 5) (ce' := 1) (sl' := 6) (mc2 := 1) (ms2 := 6) (I2 := i_X11_needBeast) dX11_beast_2 ml_X11_252 sh_0 (by decide) rfl rfl rfl rfl rfl rfl rfl rfl rfl (ac_M.imp (o_X11_needBeast _ p1 H) ?_)
  rintro _ _ (⟨s2, rfl, rfl, H⟩ | ⟨E, s0, rfl, rfl, H⟩)
  rotate_left
  · exact Or.inr ⟨E, s0, rfl, rfl, H⟩
  refine ax_aload_n (pc' := 6) dX11_beast_5 rfl rfl ?_
  refine ax_iload_n (pc' := 7) dX11_beast_6 rfl rfl ?_
  refine ax_iconst (pc' := 8) (v := (0 : Int32)) dX11_beast_7 (by decide) rfl ?_
  refine ax_bipush (pc' := 10) (v := (6 : Int32)) dX11_beast_8 (by decide) rfl ?_
  refine ay_V3 (pc' := 13) (ce' := 2) (sl' := 12) (mc2 := 1) (ms2 := 6) (I2 := i_X11_needWithin) dX11_beast_10 ml_X11_120 sh_0 (by decide) rfl rfl rfl rfl rfl rfl rfl rfl rfl (ac_M.imp (o_X11_needWithin _ p2 (0 : Int32) (6 : Int32) H) ?_)
  rintro _ _ (⟨s10, rfl, rfl, H⟩ | ⟨E, s0, rfl, rfl, H⟩)
  rotate_left
  · exact Or.inr ⟨E, s0, rfl, rfl, H⟩
  refine ax_iload_n (pc' := 14) dX11_beast_13 rfl rfl ?_
  by_cases hk14_0 : p2 = (0 : Int32)
  · have H := H.1 hk14_0
    refine ax_tableIn (off := (38)) (tgt := 52) dX11_beast_14 (by rw [hk14_0]; decide) (by rw [hk14_0]; decide) (by rw [hk14_0]; rfl) (by decide) ?_
    refine ax_aload_n (pc' := 53) dX11_beast_52 rfl rfl ?_
    refine ax_getR (pc' := 56) dX11_beast_53 fl_X11_19 sh_0 rfl rfl rfl ?_
    refine ax_iload_n (pc' := 57) dX11_beast_56 rfl rfl ?_
    refine ay_V1 (pc' := 60) (ce' := 2) (sl' := 12) (mc2 := 0) (ms2 := 0) (I2 := i_X3_doerOf) dX11_beast_57 ml_X11_255 sh_3 (by decide) rfl rfl rfl rfl rfl rfl rfl rfl rfl (ac_M.imp (o_X3_doerOf _ p1 H) ?_)
    rintro _ _ ⟨r57, s57, rfl, rfl, H⟩
    exact ax_iret dX11_beast_60 rfl rfl rfl (Or.inl ⟨_, _, rfl, rfl, H⟩)
  have H := H.2
  by_cases hk14_1 : p2 = (1 : Int32)
  · have H := H.1 hk14_1
    refine ax_tableIn (off := (47)) (tgt := 61) dX11_beast_14 (by rw [hk14_1]; decide) (by rw [hk14_1]; decide) (by rw [hk14_1]; rfl) (by decide) ?_
    refine ax_aload_n (pc' := 62) dX11_beast_61 rfl rfl ?_
    refine ax_getR (pc' := 65) dX11_beast_62 fl_X11_19 sh_0 rfl rfl rfl ?_
    refine ax_iload_n (pc' := 66) dX11_beast_65 rfl rfl ?_
    refine ay_V1 (pc' := 69) (ce' := 2) (sl' := 12) (mc2 := 0) (ms2 := 0) (I2 := i_X3_receiverOf) dX11_beast_66 ml_X11_258 sh_3 (by decide) rfl rfl rfl rfl rfl rfl rfl rfl rfl (ac_M.imp (o_X3_receiverOf _ p1 H) ?_)
    rintro _ _ ⟨r66, s66, rfl, rfl, H⟩
    exact ax_iret dX11_beast_69 rfl rfl rfl (Or.inl ⟨_, _, rfl, rfl, H⟩)
  have H := H.2
  by_cases hk14_2 : p2 = (2 : Int32)
  · have H := H.1 hk14_2
    refine ax_tableIn (off := (56)) (tgt := 70) dX11_beast_14 (by rw [hk14_2]; decide) (by rw [hk14_2]; decide) (by rw [hk14_2]; rfl) (by decide) ?_
    refine ax_aload_n (pc' := 71) dX11_beast_70 rfl rfl ?_
    refine ax_getR (pc' := 74) dX11_beast_71 fl_X11_19 sh_0 rfl rfl rfl ?_
    refine ax_iload_n (pc' := 75) dX11_beast_74 rfl rfl ?_
    refine ay_V1 (pc' := 78) (ce' := 2) (sl' := 12) (mc2 := 0) (ms2 := 0) (I2 := i_X3_kindOf) dX11_beast_75 ml_X11_261 sh_3 (by decide) rfl rfl rfl rfl rfl rfl rfl rfl rfl (ac_M.imp (o_X3_kindOf _ p1 H) ?_)
    rintro _ _ ⟨r75, s75, rfl, rfl, H⟩
    exact ax_iret dX11_beast_78 rfl rfl rfl (Or.inl ⟨_, _, rfl, rfl, H⟩)
  have H := H.2
  by_cases hk14_3 : p2 = (3 : Int32)
  · have H := H.1 hk14_3
    refine ax_tableIn (off := (65)) (tgt := 79) dX11_beast_14 (by rw [hk14_3]; decide) (by rw [hk14_3]; decide) (by rw [hk14_3]; rfl) (by decide) ?_
    refine ax_aload_n (pc' := 80) dX11_beast_79 rfl rfl ?_
    refine ax_getR (pc' := 83) dX11_beast_80 fl_X11_58 sh_0 rfl rfl rfl ?_
    refine ax_iconst (pc' := 84) (v := (1 : Int32)) dX11_beast_83 (by decide) rfl ?_
    refine ax_iload_n (pc' := 85) dX11_beast_84 rfl rfl ?_
    refine ax_ishl (pc' := 86) dX11_beast_85 rfl ?_
    refine ay_V1 (pc' := 89) (ce' := 2) (sl' := 12) (mc2 := 0) (ms2 := 0) (I2 := i_X5_weightOf) dX11_beast_86 ml_X11_221 sh_42 (by decide) rfl rfl rfl rfl rfl rfl rfl rfl rfl (ac_M.imp (o_X5_weightOf _ 42 ((1 : Int32) <<< (p1 &&& 31)) is_now H) ?_)
    rintro _ _ ⟨r86, s86, rfl, rfl, H⟩
    exact ax_iret dX11_beast_89 rfl rfl rfl (Or.inl ⟨_, _, rfl, rfl, H⟩)
  have H := H.2
  by_cases hk14_4 : p2 = (4 : Int32)
  · have H := H.1 hk14_4
    refine ax_tableIn (off := (76)) (tgt := 90) dX11_beast_14 (by rw [hk14_4]; decide) (by rw [hk14_4]; decide) (by rw [hk14_4]; rfl) (by decide) ?_
    refine ax_aload_n (pc' := 91) dX11_beast_90 rfl rfl ?_
    refine ax_getR (pc' := 94) dX11_beast_91 fl_X11_58 sh_0 rfl rfl rfl ?_
    refine ax_iload_n (pc' := 95) dX11_beast_94 rfl rfl ?_
    refine ay_V1 (pc' := 98) (ce' := 2) (sl' := 12) (mc2 := 0) (ms2 := 0) (I2 := i_X5_pastureOf) dX11_beast_95 ml_X11_264 sh_42 (by decide) rfl rfl rfl rfl rfl rfl rfl rfl rfl (ac_M.imp (o_X5_pastureOf _ 42 p1 is_now H) ?_)
    rintro _ _ ⟨r95, s95, rfl, rfl, H⟩
    exact ax_iret dX11_beast_98 rfl rfl rfl (Or.inl ⟨_, _, rfl, rfl, H⟩)
  have H := H.2
  by_cases hk14_5 : p2 = (5 : Int32)
  · have H := H.1 hk14_5
    refine ax_tableIn (off := (85)) (tgt := 99) dX11_beast_14 (by rw [hk14_5]; decide) (by rw [hk14_5]; decide) (by rw [hk14_5]; rfl) (by decide) ?_
    refine ax_aload_n (pc' := 100) dX11_beast_99 rfl rfl ?_
    refine ax_getR (pc' := 103) dX11_beast_100 fl_X11_58 sh_0 rfl rfl rfl ?_
    refine ax_iload_n (pc' := 104) dX11_beast_103 rfl rfl ?_
    refine ay_V1 (pc' := 107) (ce' := 2) (sl' := 12) (mc2 := 0) (ms2 := 0) (I2 := i_X5_ageOf) dX11_beast_104 ml_X11_267 sh_42 (by decide) rfl rfl rfl rfl rfl rfl rfl rfl rfl (ac_M.imp (o_X5_ageOf _ 42 p1 is_now H) ?_)
    rintro _ _ ⟨r104, s104, rfl, rfl, H⟩
    exact ax_iret dX11_beast_107 rfl rfl rfl (Or.inl ⟨_, _, rfl, rfl, H⟩)
  have H := H.2
  have H := H ⟨hk14_0, hk14_1, hk14_2, hk14_3, hk14_4, hk14_5⟩
  have hq0 : p2.toInt ≠ 0 := ac_ne hk14_0
  have hq1 : p2.toInt ≠ 1 := ac_ne hk14_1
  have hq2 : p2.toInt ≠ 2 := ac_ne hk14_2
  have hq3 : p2.toInt ≠ 3 := ac_ne hk14_3
  have hq4 : p2.toInt ≠ 4 := ac_ne hk14_4
  have hq5 : p2.toInt ≠ 5 := ac_ne hk14_5
  refine ax_tableOut (tgt := 108) dX11_beast_14 (by omega) (by decide) ?_
  refine ax_aload_n (pc' := 109) dX11_beast_108 rfl rfl ?_
  refine ax_getR (pc' := 112) dX11_beast_109 fl_X11_58 sh_0 rfl rfl rfl ?_
  refine ax_iconst (pc' := 113) (v := (1 : Int32)) dX11_beast_112 (by decide) rfl ?_
  refine ax_iload_n (pc' := 114) dX11_beast_113 rfl rfl ?_
  refine ax_ishl (pc' := 115) dX11_beast_114 rfl ?_
  refine ay_V1 (pc' := 118) (ce' := 2) (sl' := 12) (mc2 := 0) (ms2 := 0) (I2 := i_X5_eatenBy) dX11_beast_115 ml_X11_225 sh_42 (by decide) rfl rfl rfl rfl rfl rfl rfl rfl rfl (ac_M.imp (o_X5_eatenBy _ 42 ((1 : Int32) <<< (p1 &&& 31)) is_now H) ?_)
  rintro _ _ ⟨r115, s115, rfl, rfl, H⟩
  exact ax_iret dX11_beast_118 rfl rfl rfl (Or.inl ⟨_, _, rfl, rfl, H⟩)
theorem o_X11_fair {g : ac_G} {τ : Nat → Nat → Int64} (d : Nat) (p1 : Int32) (p2 : Int32) {Q : Int32 → ac_m → Prop} {X : String → ac_m → Prop} {s : ac_m} (H : w_X11_fair p1 p2 Q X s) : ac_M g i_X11_fair (d + 2) 2 12 [.ref 0, .int p1, .int p2] (false, 586, SH, s, τ) (liIX τ Q X) := by
  refine ac_ofX (by decide +kernel) rfl rfl rfl ?_
  refine ax_aload_n (pc' := 1) dX11_fair_0 rfl rfl ?_
  refine ax_iload_n (pc' := 2) dX11_fair_1 rfl rfl ?_
  refine ax_aload_n (pc' := 3) dX11_fair_2 rfl rfl ?_
  refine ax_getR (pc' := 6) dX11_fair_3 fl_X11_19 sh_0 rfl rfl rfl ?_
  refine ax_getI (pc' := 9) dX11_fair_6 fl_X11_209 sh_3 rfl rfl rfl ?_
  refine ay_V2 (pc' := 12) (ce' := 1) (sl' := 6) (mc2 := 1) (ms2 := 6) (I2 := i_X11_needNumber) dX11_fair_9 ml_X11_270 sh_0 (by decide) rfl rfl rfl rfl rfl rfl rfl rfl rfl (ac_M.imp (o_X11_needNumber _ p1 (s 3 12) H) ?_)
  rintro _ _ (⟨s9, rfl, rfl, H⟩ | ⟨E, s0, rfl, rfl, H⟩)
  rotate_left
  · exact Or.inr ⟨E, s0, rfl, rfl, H⟩
  refine ax_aload_n (pc' := 13) dX11_fair_12 rfl rfl ?_
  refine ax_iload_n (pc' := 14) dX11_fair_13 rfl rfl ?_
  refine ax_iconst (pc' := 15) (v := (0 : Int32)) dX11_fair_14 (by decide) rfl ?_
  refine ax_iconst (pc' := 16) (v := (2 : Int32)) dX11_fair_15 (by decide) rfl ?_
  refine ay_V3 (pc' := 19) (ce' := 2) (sl' := 12) (mc2 := 1) (ms2 := 6) (I2 := i_X11_needWithin) dX11_fair_16 ml_X11_120 sh_0 (by decide) rfl rfl rfl rfl rfl rfl rfl rfl rfl (ac_M.imp (o_X11_needWithin _ p2 (0 : Int32) (2 : Int32) H) ?_)
  rintro _ _ (⟨s16, rfl, rfl, H⟩ | ⟨E, s0, rfl, rfl, H⟩)
  rotate_left
  · exact Or.inr ⟨E, s0, rfl, rfl, H⟩
  refine ax_aload_n (pc' := 20) dX11_fair_19 rfl rfl ?_
  refine ax_getR (pc' := 23) dX11_fair_20 fl_X11_19 sh_0 rfl rfl rfl ?_
  refine ax_iload_n (pc' := 24) dX11_fair_23 rfl rfl ?_
  refine ax_iload_n (pc' := 25) dX11_fair_24 rfl rfl ?_
  refine ay_V2 (pc' := 28) (ce' := 2) (sl' := 12) (mc2 := 0) (ms2 := 0) (I2 := i_X3_fairPart) dX11_fair_25 ml_X11_274 sh_3 (by decide) rfl rfl rfl rfl rfl rfl rfl rfl rfl (ac_M.imp (o_X3_fairPart _ p1 p2 H) ?_)
  rintro _ _ ⟨r25, s25, rfl, rfl, H⟩
  exact ax_iret dX11_fair_28 rfl rfl rfl (Or.inl ⟨_, _, rfl, rfl, H⟩)
theorem o_X11_cool {g : ac_G} {τ : Nat → Nat → Int64} (d : Nat) (p1 : Int32) (p2 : Int32) {Q : Int32 → ac_m → Prop} {X : String → ac_m → Prop} {s : ac_m} (H : w_X11_cool p1 p2 Q X s) : ac_M g i_X11_cool (d + 2) 2 12 [.ref 0, .int p1, .int p2] (false, 586, SH, s, τ) (liIX τ Q X) := by
  refine ac_ofX (by decide +kernel) rfl rfl rfl ?_
  refine ax_aload_n (pc' := 1) dX11_cool_0 rfl rfl ?_
  refine ax_iload_n (pc' := 2) dX11_cool_1 rfl rfl ?_
  refine ay_V1 (pc' := 5) (ce' := 1) (sl' := 6) (mc2 := 1) (ms2 := 6) (I2 := i_X11_needFolk) dX11_cool_2 ml_X11_234 sh_0 (by decide) rfl rfl rfl rfl rfl rfl rfl rfl rfl (ac_M.imp (o_X11_needFolk _ p1 H) ?_)
  rintro _ _ (⟨s2, rfl, rfl, H⟩ | ⟨E, s0, rfl, rfl, H⟩)
  rotate_left
  · exact Or.inr ⟨E, s0, rfl, rfl, H⟩
  refine ax_aload_n (pc' := 6) dX11_cool_5 rfl rfl ?_
  refine ax_iload_n (pc' := 7) dX11_cool_6 rfl rfl ?_
  refine ay_V1 (pc' := 10) (ce' := 2) (sl' := 12) (mc2 := 1) (ms2 := 6) (I2 := i_X11_needFolk) dX11_cool_7 ml_X11_234 sh_0 (by decide) rfl rfl rfl rfl rfl rfl rfl rfl rfl (ac_M.imp (o_X11_needFolk _ p2 H) ?_)
  rintro _ _ (⟨s7, rfl, rfl, H⟩ | ⟨E, s0, rfl, rfl, H⟩)
  rotate_left
  · exact Or.inr ⟨E, s0, rfl, rfl, H⟩
  refine ax_aload_n (pc' := 11) dX11_cool_10 rfl rfl ?_
  refine ax_getR (pc' := 14) dX11_cool_11 fl_X11_58 sh_0 rfl rfl rfl ?_
  refine ax_iload_n (pc' := 15) dX11_cool_14 rfl rfl ?_
  refine ax_iload_n (pc' := 16) dX11_cool_15 rfl rfl ?_
  refine ay_V2 (pc' := 19) (ce' := 2) (sl' := 12) (mc2 := 0) (ms2 := 0) (I2 := i_X5_coolness) dX11_cool_16 ml_X11_277 sh_42 (by decide) rfl rfl rfl rfl rfl rfl rfl rfl rfl (ac_M.imp (o_X5_coolness _ 42 p1 p2 is_now H) ?_)
  rintro _ _ ⟨r16, s16, rfl, rfl, H⟩
  exact ax_iret dX11_cool_19 rfl rfl rfl (Or.inl ⟨_, _, rfl, rfl, H⟩)
theorem o_X11_would {g : ac_G} {τ : Nat → Nat → Int64} (d : Nat) (p1 : Int32) (p2 : Int32) (p3 : Int32) (p4 : Int32) (p5 : Int32) (p6 : Int32) (p7 : Int32) (p8 : Int32) {Q : Int32 → ac_m → Prop} {X : String → ac_m → Prop} {s : ac_m} (H : w_X11_would p1 p2 p3 p4 p5 p6 p7 p8 Q X s) : ac_M g i_X11_would (d + 2) 8 48 [.ref 0, .int p1, .int p2, .int p3, .int p4, .int p5, .int p6, .int p7, .int p8] (false, 586, SH, s, τ) (liIX τ Q X) := by
  refine ac_ofX (by decide +kernel) rfl rfl rfl ?_
  refine ax_aload_n (pc' := 1) dX11_would_0 rfl rfl ?_
  refine ax_iload_n (pc' := 2) dX11_would_1 rfl rfl ?_
  refine ax_iconst (pc' := 3) (v := (1 : Int32)) dX11_would_2 (by decide) rfl ?_
  refine ax_bipush (pc' := 5) (v := (30 : Int32)) dX11_would_3 (by decide) rfl ?_
  refine ay_V3 (pc' := 8) (ce' := 1) (sl' := 6) (mc2 := 1) (ms2 := 6) (I2 := i_X11_needWithin) dX11_would_5 ml_X11_120 sh_0 (by decide) rfl rfl rfl rfl rfl rfl rfl rfl rfl (ac_M.imp (o_X11_needWithin _ p1 (1 : Int32) (30 : Int32) H) ?_)
  rintro _ _ (⟨s5, rfl, rfl, H⟩ | ⟨E, s0, rfl, rfl, H⟩)
  rotate_left
  · exact Or.inr ⟨E, s0, rfl, rfl, H⟩
  refine ax_aload_n (pc' := 9) dX11_would_8 rfl rfl ?_
  refine ax_iload_n (pc' := 10) dX11_would_9 rfl rfl ?_
  refine ax_iconst (pc' := 11) (v := (0 : Int32)) dX11_would_10 (by decide) rfl ?_
  refine ax_iconst (pc' := 12) (v := (5 : Int32)) dX11_would_11 (by decide) rfl ?_
  refine ay_V3 (pc' := 15) (ce' := 2) (sl' := 12) (mc2 := 1) (ms2 := 6) (I2 := i_X11_needWithin) dX11_would_12 ml_X11_120 sh_0 (by decide) rfl rfl rfl rfl rfl rfl rfl rfl rfl (ac_M.imp (o_X11_needWithin _ p2 (0 : Int32) (5 : Int32) H) ?_)
  rintro _ _ (⟨s12, rfl, rfl, H⟩ | ⟨E, s0, rfl, rfl, H⟩)
  rotate_left
  · exact Or.inr ⟨E, s0, rfl, rfl, H⟩
  refine ax_aload_n (pc' := 16) dX11_would_15 rfl rfl ?_
  refine ax_iload_n (pc' := 17) dX11_would_16 rfl rfl ?_
  refine ax_iconst (pc' := 18) (v := (0 : Int32)) dX11_would_17 (by decide) rfl ?_
  refine ax_sipush (pc' := 21) (v := (999 : Int32)) dX11_would_18 (by decide) rfl ?_
  refine ay_V3 (pc' := 24) (ce' := 3) (sl' := 18) (mc2 := 1) (ms2 := 6) (I2 := i_X11_needWithin) dX11_would_21 ml_X11_120 sh_0 (by decide) rfl rfl rfl rfl rfl rfl rfl rfl rfl (ac_M.imp (o_X11_needWithin _ p3 (0 : Int32) (999 : Int32) H) ?_)
  rintro _ _ (⟨s21, rfl, rfl, H⟩ | ⟨E, s0, rfl, rfl, H⟩)
  rotate_left
  · exact Or.inr ⟨E, s0, rfl, rfl, H⟩
  refine ax_aload_n (pc' := 25) dX11_would_24 rfl rfl ?_
  refine ax_iload (pc' := 27) dX11_would_25 rfl rfl ?_
  refine ax_iconst (pc' := 28) (v := (0 : Int32)) dX11_would_27 (by decide) rfl ?_
  refine ax_bipush (pc' := 30) (v := (99 : Int32)) dX11_would_28 (by decide) rfl ?_
  refine ay_V3 (pc' := 33) (ce' := 4) (sl' := 24) (mc2 := 1) (ms2 := 6) (I2 := i_X11_needWithin) dX11_would_30 ml_X11_120 sh_0 (by decide) rfl rfl rfl rfl rfl rfl rfl rfl rfl (ac_M.imp (o_X11_needWithin _ p4 (0 : Int32) (99 : Int32) H) ?_)
  rintro _ _ (⟨s30, rfl, rfl, H⟩ | ⟨E, s0, rfl, rfl, H⟩)
  rotate_left
  · exact Or.inr ⟨E, s0, rfl, rfl, H⟩
  refine ax_aload_n (pc' := 34) dX11_would_33 rfl rfl ?_
  refine ax_iload (pc' := 36) dX11_would_34 rfl rfl ?_
  refine ax_iconst (pc' := 37) (v := (0 : Int32)) dX11_would_36 (by decide) rfl ?_
  refine ax_bipush (pc' := 39) (v := (12 : Int32)) dX11_would_37 (by decide) rfl ?_
  refine ay_V3 (pc' := 42) (ce' := 5) (sl' := 30) (mc2 := 1) (ms2 := 6) (I2 := i_X11_needWithin) dX11_would_39 ml_X11_120 sh_0 (by decide) rfl rfl rfl rfl rfl rfl rfl rfl rfl (ac_M.imp (o_X11_needWithin _ p5 (0 : Int32) (12 : Int32) H) ?_)
  rintro _ _ (⟨s39, rfl, rfl, H⟩ | ⟨E, s0, rfl, rfl, H⟩)
  rotate_left
  · exact Or.inr ⟨E, s0, rfl, rfl, H⟩
  refine ax_aload_n (pc' := 43) dX11_would_42 rfl rfl ?_
  refine ax_iload (pc' := 45) dX11_would_43 rfl rfl ?_
  refine ax_iconst (pc' := 46) (v := (0 : Int32)) dX11_would_45 (by decide) rfl ?_
  refine ax_bipush (pc' := 48) (v := (9 : Int32)) dX11_would_46 (by decide) rfl ?_
  refine ay_V3 (pc' := 51) (ce' := 6) (sl' := 36) (mc2 := 1) (ms2 := 6) (I2 := i_X11_needWithin) dX11_would_48 ml_X11_120 sh_0 (by decide) rfl rfl rfl rfl rfl rfl rfl rfl rfl (ac_M.imp (o_X11_needWithin _ p6 (0 : Int32) (9 : Int32) H) ?_)
  rintro _ _ (⟨s48, rfl, rfl, H⟩ | ⟨E, s0, rfl, rfl, H⟩)
  rotate_left
  · exact Or.inr ⟨E, s0, rfl, rfl, H⟩
  refine ax_aload_n (pc' := 52) dX11_would_51 rfl rfl ?_
  refine ax_iload (pc' := 54) dX11_would_52 rfl rfl ?_
  refine ax_iconst (pc' := 55) (v := (0 : Int32)) dX11_would_54 (by decide) rfl ?_
  refine ax_sipush (pc' := 58) (v := (400 : Int32)) dX11_would_55 (by decide) rfl ?_
  refine ay_V3 (pc' := 61) (ce' := 7) (sl' := 42) (mc2 := 1) (ms2 := 6) (I2 := i_X11_needWithin) dX11_would_58 ml_X11_120 sh_0 (by decide) rfl rfl rfl rfl rfl rfl rfl rfl rfl (ac_M.imp (o_X11_needWithin _ p7 (0 : Int32) (400 : Int32) H) ?_)
  rintro _ _ (⟨s58, rfl, rfl, H⟩ | ⟨E, s0, rfl, rfl, H⟩)
  rotate_left
  · exact Or.inr ⟨E, s0, rfl, rfl, H⟩
  refine ax_aload_n (pc' := 62) dX11_would_61 rfl rfl ?_
  refine ax_iload (pc' := 64) dX11_would_62 rfl rfl ?_
  refine ax_iconst (pc' := 65) (v := (0 : Int32)) dX11_would_64 (by decide) rfl ?_
  refine ax_bipush (pc' := 67) (v := (12 : Int32)) dX11_would_65 (by decide) rfl ?_
  refine ay_V3 (pc' := 70) (ce' := 8) (sl' := 48) (mc2 := 1) (ms2 := 6) (I2 := i_X11_needWithin) dX11_would_67 ml_X11_120 sh_0 (by decide) rfl rfl rfl rfl rfl rfl rfl rfl rfl (ac_M.imp (o_X11_needWithin _ p8 (0 : Int32) (12 : Int32) H) ?_)
  rintro _ _ (⟨s67, rfl, rfl, H⟩ | ⟨E, s0, rfl, rfl, H⟩)
  rotate_left
  · exact Or.inr ⟨E, s0, rfl, rfl, H⟩
  refine ax_aload_n (pc' := 71) dX11_would_70 rfl rfl ?_
  refine ax_getR (pc' := 74) dX11_would_71 fl_X11_29 sh_0 rfl rfl rfl ?_
  refine ax_iload_n (pc' := 75) dX11_would_74 rfl rfl ?_
  refine ax_iload_n (pc' := 76) dX11_would_75 rfl rfl ?_
  refine ax_iload_n (pc' := 77) dX11_would_76 rfl rfl ?_
  refine ax_iload (pc' := 79) dX11_would_77 rfl rfl ?_
  refine ay_V4 (pc' := 82) (ce' := 8) (sl' := 48) (mc2 := 0) (ms2 := 0) (I2 := i_X4_tellBeast) dX11_would_79 ml_X11_280 sh_25 (by decide) rfl rfl rfl rfl rfl rfl rfl rfl rfl (ac_M.imp (o_X4_tellBeast _ p1 p2 p3 p8 H) ?_)
  rintro _ _ ⟨s79, rfl, rfl, H⟩
  refine ax_aload_n (pc' := 83) dX11_would_82 rfl rfl ?_
  refine ax_getR (pc' := 86) dX11_would_83 fl_X11_29 sh_0 rfl rfl rfl ?_
  refine ax_iload (pc' := 88) dX11_would_86 rfl rfl ?_
  refine ax_iload (pc' := 90) dX11_would_88 rfl rfl ?_
  refine ax_iload (pc' := 92) dX11_would_90 rfl rfl ?_
  refine ax_iload (pc' := 94) dX11_would_92 rfl rfl ?_
  refine ay_V4 (pc' := 97) (ce' := 8) (sl' := 48) (mc2 := 0) (ms2 := 0) (I2 := i_X4_tellPlace) dX11_would_94 ml_X11_284 sh_25 (by decide) rfl rfl rfl rfl rfl rfl rfl rfl rfl (ac_M.imp (o_X4_tellPlace _ p4 p5 p6 p7 H) ?_)
  rintro _ _ ⟨s94, rfl, rfl, H⟩
  refine ax_aload_n (pc' := 98) dX11_would_97 rfl rfl ?_
  refine ax_getR (pc' := 101) dX11_would_98 fl_X11_29 sh_0 rfl rfl rfl ?_
  refine ay_V0 (pc' := 104) (ce' := 8) (sl' := 48) (mc2 := 0) (ms2 := 0) (I2 := i_X4_eaten) dX11_would_101 ml_X11_287 sh_25 (by decide) rfl rfl rfl rfl rfl rfl rfl rfl rfl (ac_M.imp (o_X4_eaten _  H) ?_)
  rintro _ _ ⟨r101, s101, rfl, rfl, H⟩
  exact ax_iret dX11_would_104 rfl rfl rfl (Or.inl ⟨_, _, rfl, rfl, H⟩)
theorem ac_look_X11_ahead_47 (x : Int32) (h0 : ¬ x = (0 : Int32)) (h1 : ¬ x = (1 : Int32)) : Op.lookupswitch.offset (#[(0, 25), (1, 33)] : Array (Int × Int)).toList 41 x.toInt = (41) := by
  have q0 : x.toInt ≠ 0 := ac_ne h0
  have q1 : x.toInt ≠ 1 := ac_ne h1
  simp [Op.lookupswitch.offset, q0, q0.symm, q1, q1.symm]
theorem ol_X11_ahead_28 {g : ac_G} {τ : Nat → Nat → Int64} (d : Nat) (p1 : Int32) (p2 : Int32) {Q : Int32 → ac_m → Prop} {X : String → ac_m → Prop}  (f1 : Int32) (f2 : Int32)  {x3 : Int32} {s : ac_m} (H : l_X11_ahead_28 p1 p2 Q X  f1 f2  x3 s) : ac_X g i_X11_ahead (d + 5) 2 12 (liIX τ Q X) 2 12 28 [some (.ref 0), some (.int f1), some (.int f2), some (.int x3)] [] (false, 586, SH, s, τ) := by
  refine H (fun x3 s => ac_X g i_X11_ahead (d + 5) 2 12 (liIX τ Q X) 2 12 28 [some (.ref 0), some (.int f1), some (.int f2), some (.int x3)] [] (false, 586, SH, s, τ)) ?_
  intro x3 s H
  refine ax_iload_n (pc' := 29) dX11_ahead_28 rfl rfl ?_
  refine ax_iload_n (pc' := 30) dX11_ahead_29 rfl rfl ?_
  refine ax_icmp_ge (pc' := 33) (tgt := 46) dX11_ahead_30 (by decide) rfl (fun hc30 => ?_) (fun hc30 => ?_)
  · have H := H.1 hc30
    refine ax_iload_n (pc' := 47) dX11_ahead_46 rfl rfl ?_
    by_cases hk47_0 : f2 = (0 : Int32)
    · have H := H.1 hk47_0
      refine ax_lookup (off := (25)) (tgt := 72) dX11_ahead_47 (by decide) (by rw [hk47_0]; decide) (by decide) ?_
      refine ax_aload_n (pc' := 73) dX11_ahead_72 rfl rfl ?_
      refine ax_getR (pc' := 76) dX11_ahead_73 fl_X11_62 sh_0 rfl rfl rfl ?_
      refine ay_V0 (pc' := 79) (ce' := 2) (sl' := 12) (mc2 := 0) (ms2 := 0) (I2 := i_X5_allGrass) dX11_ahead_76 ml_X11_218 sh_50 (by decide) rfl rfl rfl rfl rfl rfl rfl rfl rfl (ac_M.imp (o_X5_allGrass _ 50 is_trial H) ?_)
      rintro _ _ ⟨r76, s76, rfl, rfl, H⟩
      exact ax_iret dX11_ahead_79 rfl rfl rfl (Or.inl ⟨_, _, rfl, rfl, H⟩)
    have H := H.2
    by_cases hk47_1 : f2 = (1 : Int32)
    · have H := H.1 hk47_1
      refine ax_lookup (off := (33)) (tgt := 80) dX11_ahead_47 (by decide) (by rw [hk47_1]; decide) (by decide) ?_
      refine ax_aload_n (pc' := 81) dX11_ahead_80 rfl rfl ?_
      refine ax_getR (pc' := 84) dX11_ahead_81 fl_X11_62 sh_0 rfl rfl rfl ?_
      refine ay_V0 (pc' := 87) (ce' := 2) (sl' := 12) (mc2 := 0) (ms2 := 0) (I2 := i_X5_thereBits) dX11_ahead_84 ml_X11_215 sh_50 (by decide) rfl rfl rfl rfl rfl rfl rfl rfl rfl (ac_M.imp (o_X5_thereBits _ 50 is_trial H) ?_)
      rintro _ _ ⟨r84, s84, rfl, rfl, H⟩
      exact ax_iret dX11_ahead_87 rfl rfl rfl (Or.inl ⟨_, _, rfl, rfl, H⟩)
    have H := H.2
    have H := H ⟨hk47_0, hk47_1⟩
    refine ax_lookup (off := (41)) (tgt := 88) dX11_ahead_47 (by decide) (ac_look_X11_ahead_47 _ hk47_0 hk47_1) (by decide) ?_
    refine ax_aload_n (pc' := 89) dX11_ahead_88 rfl rfl ?_
    refine ax_getR (pc' := 92) dX11_ahead_89 fl_X11_62 sh_0 rfl rfl rfl ?_
    refine ax_aload_n (pc' := 93) dX11_ahead_92 rfl rfl ?_
    refine ax_getR (pc' := 96) dX11_ahead_93 fl_X11_62 sh_0 rfl rfl rfl ?_
    refine ay_V0 (pc' := 99) (ce' := 2) (sl' := 12) (mc2 := 0) (ms2 := 0) (I2 := i_X5_thereBits) dX11_ahead_96 ml_X11_215 sh_50 (by decide) rfl rfl rfl rfl rfl rfl rfl rfl rfl (ac_M.imp (o_X5_thereBits _ 50 is_trial H) ?_)
    rintro _ _ ⟨r96, s96, rfl, rfl, H⟩
    refine ay_V1 (pc' := 102) (ce' := 2) (sl' := 12) (mc2 := 0) (ms2 := 0) (I2 := i_X5_weightOf) dX11_ahead_99 ml_X11_221 sh_50 (by decide) rfl rfl rfl rfl rfl rfl rfl rfl rfl (ac_M.imp (o_X5_weightOf _ 50 r96 is_trial H) ?_)
    rintro _ _ ⟨r99, s99, rfl, rfl, H⟩
    exact ax_iret dX11_ahead_102 rfl rfl rfl (Or.inl ⟨_, _, rfl, rfl, H⟩)
  · have H := H.2 hc30
    refine ax_aload_n (pc' := 34) dX11_ahead_33 rfl rfl ?_
    refine ax_getR (pc' := 37) dX11_ahead_34 fl_X11_62 sh_0 rfl rfl rfl ?_
    refine ay_V0 (pc' := 40) (ce' := 2) (sl' := 12) (mc2 := 0) (ms2 := 0) (I2 := i_X5_passDay) dX11_ahead_37 ml_X11_293 sh_50 (by decide) rfl rfl rfl rfl rfl rfl rfl rfl rfl (ac_M.imp (o_X5_passDay _ 50 is_trial H) ?_)
    rintro _ _ ⟨s37, rfl, rfl, H⟩
    refine ax_iinc (pc' := 43) (v := (x3 + (1 : Int32))) dX11_ahead_40 rfl rfl rfl rfl rfl ?_
    refine ax_goto (tgt := 28) dX11_ahead_43 (by decide) ?_
    exact H
theorem o_X11_ahead {g : ac_G} {τ : Nat → Nat → Int64} (d : Nat) (p1 : Int32) (p2 : Int32) {Q : Int32 → ac_m → Prop} {X : String → ac_m → Prop} {s : ac_m} (H : w_X11_ahead p1 p2 Q X s) : ac_M g i_X11_ahead (d + 5) 2 12 [.ref 0, .int p1, .int p2] (false, 586, SH, s, τ) (liIX τ Q X) := by
  refine ac_ofX (by decide +kernel) rfl rfl rfl ?_
  refine ax_aload_n (pc' := 1) dX11_ahead_0 rfl rfl ?_
  refine ax_iload_n (pc' := 2) dX11_ahead_1 rfl rfl ?_
  refine ax_iconst (pc' := 3) (v := (0 : Int32)) dX11_ahead_2 (by decide) rfl ?_
  refine ax_bipush (pc' := 5) (v := (99 : Int32)) dX11_ahead_3 (by decide) rfl ?_
  refine ay_V3 (pc' := 8) (ce' := 1) (sl' := 6) (mc2 := 1) (ms2 := 6) (I2 := i_X11_needWithin) dX11_ahead_5 ml_X11_120 sh_0 (by decide) rfl rfl rfl rfl rfl rfl rfl rfl rfl (ac_M.imp (o_X11_needWithin _ p1 (0 : Int32) (99 : Int32) H) ?_)
  rintro _ _ (⟨s5, rfl, rfl, H⟩ | ⟨E, s0, rfl, rfl, H⟩)
  rotate_left
  · exact Or.inr ⟨E, s0, rfl, rfl, H⟩
  refine ax_aload_n (pc' := 9) dX11_ahead_8 rfl rfl ?_
  refine ax_iload_n (pc' := 10) dX11_ahead_9 rfl rfl ?_
  refine ax_iconst (pc' := 11) (v := (0 : Int32)) dX11_ahead_10 (by decide) rfl ?_
  refine ax_iconst (pc' := 12) (v := (2 : Int32)) dX11_ahead_11 (by decide) rfl ?_
  refine ay_V3 (pc' := 15) (ce' := 2) (sl' := 12) (mc2 := 1) (ms2 := 6) (I2 := i_X11_needWithin) dX11_ahead_12 ml_X11_120 sh_0 (by decide) rfl rfl rfl rfl rfl rfl rfl rfl rfl (ac_M.imp (o_X11_needWithin _ p2 (0 : Int32) (2 : Int32) H) ?_)
  rintro _ _ (⟨s12, rfl, rfl, H⟩ | ⟨E, s0, rfl, rfl, H⟩)
  rotate_left
  · exact Or.inr ⟨E, s0, rfl, rfl, H⟩
  refine ax_aload_n (pc' := 16) dX11_ahead_15 rfl rfl ?_
  refine ax_getR (pc' := 19) dX11_ahead_16 fl_X11_62 sh_0 rfl rfl rfl ?_
  refine ax_aload_n (pc' := 20) dX11_ahead_19 rfl rfl ?_
  refine ax_getR (pc' := 23) dX11_ahead_20 fl_X11_58 sh_0 rfl rfl rfl ?_
  refine ay_V1 (pc' := 26) (ce' := 2) (sl' := 12) (mc2 := 0) (ms2 := 0) (I2 := i_X5_copy) dX11_ahead_23 ml_X11_290 sh_50 (by decide) rfl rfl rfl rfl rfl rfl rfl rfl rfl (ac_M.imp (o_X5_copy _  H) ?_)
  rintro _ _ ⟨s23, rfl, rfl, H⟩
  refine ax_iconst (pc' := 27) (v := (0 : Int32)) dX11_ahead_26 (by decide) rfl ?_
  refine ax_istore_n (pc' := 28) dX11_ahead_27 rfl rfl rfl ?_
  refine ol_X11_ahead_28 d p1 p2  _ _    H
theorem ol_X11_bare_26 {g : ac_G} {τ : Nat → Nat → Int64} (d : Nat) (p1 : Int32) {Q : Int32 → ac_m → Prop} {X : String → ac_m → Prop}  (f1 : Int32)  {x2 : Int32} {s : ac_m} (H : l_X11_bare_26 p1 Q X  f1  x2 s) : ac_X g i_X11_bare (d + 5) 1 6 (liIX τ Q X) 1 6 26 [some (.ref 0), some (.int f1), some (.int x2)] [] (false, 586, SH, s, τ) := by
  refine H (fun x2 s => ac_X g i_X11_bare (d + 5) 1 6 (liIX τ Q X) 1 6 26 [some (.ref 0), some (.int f1), some (.int x2)] [] (false, 586, SH, s, τ)) ?_
  intro x2 s H
  refine ax_iload_n (pc' := 27) dX11_bare_26 rfl rfl ?_
  refine ax_bipush (pc' := 29) (v := (99 : Int32)) dX11_bare_27 (by decide) rfl ?_
  refine ax_icmp_gt (pc' := 32) (tgt := 58) dX11_bare_29 (by decide) rfl (fun hc29 => ?_) (fun hc29 => ?_)
  · have H := H.1 hc29
    refine ax_iconst (pc' := 59) (v := (-1 : Int32)) dX11_bare_58 (by decide) rfl ?_
    exact ax_iret dX11_bare_59 rfl rfl rfl (Or.inl ⟨_, _, rfl, rfl, H⟩)
  · have H := H.2 hc29
    refine ax_aload_n (pc' := 33) dX11_bare_32 rfl rfl ?_
    refine ax_getR (pc' := 36) dX11_bare_33 fl_X11_62 sh_0 rfl rfl rfl ?_
    refine ax_iload_n (pc' := 37) dX11_bare_36 rfl rfl ?_
    refine ay_V1 (pc' := 40) (ce' := 1) (sl' := 6) (mc2 := 0) (ms2 := 0) (I2 := i_X5_grassOf) dX11_bare_37 ml_X11_237 sh_50 (by decide) rfl rfl rfl rfl rfl rfl rfl rfl rfl (ac_M.imp (o_X5_grassOf _ 50 f1 is_trial H) ?_)
    rintro _ _ ⟨r37, s37, rfl, rfl, H⟩
    refine ax_if_ne (pc' := 43) (tgt := 45) dX11_bare_40 (by decide) rfl (fun hc40 => ?_) (fun hc40 => ?_)
    · have H := H.1 hc40
      refine ax_aload_n (pc' := 46) dX11_bare_45 rfl rfl ?_
      refine ax_getR (pc' := 49) dX11_bare_46 fl_X11_62 sh_0 rfl rfl rfl ?_
      refine ay_V0 (pc' := 52) (ce' := 1) (sl' := 6) (mc2 := 0) (ms2 := 0) (I2 := i_X5_passDay) dX11_bare_49 ml_X11_293 sh_50 (by decide) rfl rfl rfl rfl rfl rfl rfl rfl rfl (ac_M.imp (o_X5_passDay _ 50 is_trial H) ?_)
      rintro _ _ ⟨s49, rfl, rfl, H⟩
      refine ax_iinc (pc' := 55) (v := (x2 + (1 : Int32))) dX11_bare_52 rfl rfl rfl rfl rfl ?_
      refine ax_goto (tgt := 26) dX11_bare_55 (by decide) ?_
      exact H
    · have H := H.2 hc40
      refine ax_iload_n (pc' := 44) dX11_bare_43 rfl rfl ?_
      exact ax_iret dX11_bare_44 rfl rfl rfl (Or.inl ⟨_, _, rfl, rfl, H⟩)
theorem o_X11_bare {g : ac_G} {τ : Nat → Nat → Int64} (d : Nat) (p1 : Int32) {Q : Int32 → ac_m → Prop} {X : String → ac_m → Prop} {s : ac_m} (H : w_X11_bare p1 Q X s) : ac_M g i_X11_bare (d + 5) 1 6 [.ref 0, .int p1] (false, 586, SH, s, τ) (liIX τ Q X) := by
  refine ac_ofX (by decide +kernel) rfl rfl rfl ?_
  refine ax_aload_n (pc' := 1) dX11_bare_0 rfl rfl ?_
  refine ax_iload_n (pc' := 2) dX11_bare_1 rfl rfl ?_
  refine ay_V1 (pc' := 5) (ce' := 1) (sl' := 6) (mc2 := 1) (ms2 := 6) (I2 := i_X11_needFolk) dX11_bare_2 ml_X11_234 sh_0 (by decide) rfl rfl rfl rfl rfl rfl rfl rfl rfl (ac_M.imp (o_X11_needFolk _ p1 H) ?_)
  rintro _ _ (⟨s2, rfl, rfl, H⟩ | ⟨E, s0, rfl, rfl, H⟩)
  rotate_left
  · exact Or.inr ⟨E, s0, rfl, rfl, H⟩
  refine ax_aload_n (pc' := 6) dX11_bare_5 rfl rfl ?_
  refine ax_getR (pc' := 9) dX11_bare_6 fl_X11_62 sh_0 rfl rfl rfl ?_
  refine ax_aload_n (pc' := 10) dX11_bare_9 rfl rfl ?_
  refine ax_getR (pc' := 13) dX11_bare_10 fl_X11_58 sh_0 rfl rfl rfl ?_
  refine ay_V1 (pc' := 16) (ce' := 1) (sl' := 6) (mc2 := 0) (ms2 := 0) (I2 := i_X5_copy) dX11_bare_13 ml_X11_290 sh_50 (by decide) rfl rfl rfl rfl rfl rfl rfl rfl rfl (ac_M.imp (o_X5_copy _  H) ?_)
  rintro _ _ ⟨s13, rfl, rfl, H⟩
  refine ax_aload_n (pc' := 17) dX11_bare_16 rfl rfl ?_
  refine ax_getR (pc' := 20) dX11_bare_17 fl_X11_62 sh_0 rfl rfl rfl ?_
  refine ax_iload_n (pc' := 21) dX11_bare_20 rfl rfl ?_
  refine ay_V1 (pc' := 24) (ce' := 1) (sl' := 6) (mc2 := 0) (ms2 := 0) (I2 := i_X5_keepOnly) dX11_bare_21 ml_X11_296 sh_50 (by decide) rfl rfl rfl rfl rfl rfl rfl rfl rfl (ac_M.imp (o_X5_keepOnly _ p1 H) ?_)
  rintro _ _ ⟨s21, rfl, rfl, H⟩
  refine ax_iconst (pc' := 25) (v := (0 : Int32)) dX11_bare_24 (by decide) rfl ?_
  refine ax_istore_n (pc' := 26) dX11_bare_25 rfl rfl rfl ?_
  refine ol_X11_bare_26 d p1  _    H
theorem o_X11_cancel {g : ac_G} {τ : Nat → Nat → Int64} (d : Nat)  {Q : Int32 → ac_m → Prop} {s : ac_m} (H : w_X11_cancel  Q s) : ac_M g i_X11_cancel (d + 3) 0 0 [.ref 0] (false, 586, SH, s, τ) (liI τ Q) := by
  refine ac_ofX (by decide +kernel) rfl rfl rfl ?_
  refine ax_aload_n (pc' := 1) dX11_cancel_0 rfl rfl ?_
  refine ax_getR (pc' := 4) dX11_cancel_1 fl_X11_77 sh_0 rfl rfl rfl ?_
  refine ay_V0 (pc' := 7) (ce' := 0) (sl' := 0) (mc2 := 0) (ms2 := 0) (I2 := i_X2_mostCancelling) dX11_cancel_4 ml_X11_299 sh_62 (by decide) rfl rfl rfl rfl rfl rfl rfl rfl rfl (ac_M.imp (o_X2_mostCancelling _  H) ?_)
  rintro _ _ ⟨r4, s4, rfl, rfl, H⟩
  exact ax_iret dX11_cancel_7 rfl rfl rfl ⟨_, _, rfl, rfl, H⟩
theorem o_X11_herd {g : ac_G} {τ : Nat → Nat → Int64} (d : Nat) (p1 : Int32) (p2 : Int32) {Q : Int32 → ac_m → Prop} {X : String → ac_m → Prop} {s : ac_m} (H : w_X11_herd p1 p2 Q X s) : ac_M g i_X11_herd (d + 5) 2 12 [.ref 0, .int p1, .int p2] (false, 586, SH, s, τ) (liIX τ Q X) := by
  refine ac_ofX (by decide +kernel) rfl rfl rfl ?_
  refine ax_aload_n (pc' := 1) dX11_herd_0 rfl rfl ?_
  refine ax_iload_n (pc' := 2) dX11_herd_1 rfl rfl ?_
  refine ay_V1 (pc' := 5) (ce' := 1) (sl' := 6) (mc2 := 1) (ms2 := 6) (I2 := i_X11_needFolk) dX11_herd_2 ml_X11_234 sh_0 (by decide) rfl rfl rfl rfl rfl rfl rfl rfl rfl (ac_M.imp (o_X11_needFolk _ p1 H) ?_)
  rintro _ _ (⟨s2, rfl, rfl, H⟩ | ⟨E, s0, rfl, rfl, H⟩)
  rotate_left
  · exact Or.inr ⟨E, s0, rfl, rfl, H⟩
  refine ax_aload_n (pc' := 6) dX11_herd_5 rfl rfl ?_
  refine ax_iload_n (pc' := 7) dX11_herd_6 rfl rfl ?_
  refine ax_iconst (pc' := 8) (v := (0 : Int32)) dX11_herd_7 (by decide) rfl ?_
  refine ax_iconst (pc' := 9) (v := (1 : Int32)) dX11_herd_8 (by decide) rfl ?_
  refine ay_V3 (pc' := 12) (ce' := 2) (sl' := 12) (mc2 := 1) (ms2 := 6) (I2 := i_X11_needWithin) dX11_herd_9 ml_X11_120 sh_0 (by decide) rfl rfl rfl rfl rfl rfl rfl rfl rfl (ac_M.imp (o_X11_needWithin _ p2 (0 : Int32) (1 : Int32) H) ?_)
  rintro _ _ (⟨s9, rfl, rfl, H⟩ | ⟨E, s0, rfl, rfl, H⟩)
  rotate_left
  · exact Or.inr ⟨E, s0, rfl, rfl, H⟩
  refine ax_aload_n (pc' := 13) dX11_herd_12 rfl rfl ?_
  refine ax_getR (pc' := 16) dX11_herd_13 fl_X11_77 sh_0 rfl rfl rfl ?_
  refine ax_aload_n (pc' := 17) dX11_herd_16 rfl rfl ?_
  refine ax_getR (pc' := 20) dX11_herd_17 fl_X11_58 sh_0 rfl rfl rfl ?_
  refine ax_iload_n (pc' := 21) dX11_herd_20 rfl rfl ?_
  refine ay_V1 (pc' := 24) (ce' := 2) (sl' := 12) (mc2 := 0) (ms2 := 0) (I2 := i_X5_grassOf) dX11_herd_21 ml_X11_237 sh_42 (by decide) rfl rfl rfl rfl rfl rfl rfl rfl rfl (ac_M.imp (o_X5_grassOf _ 42 p1 is_now H) ?_)
  rintro _ _ ⟨r21, s21, rfl, rfl, H⟩
  refine ay_V1 (pc' := 27) (ce' := 2) (sl' := 12) (mc2 := 0) (ms2 := 0) (I2 := i_X2_heaviestFed) dX11_herd_24 ml_X11_302 sh_62 (by decide) rfl rfl rfl rfl rfl rfl rfl rfl rfl (ac_M.imp (o_X2_heaviestFed _ r21 H) ?_)
  rintro _ _ ⟨r24, s24, rfl, rfl, H⟩
  refine ax_istore_n (pc' := 28) dX11_herd_27 rfl rfl rfl ?_
  refine ax_iload_n (pc' := 29) dX11_herd_28 rfl rfl ?_
  refine ax_if_ne (pc' := 32) (tgt := 43) dX11_herd_29 (by decide) rfl (fun hc29 => ?_) (fun hc29 => ?_)
  · have H := H.1 hc29
    refine ax_iload_n (pc' := 44) dX11_herd_43 rfl rfl ?_
    exact ax_iret dX11_herd_44 rfl rfl rfl (Or.inl ⟨_, _, rfl, rfl, H⟩)
  · have H := H.2 hc29
    refine ax_aload_n (pc' := 33) dX11_herd_32 rfl rfl ?_
    refine ax_getR (pc' := 36) dX11_herd_33 fl_X11_58 sh_0 rfl rfl rfl ?_
    refine ax_iload_n (pc' := 37) dX11_herd_36 rfl rfl ?_
    refine ay_V1 (pc' := 40) (ce' := 2) (sl' := 12) (mc2 := 0) (ms2 := 0) (I2 := i_X5_weightOf) dX11_herd_37 ml_X11_221 sh_42 (by decide) rfl rfl rfl rfl rfl rfl rfl rfl rfl (ac_M.imp (o_X5_weightOf _ 42 r24 is_now H) ?_)
    rintro _ _ ⟨r37, s37, rfl, rfl, H⟩
    refine ax_goto (tgt := 44) dX11_herd_40 (by decide) ?_
    exact ax_iret dX11_herd_44 rfl rfl rfl (Or.inl ⟨_, _, rfl, rfl, H⟩)
theorem o_X11_paid {g : ac_G} {τ : Nat → Nat → Int64} (d : Nat) (p1 : Int32) (p2 : Int32) {Q : Int32 → ac_m → Prop} {X : String → ac_m → Prop} {s : ac_m} (H : w_X11_paid p1 p2 Q X s) : ac_M g i_X11_paid (d + 3) 2 12 [.ref 0, .int p1, .int p2] (false, 586, SH, s, τ) (liIX τ Q X) := by
  refine ac_ofX (by decide +kernel) rfl rfl rfl ?_
  refine ax_aload_n (pc' := 1) dX11_paid_0 rfl rfl ?_
  refine ax_iload_n (pc' := 2) dX11_paid_1 rfl rfl ?_
  refine ay_V1 (pc' := 5) (ce' := 1) (sl' := 6) (mc2 := 1) (ms2 := 6) (I2 := i_X11_needBeast) dX11_paid_2 ml_X11_252 sh_0 (by decide) rfl rfl rfl rfl rfl rfl rfl rfl rfl (ac_M.imp (o_X11_needBeast _ p1 H) ?_)
  rintro _ _ (⟨s2, rfl, rfl, H⟩ | ⟨E, s0, rfl, rfl, H⟩)
  rotate_left
  · exact Or.inr ⟨E, s0, rfl, rfl, H⟩
  refine ax_aload_n (pc' := 6) dX11_paid_5 rfl rfl ?_
  refine ax_iload_n (pc' := 7) dX11_paid_6 rfl rfl ?_
  refine ax_iconst (pc' := 8) (v := (0 : Int32)) dX11_paid_7 (by decide) rfl ?_
  refine ax_iconst (pc' := 9) (v := (1 : Int32)) dX11_paid_8 (by decide) rfl ?_
  refine ay_V3 (pc' := 12) (ce' := 2) (sl' := 12) (mc2 := 1) (ms2 := 6) (I2 := i_X11_needWithin) dX11_paid_9 ml_X11_120 sh_0 (by decide) rfl rfl rfl rfl rfl rfl rfl rfl rfl (ac_M.imp (o_X11_needWithin _ p2 (0 : Int32) (1 : Int32) H) ?_)
  rintro _ _ (⟨s9, rfl, rfl, H⟩ | ⟨E, s0, rfl, rfl, H⟩)
  rotate_left
  · exact Or.inr ⟨E, s0, rfl, rfl, H⟩
  refine ax_aload_n (pc' := 13) dX11_paid_12 rfl rfl ?_
  refine ax_getR (pc' := 16) dX11_paid_13 fl_X11_77 sh_0 rfl rfl rfl ?_
  refine ax_iload_n (pc' := 17) dX11_paid_16 rfl rfl ?_
  refine ay_V1 (pc' := 20) (ce' := 2) (sl' := 12) (mc2 := 0) (ms2 := 0) (I2 := i_X2_findPayments) dX11_paid_17 ml_X11_305 sh_62 (by decide) rfl rfl rfl rfl rfl rfl rfl rfl rfl (ac_M.imp (o_X2_findPayments _ p1 H) ?_)
  rintro _ _ ⟨s17, rfl, rfl, H⟩
  refine ax_iload_n (pc' := 21) dX11_paid_20 rfl rfl ?_
  refine ax_if_ne (pc' := 24) (tgt := 34) dX11_paid_21 (by decide) rfl (fun hc21 => ?_) (fun hc21 => ?_)
  · have H := H.1 hc21
    refine ax_aload_n (pc' := 35) dX11_paid_34 rfl rfl ?_
    refine ax_getR (pc' := 38) dX11_paid_35 fl_X11_77 sh_0 rfl rfl rfl ?_
    refine ax_getI (pc' := 41) dX11_paid_38 fl_X11_311 sh_62 rfl rfl rfl ?_
    exact ax_iret dX11_paid_41 rfl rfl rfl (Or.inl ⟨_, _, rfl, rfl, H⟩)
  · have H := H.2 hc21
    refine ax_aload_n (pc' := 25) dX11_paid_24 rfl rfl ?_
    refine ax_getR (pc' := 28) dX11_paid_25 fl_X11_77 sh_0 rfl rfl rfl ?_
    refine ax_getI (pc' := 31) dX11_paid_28 fl_X11_308 sh_62 rfl rfl rfl ?_
    refine ax_goto (tgt := 41) dX11_paid_31 (by decide) ?_
    exact ax_iret dX11_paid_41 rfl rfl rfl (Or.inl ⟨_, _, rfl, rfl, H⟩)
theorem o_X11_unseen {g : ac_G} {τ : Nat → Nat → Int64} (d : Nat) (p1 : Int32) (p2 : Int32) {Q : Int32 → ac_m → Prop} {X : String → ac_m → Prop} {s : ac_m} (H : w_X11_unseen p1 p2 Q X s) : ac_M g i_X11_unseen (d + 7) 2 12 [.ref 0, .int p1, .int p2] (false, 586, SH, s, τ) (liIX τ Q X) := by
  refine ac_ofX (by decide +kernel) rfl rfl rfl ?_
  refine ax_aload_n (pc' := 1) dX11_unseen_0 rfl rfl ?_
  refine ax_iload_n (pc' := 2) dX11_unseen_1 rfl rfl ?_
  refine ay_V1 (pc' := 5) (ce' := 1) (sl' := 6) (mc2 := 1) (ms2 := 6) (I2 := i_X11_needFolk) dX11_unseen_2 ml_X11_234 sh_0 (by decide) rfl rfl rfl rfl rfl rfl rfl rfl rfl (ac_M.imp (o_X11_needFolk _ p1 H) ?_)
  rintro _ _ (⟨s2, rfl, rfl, H⟩ | ⟨E, s0, rfl, rfl, H⟩)
  rotate_left
  · exact Or.inr ⟨E, s0, rfl, rfl, H⟩
  refine ax_aload_n (pc' := 6) dX11_unseen_5 rfl rfl ?_
  refine ax_iload_n (pc' := 7) dX11_unseen_6 rfl rfl ?_
  refine ax_iconst (pc' := 8) (v := (0 : Int32)) dX11_unseen_7 (by decide) rfl ?_
  refine ax_iconst (pc' := 9) (v := (1 : Int32)) dX11_unseen_8 (by decide) rfl ?_
  refine ay_V3 (pc' := 12) (ce' := 2) (sl' := 12) (mc2 := 1) (ms2 := 6) (I2 := i_X11_needWithin) dX11_unseen_9 ml_X11_120 sh_0 (by decide) rfl rfl rfl rfl rfl rfl rfl rfl rfl (ac_M.imp (o_X11_needWithin _ p2 (0 : Int32) (1 : Int32) H) ?_)
  rintro _ _ (⟨s9, rfl, rfl, H⟩ | ⟨E, s0, rfl, rfl, H⟩)
  rotate_left
  · exact Or.inr ⟨E, s0, rfl, rfl, H⟩
  refine ax_aload_n (pc' := 13) dX11_unseen_12 rfl rfl ?_
  refine ax_getR (pc' := 16) dX11_unseen_13 fl_X11_86 sh_0 rfl rfl rfl ?_
  refine ax_iload_n (pc' := 17) dX11_unseen_16 rfl rfl ?_
  refine ay_V1 (pc' := 20) (ce' := 2) (sl' := 12) (mc2 := 0) (ms2 := 0) (I2 := i_X9_search) dX11_unseen_17 ml_X11_314 sh_65 (by decide) rfl rfl rfl rfl rfl rfl rfl rfl rfl (ac_M.imp (o_X9_search _ p1 H) ?_)
  rintro _ _ ⟨s17, rfl, rfl, H⟩
  refine ax_iload_n (pc' := 21) dX11_unseen_20 rfl rfl ?_
  refine ax_if_ne (pc' := 24) (tgt := 34) dX11_unseen_21 (by decide) rfl (fun hc21 => ?_) (fun hc21 => ?_)
  · have H := H.1 hc21
    refine ax_aload_n (pc' := 35) dX11_unseen_34 rfl rfl ?_
    refine ax_getR (pc' := 38) dX11_unseen_35 fl_X11_86 sh_0 rfl rfl rfl ?_
    refine ax_getI (pc' := 41) dX11_unseen_38 fl_X11_320 sh_65 rfl rfl rfl ?_
    exact ax_iret dX11_unseen_41 rfl rfl rfl (Or.inl ⟨_, _, rfl, rfl, H⟩)
  · have H := H.2 hc21
    refine ax_aload_n (pc' := 25) dX11_unseen_24 rfl rfl ?_
    refine ax_getR (pc' := 28) dX11_unseen_25 fl_X11_86 sh_0 rfl rfl rfl ?_
    refine ax_getI (pc' := 31) dX11_unseen_28 fl_X11_317 sh_65 rfl rfl rfl ?_
    refine ax_goto (tgt := 41) dX11_unseen_31 (by decide) ?_
    exact ax_iret dX11_unseen_41 rfl rfl rfl (Or.inl ⟨_, _, rfl, rfl, H⟩)
theorem o_X11_look {g : ac_G} {τ : Nat → Nat → Int64} (d : Nat) (p1 : Int32) (p2 : Int32) {Q : Int32 → ac_m → Prop} {X : String → ac_m → Prop} {s : ac_m} (H : w_X11_look p1 p2 Q X s) : ac_M g i_X11_look (d + 7) 2 12 [.ref 0, .int p1, .int p2] (false, 586, SH, s, τ) (liIX τ Q X) := by
  refine ac_ofX (by decide +kernel) rfl rfl rfl ?_
  refine ax_aload_n (pc' := 1) dX11_look_0 rfl rfl ?_
  refine ax_iload_n (pc' := 2) dX11_look_1 rfl rfl ?_
  refine ay_V1 (pc' := 5) (ce' := 1) (sl' := 6) (mc2 := 1) (ms2 := 6) (I2 := i_X11_needFolk) dX11_look_2 ml_X11_234 sh_0 (by decide) rfl rfl rfl rfl rfl rfl rfl rfl rfl (ac_M.imp (o_X11_needFolk _ p1 H) ?_)
  rintro _ _ (⟨s2, rfl, rfl, H⟩ | ⟨E, s0, rfl, rfl, H⟩)
  rotate_left
  · exact Or.inr ⟨E, s0, rfl, rfl, H⟩
  refine ax_aload_n (pc' := 6) dX11_look_5 rfl rfl ?_
  refine ax_iload_n (pc' := 7) dX11_look_6 rfl rfl ?_
  refine ax_iconst (pc' := 8) (v := (0 : Int32)) dX11_look_7 (by decide) rfl ?_
  refine ax_iconst (pc' := 9) (v := (1 : Int32)) dX11_look_8 (by decide) rfl ?_
  refine ay_V3 (pc' := 12) (ce' := 2) (sl' := 12) (mc2 := 1) (ms2 := 6) (I2 := i_X11_needWithin) dX11_look_9 ml_X11_120 sh_0 (by decide) rfl rfl rfl rfl rfl rfl rfl rfl rfl (ac_M.imp (o_X11_needWithin _ p2 (0 : Int32) (1 : Int32) H) ?_)
  rintro _ _ (⟨s9, rfl, rfl, H⟩ | ⟨E, s0, rfl, rfl, H⟩)
  rotate_left
  · exact Or.inr ⟨E, s0, rfl, rfl, H⟩
  refine ax_aload_n (pc' := 13) dX11_look_12 rfl rfl ?_
  refine ax_getR (pc' := 16) dX11_look_13 fl_X11_86 sh_0 rfl rfl rfl ?_
  refine ax_iload_n (pc' := 17) dX11_look_16 rfl rfl ?_
  refine ay_V1 (pc' := 20) (ce' := 2) (sl' := 12) (mc2 := 0) (ms2 := 0) (I2 := i_X9_chooseDay) dX11_look_17 ml_X11_323 sh_65 (by decide) rfl rfl rfl rfl rfl rfl rfl rfl rfl (ac_M.imp (o_X9_chooseDay _ p1 H) ?_)
  rintro _ _ ⟨s17, rfl, rfl, H⟩
  refine ax_iload_n (pc' := 21) dX11_look_20 rfl rfl ?_
  refine ax_if_ne (pc' := 24) (tgt := 34) dX11_look_21 (by decide) rfl (fun hc21 => ?_) (fun hc21 => ?_)
  · have H := H.1 hc21
    refine ax_aload_n (pc' := 35) dX11_look_34 rfl rfl ?_
    refine ax_getR (pc' := 38) dX11_look_35 fl_X11_86 sh_0 rfl rfl rfl ?_
    refine ax_getI (pc' := 41) dX11_look_38 fl_X11_329 sh_65 rfl rfl rfl ?_
    exact ax_iret dX11_look_41 rfl rfl rfl (Or.inl ⟨_, _, rfl, rfl, H⟩)
  · have H := H.2 hc21
    refine ax_aload_n (pc' := 25) dX11_look_24 rfl rfl ?_
    refine ax_getR (pc' := 28) dX11_look_25 fl_X11_86 sh_0 rfl rfl rfl ?_
    refine ax_getI (pc' := 31) dX11_look_28 fl_X11_326 sh_65 rfl rfl rfl ?_
    refine ax_goto (tgt := 41) dX11_look_31 (by decide) ?_
    exact ax_iret dX11_look_41 rfl rfl rfl (Or.inl ⟨_, _, rfl, rfl, H⟩)
theorem ol_X11_way_17 {g : ac_G} {τ : Nat → Nat → Int64} (d : Nat) (p1 : Int32) (p2 : Int32) {Q : Int32 → ac_m → Prop} {X : String → ac_m → Prop}  (f2 : Int32)  {x3 : Int32} {x4 : Int32} {s : ac_m} (H : l_X11_way_17 p1 p2 Q X  f2  x3 x4 s) : ac_X g i_X11_way (d + 2) 2 12 (liIX τ Q X) 2 12 17 [some (.ref 0), none, some (.int f2), some (.int x3), some (.int x4)] [] (false, 586, SH, s, τ) := by
  refine H (fun x3 x4 s => ac_X g i_X11_way (d + 2) 2 12 (liIX τ Q X) 2 12 17 [some (.ref 0), none, some (.int f2), some (.int x3), some (.int x4)] [] (false, 586, SH, s, τ)) ?_
  intro x3 x4 s H
  refine ax_iload (pc' := 19) dX11_way_17 rfl rfl ?_
  refine ax_bipush (pc' := 21) (v := (6 : Int32)) dX11_way_19 (by decide) rfl ?_
  refine ax_icmp_ge (pc' := 24) (tgt := 59) dX11_way_21 (by decide) rfl (fun hc21 => ?_) (fun hc21 => ?_)
  · have H := H.1 hc21
    refine ax_iconst (pc' := 60) (v := (-1 : Int32)) dX11_way_59 (by decide) rfl ?_
    exact ax_iret dX11_way_60 rfl rfl rfl (Or.inl ⟨_, _, rfl, rfl, H⟩)
  · have H := H.2 hc21
    refine ax_iload_n (pc' := 25) dX11_way_24 rfl rfl ?_
    refine ax_iconst (pc' := 26) (v := (1 : Int32)) dX11_way_25 (by decide) rfl ?_
    refine ax_iload_n (pc' := 27) dX11_way_26 rfl rfl ?_
    refine ax_ishl (pc' := 28) dX11_way_27 rfl ?_
    refine ax_iand (pc' := 29) dX11_way_28 rfl ?_
    refine ax_if_eq (pc' := 32) (tgt := 35) dX11_way_29 (by decide) rfl (fun hc29 => ?_) (fun hc29 => ?_)
    · have H := H.1 hc29
      refine ax_iload_n (pc' := 36) dX11_way_35 rfl rfl ?_
      refine ax_aload_n (pc' := 37) dX11_way_36 rfl rfl ?_
      refine ax_getR (pc' := 40) dX11_way_37 fl_X11_19 sh_0 rfl rfl rfl ?_
      refine ax_iload_n (pc' := 41) dX11_way_40 rfl rfl ?_
      refine ax_aload_n (pc' := 42) dX11_way_41 rfl rfl ?_
      refine ax_getR (pc' := 45) dX11_way_42 fl_X11_58 sh_0 rfl rfl rfl ?_
      refine ay_V0 (pc' := 48) (ce' := 2) (sl' := 12) (mc2 := 0) (ms2 := 0) (I2 := i_X5_thereBits) dX11_way_45 ml_X11_215 sh_42 (by decide) rfl rfl rfl rfl rfl rfl rfl rfl rfl (ac_M.imp (o_X5_thereBits _ 42 is_now H) ?_)
      rintro _ _ ⟨r45, s45, rfl, rfl, H⟩
      refine ay_V2 (pc' := 51) (ce' := 2) (sl' := 12) (mc2 := 0) (ms2 := 0) (I2 := i_X3_doersFor) dX11_way_48 ml_X11_332 sh_3 (by decide) rfl rfl rfl rfl rfl rfl rfl rfl rfl (ac_M.imp (o_X3_doersFor _ x3 r45 H) ?_)
      rintro _ _ ⟨r48, s48, rfl, rfl, H⟩
      refine ax_ior (pc' := 52) dX11_way_51 rfl ?_
      refine ax_istore_n (pc' := 53) dX11_way_52 rfl rfl rfl ?_
      refine ax_iinc (pc' := 56) (v := (x4 + (1 : Int32))) dX11_way_53 rfl rfl rfl rfl rfl ?_
      refine ax_goto (tgt := 17) dX11_way_56 (by decide) ?_
      exact H
    · have H := H.2 hc29
      refine ax_iload (pc' := 34) dX11_way_32 rfl rfl ?_
      exact ax_iret dX11_way_34 rfl rfl rfl (Or.inl ⟨_, _, rfl, rfl, H⟩)
theorem o_X11_way {g : ac_G} {τ : Nat → Nat → Int64} (d : Nat) (p1 : Int32) (p2 : Int32) {Q : Int32 → ac_m → Prop} {X : String → ac_m → Prop} {s : ac_m} (H : w_X11_way p1 p2 Q X s) : ac_M g i_X11_way (d + 2) 2 12 [.ref 0, .int p1, .int p2] (false, 586, SH, s, τ) (liIX τ Q X) := by
  refine ac_ofX (by decide +kernel) rfl rfl rfl ?_
  refine ax_aload_n (pc' := 1) dX11_way_0 rfl rfl ?_
  refine ax_iload_n (pc' := 2) dX11_way_1 rfl rfl ?_
  refine ay_V1 (pc' := 5) (ce' := 1) (sl' := 6) (mc2 := 1) (ms2 := 6) (I2 := i_X11_needFolk) dX11_way_2 ml_X11_234 sh_0 (by decide) rfl rfl rfl rfl rfl rfl rfl rfl rfl (ac_M.imp (o_X11_needFolk _ p1 H) ?_)
  rintro _ _ (⟨s2, rfl, rfl, H⟩ | ⟨E, s0, rfl, rfl, H⟩)
  rotate_left
  · exact Or.inr ⟨E, s0, rfl, rfl, H⟩
  refine ax_aload_n (pc' := 6) dX11_way_5 rfl rfl ?_
  refine ax_iload_n (pc' := 7) dX11_way_6 rfl rfl ?_
  refine ay_V1 (pc' := 10) (ce' := 2) (sl' := 12) (mc2 := 1) (ms2 := 6) (I2 := i_X11_needFolk) dX11_way_7 ml_X11_234 sh_0 (by decide) rfl rfl rfl rfl rfl rfl rfl rfl rfl (ac_M.imp (o_X11_needFolk _ p2 H) ?_)
  rintro _ _ (⟨s7, rfl, rfl, H⟩ | ⟨E, s0, rfl, rfl, H⟩)
  rotate_left
  · exact Or.inr ⟨E, s0, rfl, rfl, H⟩
  refine ax_iconst (pc' := 11) (v := (1 : Int32)) dX11_way_10 (by decide) rfl ?_
  refine ax_iload_n (pc' := 12) dX11_way_11 rfl rfl ?_
  refine ax_ishl (pc' := 13) dX11_way_12 rfl ?_
  refine ax_istore_n (pc' := 14) dX11_way_13 rfl rfl rfl ?_
  refine ax_iconst (pc' := 15) (v := (0 : Int32)) dX11_way_14 (by decide) rfl ?_
  refine ax_istore (pc' := 17) dX11_way_15 rfl rfl rfl ?_
  refine ax_drop 1 rfl ?_
  refine ol_X11_way_17 d p1 p2  _    H
theorem ol_X11_round_11 {g : ac_G} {τ : Nat → Nat → Int64} (d : Nat) (p1 : Int32) {Q : Int32 → ac_m → Prop} {X : String → ac_m → Prop}    {x2 : Int32} {x3 : Int32} {s : ac_m} (H : l_X11_round_11 p1 Q X    x2 x3 s) : ac_X g i_X11_round (d + 2) 1 6 (liIX τ Q X) 1 6 11 [some (.ref 0), none, some (.int x2), some (.int x3)] [] (false, 586, SH, s, τ) := by
  refine H (fun x2 x3 s => ac_X g i_X11_round (d + 2) 1 6 (liIX τ Q X) 1 6 11 [some (.ref 0), none, some (.int x2), some (.int x3)] [] (false, 586, SH, s, τ)) ?_
  intro x2 x3 s H
  refine ax_iload_n (pc' := 12) dX11_round_11 rfl rfl ?_
  refine ax_bipush (pc' := 14) (v := (6 : Int32)) dX11_round_12 (by decide) rfl ?_
  refine ax_icmp_ge (pc' := 17) (tgt := 41) dX11_round_14 (by decide) rfl (fun hc14 => ?_) (fun hc14 => ?_)
  · have H := H.1 hc14
    refine ax_iload_n (pc' := 42) dX11_round_41 rfl rfl ?_
    exact ax_iret dX11_round_42 rfl rfl rfl (Or.inl ⟨_, _, rfl, rfl, H⟩)
  · have H := H.2 hc14
    refine ax_iload_n (pc' := 18) dX11_round_17 rfl rfl ?_
    refine ax_aload_n (pc' := 19) dX11_round_18 rfl rfl ?_
    refine ax_getR (pc' := 22) dX11_round_19 fl_X11_19 sh_0 rfl rfl rfl ?_
    refine ax_iload_n (pc' := 23) dX11_round_22 rfl rfl ?_
    refine ax_aload_n (pc' := 24) dX11_round_23 rfl rfl ?_
    refine ax_getR (pc' := 27) dX11_round_24 fl_X11_58 sh_0 rfl rfl rfl ?_
    refine ay_V0 (pc' := 30) (ce' := 1) (sl' := 6) (mc2 := 0) (ms2 := 0) (I2 := i_X5_thereBits) dX11_round_27 ml_X11_215 sh_42 (by decide) rfl rfl rfl rfl rfl rfl rfl rfl rfl (ac_M.imp (o_X5_thereBits _ 42 is_now H) ?_)
    rintro _ _ ⟨r27, s27, rfl, rfl, H⟩
    refine ay_V2 (pc' := 33) (ce' := 1) (sl' := 6) (mc2 := 0) (ms2 := 0) (I2 := i_X3_doersFor) dX11_round_30 ml_X11_332 sh_3 (by decide) rfl rfl rfl rfl rfl rfl rfl rfl rfl (ac_M.imp (o_X3_doersFor _ x2 r27 H) ?_)
    rintro _ _ ⟨r30, s30, rfl, rfl, H⟩
    refine ax_ior (pc' := 34) dX11_round_33 rfl ?_
    refine ax_istore_n (pc' := 35) dX11_round_34 rfl rfl rfl ?_
    refine ax_iinc (pc' := 38) (v := (x3 + (1 : Int32))) dX11_round_35 rfl rfl rfl rfl rfl ?_
    refine ax_goto (tgt := 11) dX11_round_38 (by decide) ?_
    exact H
theorem o_X11_round {g : ac_G} {τ : Nat → Nat → Int64} (d : Nat) (p1 : Int32) {Q : Int32 → ac_m → Prop} {X : String → ac_m → Prop} {s : ac_m} (H : w_X11_round p1 Q X s) : ac_M g i_X11_round (d + 2) 1 6 [.ref 0, .int p1] (false, 586, SH, s, τ) (liIX τ Q X) := by
  refine ac_ofX (by decide +kernel) rfl rfl rfl ?_
  refine ax_aload_n (pc' := 1) dX11_round_0 rfl rfl ?_
  refine ax_iload_n (pc' := 2) dX11_round_1 rfl rfl ?_
  refine ay_V1 (pc' := 5) (ce' := 1) (sl' := 6) (mc2 := 1) (ms2 := 6) (I2 := i_X11_needFolk) dX11_round_2 ml_X11_234 sh_0 (by decide) rfl rfl rfl rfl rfl rfl rfl rfl rfl (ac_M.imp (o_X11_needFolk _ p1 H) ?_)
  rintro _ _ (⟨s2, rfl, rfl, H⟩ | ⟨E, s0, rfl, rfl, H⟩)
  rotate_left
  · exact Or.inr ⟨E, s0, rfl, rfl, H⟩
  refine ax_iconst (pc' := 6) (v := (1 : Int32)) dX11_round_5 (by decide) rfl ?_
  refine ax_iload_n (pc' := 7) dX11_round_6 rfl rfl ?_
  refine ax_ishl (pc' := 8) dX11_round_7 rfl ?_
  refine ax_istore_n (pc' := 9) dX11_round_8 rfl rfl rfl ?_
  refine ax_iconst (pc' := 10) (v := (1 : Int32)) dX11_round_9 (by decide) rfl ?_
  refine ax_istore_n (pc' := 11) dX11_round_10 rfl rfl rfl ?_
  refine ax_drop 1 rfl ?_
  refine ol_X11_round_11 d p1      H
theorem o_X11_price {g : ac_G} {τ : Nat → Nat → Int64} (d : Nat) (p1 : Int32) (p2 : Int32) {Q : Int32 → ac_m → Prop} {X : String → ac_m → Prop} {s : ac_m} (H : w_X11_price p1 p2 Q X s) : ac_M g i_X11_price (d + 2) 2 12 [.ref 0, .int p1, .int p2] (false, 586, SH, s, τ) (liIX τ Q X) := by
  refine ac_ofX (by decide +kernel) rfl rfl rfl ?_
  refine ax_aload_n (pc' := 1) dX11_price_0 rfl rfl ?_
  refine ax_iload_n (pc' := 2) dX11_price_1 rfl rfl ?_
  refine ax_iconst (pc' := 3) (v := (0 : Int32)) dX11_price_2 (by decide) rfl ?_
  refine ax_iconst (pc' := 4) (v := (5 : Int32)) dX11_price_3 (by decide) rfl ?_
  refine ay_V3 (pc' := 7) (ce' := 1) (sl' := 6) (mc2 := 1) (ms2 := 6) (I2 := i_X11_needWithin) dX11_price_4 ml_X11_120 sh_0 (by decide) rfl rfl rfl rfl rfl rfl rfl rfl rfl (ac_M.imp (o_X11_needWithin _ p1 (0 : Int32) (5 : Int32) H) ?_)
  rintro _ _ (⟨s4, rfl, rfl, H⟩ | ⟨E, s0, rfl, rfl, H⟩)
  rotate_left
  · exact Or.inr ⟨E, s0, rfl, rfl, H⟩
  refine ax_aload_n (pc' := 8) dX11_price_7 rfl rfl ?_
  refine ax_iload_n (pc' := 9) dX11_price_8 rfl rfl ?_
  refine ax_iconst (pc' := 10) (v := (0 : Int32)) dX11_price_9 (by decide) rfl ?_
  refine ax_iconst (pc' := 11) (v := (5 : Int32)) dX11_price_10 (by decide) rfl ?_
  refine ay_V3 (pc' := 14) (ce' := 2) (sl' := 12) (mc2 := 1) (ms2 := 6) (I2 := i_X11_needWithin) dX11_price_11 ml_X11_120 sh_0 (by decide) rfl rfl rfl rfl rfl rfl rfl rfl rfl (ac_M.imp (o_X11_needWithin _ p2 (0 : Int32) (5 : Int32) H) ?_)
  rintro _ _ (⟨s11, rfl, rfl, H⟩ | ⟨E, s0, rfl, rfl, H⟩)
  rotate_left
  · exact Or.inr ⟨E, s0, rfl, rfl, H⟩
  refine ax_aload_n (pc' := 15) dX11_price_14 rfl rfl ?_
  refine ax_getR (pc' := 18) dX11_price_15 fl_X11_19 sh_0 rfl rfl rfl ?_
  refine ax_iload_n (pc' := 19) dX11_price_18 rfl rfl ?_
  refine ax_iload_n (pc' := 20) dX11_price_19 rfl rfl ?_
  refine ay_V2 (pc' := 23) (ce' := 2) (sl' := 12) (mc2 := 0) (ms2 := 0) (I2 := i_X3_cheapest) dX11_price_20 ml_X11_335 sh_3 (by decide) rfl rfl rfl rfl rfl rfl rfl rfl rfl (ac_M.imp (o_X3_cheapest _ p1 p2 H) ?_)
  rintro _ _ ⟨r20, s20, rfl, rfl, H⟩
  exact ax_iret dX11_price_23 rfl rfl rfl (Or.inl ⟨_, _, rfl, rfl, H⟩)
theorem ac_look_X11_owing_24 (x : Int32) (h0 : ¬ x = (0 : Int32)) (h1 : ¬ x = (1 : Int32)) : Op.lookupswitch.offset (#[(0, 28), (1, 34)] : Array (Int × Int)).toList 40 x.toInt = (40) := by
  have q0 : x.toInt ≠ 0 := ac_ne h0
  have q1 : x.toInt ≠ 1 := ac_ne h1
  simp [Op.lookupswitch.offset, q0, q0.symm, q1, q1.symm]
theorem o_X11_owing {g : ac_G} {τ : Nat → Nat → Int64} (d : Nat) (p1 : Int32) (p2 : Int32) (p3 : Int32) {Q : Int32 → ac_m → Prop} {X : String → ac_m → Prop} {s : ac_m} (H : w_X11_owing p1 p2 p3 Q X s) : ac_M g i_X11_owing (d + 3) 3 18 [.ref 0, .int p1, .int p2, .int p3] (false, 586, SH, s, τ) (liIX τ Q X) := by
  refine ac_ofX (by decide +kernel) rfl rfl rfl ?_
  refine ax_aload_n (pc' := 1) dX11_owing_0 rfl rfl ?_
  refine ax_iload_n (pc' := 2) dX11_owing_1 rfl rfl ?_
  refine ax_iconst (pc' := 3) (v := (0 : Int32)) dX11_owing_2 (by decide) rfl ?_
  refine ax_bipush (pc' := 5) (v := (99 : Int32)) dX11_owing_3 (by decide) rfl ?_
  refine ay_V3 (pc' := 8) (ce' := 1) (sl' := 6) (mc2 := 1) (ms2 := 6) (I2 := i_X11_needWithin) dX11_owing_5 ml_X11_120 sh_0 (by decide) rfl rfl rfl rfl rfl rfl rfl rfl rfl (ac_M.imp (o_X11_needWithin _ p1 (0 : Int32) (99 : Int32) H) ?_)
  rintro _ _ (⟨s5, rfl, rfl, H⟩ | ⟨E, s0, rfl, rfl, H⟩)
  rotate_left
  · exact Or.inr ⟨E, s0, rfl, rfl, H⟩
  refine ax_aload_n (pc' := 9) dX11_owing_8 rfl rfl ?_
  refine ax_iload_n (pc' := 10) dX11_owing_9 rfl rfl ?_
  refine ax_iconst (pc' := 11) (v := (0 : Int32)) dX11_owing_10 (by decide) rfl ?_
  refine ax_bipush (pc' := 13) (v := (99 : Int32)) dX11_owing_11 (by decide) rfl ?_
  refine ay_V3 (pc' := 16) (ce' := 2) (sl' := 12) (mc2 := 1) (ms2 := 6) (I2 := i_X11_needWithin) dX11_owing_13 ml_X11_120 sh_0 (by decide) rfl rfl rfl rfl rfl rfl rfl rfl rfl (ac_M.imp (o_X11_needWithin _ p2 (0 : Int32) (99 : Int32) H) ?_)
  rintro _ _ (⟨s13, rfl, rfl, H⟩ | ⟨E, s0, rfl, rfl, H⟩)
  rotate_left
  · exact Or.inr ⟨E, s0, rfl, rfl, H⟩
  refine ax_aload_n (pc' := 17) dX11_owing_16 rfl rfl ?_
  refine ax_iload_n (pc' := 18) dX11_owing_17 rfl rfl ?_
  refine ax_iconst (pc' := 19) (v := (0 : Int32)) dX11_owing_18 (by decide) rfl ?_
  refine ax_iconst (pc' := 20) (v := (2 : Int32)) dX11_owing_19 (by decide) rfl ?_
  refine ay_V3 (pc' := 23) (ce' := 3) (sl' := 18) (mc2 := 1) (ms2 := 6) (I2 := i_X11_needWithin) dX11_owing_20 ml_X11_120 sh_0 (by decide) rfl rfl rfl rfl rfl rfl rfl rfl rfl (ac_M.imp (o_X11_needWithin _ p3 (0 : Int32) (2 : Int32) H) ?_)
  rintro _ _ (⟨s20, rfl, rfl, H⟩ | ⟨E, s0, rfl, rfl, H⟩)
  rotate_left
  · exact Or.inr ⟨E, s0, rfl, rfl, H⟩
  refine ax_iload_n (pc' := 24) dX11_owing_23 rfl rfl ?_
  by_cases hk24_0 : p3 = (0 : Int32)
  · have H := H.1 hk24_0
    refine ax_lookup (off := (28)) (tgt := 52) dX11_owing_24 (by decide) (by rw [hk24_0]; decide) (by decide) ?_
    refine ax_iload_n (pc' := 53) dX11_owing_52 rfl rfl ?_
    refine ax_iload_n (pc' := 54) dX11_owing_53 rfl rfl ?_
    refine ay_S2 (pc' := 57) (ce' := 3) (sl' := 18) (mc2 := 0) (ms2 := 0) (I2 := i_X8_restsMany) dX11_owing_54 ml_X11_338 rfl rfl rfl rfl rfl rfl rfl rfl (ac_M.imp (o_X8_restsMany _ p1 p2 H) ?_)
    rintro _ _ ⟨r54, s54, rfl, rfl, H⟩
    exact ax_iret dX11_owing_57 rfl rfl rfl (Or.inl ⟨_, _, rfl, rfl, H⟩)
  have H := H.2
  by_cases hk24_1 : p3 = (1 : Int32)
  · have H := H.1 hk24_1
    refine ax_lookup (off := (34)) (tgt := 58) dX11_owing_24 (by decide) (by rw [hk24_1]; decide) (by decide) ?_
    refine ax_iload_n (pc' := 59) dX11_owing_58 rfl rfl ?_
    refine ax_iload_n (pc' := 60) dX11_owing_59 rfl rfl ?_
    refine ay_S2 (pc' := 63) (ce' := 3) (sl' := 18) (mc2 := 0) (ms2 := 0) (I2 := i_X8_firstRest) dX11_owing_60 ml_X11_343 rfl rfl rfl rfl rfl rfl rfl rfl (ac_M.imp (o_X8_firstRest _ p1 p2 H) ?_)
    rintro _ _ ⟨r60, s60, rfl, rfl, H⟩
    exact ax_iret dX11_owing_63 rfl rfl rfl (Or.inl ⟨_, _, rfl, rfl, H⟩)
  have H := H.2
  have H := H ⟨hk24_0, hk24_1⟩
  refine ax_lookup (off := (40)) (tgt := 64) dX11_owing_24 (by decide) (ac_look_X11_owing_24 _ hk24_0 hk24_1) (by decide) ?_
  refine ax_iload_n (pc' := 65) dX11_owing_64 rfl rfl ?_
  refine ax_iload_n (pc' := 66) dX11_owing_65 rfl rfl ?_
  refine ay_S2 (pc' := 69) (ce' := 3) (sl' := 18) (mc2 := 0) (ms2 := 0) (I2 := i_X8_firstRest) dX11_owing_66 ml_X11_343 rfl rfl rfl rfl rfl rfl rfl rfl (ac_M.imp (o_X8_firstRest _ p1 p2 H) ?_)
  rintro _ _ ⟨r66, s66, rfl, rfl, H⟩
  refine ax_iload_n (pc' := 70) dX11_owing_69 rfl rfl ?_
  refine ax_iload_n (pc' := 71) dX11_owing_70 rfl rfl ?_
  refine ay_S3 (pc' := 74) (ce' := 3) (sl' := 18) (mc2 := 0) (ms2 := 0) (I2 := i_X8_togetherAt) dX11_owing_71 ml_X11_346 rfl rfl rfl rfl rfl rfl rfl rfl (ac_M.imp (o_X8_togetherAt _ r66 p1 p2 H) ?_)
  rintro _ _ ⟨r71, s71, rfl, rfl, H⟩
  exact ax_iret dX11_owing_74 rfl rfl rfl (Or.inl ⟨_, _, rfl, rfl, H⟩)
theorem o_X11_home {g : ac_G} {τ : Nat → Nat → Int64} (d : Nat) (p1 : Int32) (p2 : Int32) (p3 : Int32) (p4 : Int32) {Q : Int64 → ac_m → Prop} {X : String → ac_m → Prop} {s : ac_m} (H : w_X11_home p1 p2 p3 p4 Q X s) : ac_M g i_X11_home (d + 2) 4 24 [.ref 0, .int p1, .int p2, .int p3, .int p4] (false, 586, SH, s, τ) (liLX τ Q X) := by
  refine ac_ofX (by decide +kernel) rfl rfl rfl ?_
  refine ax_aload_n (pc' := 1) dX11_home_0 rfl rfl ?_
  refine ax_iload_n (pc' := 2) dX11_home_1 rfl rfl ?_
  refine ax_iconst (pc' := 3) (v := (0 : Int32)) dX11_home_2 (by decide) rfl ?_
  refine ax_bipush (pc' := 5) (v := (12 : Int32)) dX11_home_3 (by decide) rfl ?_
  refine ay_V3 (pc' := 8) (ce' := 1) (sl' := 6) (mc2 := 1) (ms2 := 6) (I2 := i_X11_needWithin) dX11_home_5 ml_X11_120 sh_0 (by decide) rfl rfl rfl rfl rfl rfl rfl rfl rfl (ac_M.imp (o_X11_needWithin _ p1 (0 : Int32) (12 : Int32) H) ?_)
  rintro _ _ (⟨s5, rfl, rfl, H⟩ | ⟨E, s0, rfl, rfl, H⟩)
  rotate_left
  · exact Or.inr ⟨E, s0, rfl, rfl, H⟩
  refine ax_aload_n (pc' := 9) dX11_home_8 rfl rfl ?_
  refine ax_iload_n (pc' := 10) dX11_home_9 rfl rfl ?_
  refine ax_iconst (pc' := 11) (v := (0 : Int32)) dX11_home_10 (by decide) rfl ?_
  refine ax_bipush (pc' := 13) (v := (12 : Int32)) dX11_home_11 (by decide) rfl ?_
  refine ay_V3 (pc' := 16) (ce' := 2) (sl' := 12) (mc2 := 1) (ms2 := 6) (I2 := i_X11_needWithin) dX11_home_13 ml_X11_120 sh_0 (by decide) rfl rfl rfl rfl rfl rfl rfl rfl rfl (ac_M.imp (o_X11_needWithin _ p2 (0 : Int32) (12 : Int32) H) ?_)
  rintro _ _ (⟨s13, rfl, rfl, H⟩ | ⟨E, s0, rfl, rfl, H⟩)
  rotate_left
  · exact Or.inr ⟨E, s0, rfl, rfl, H⟩
  refine ax_aload_n (pc' := 17) dX11_home_16 rfl rfl ?_
  refine ax_iload_n (pc' := 18) dX11_home_17 rfl rfl ?_
  refine ax_iconst (pc' := 19) (v := (0 : Int32)) dX11_home_18 (by decide) rfl ?_
  refine ax_bipush (pc' := 21) (v := (16 : Int32)) dX11_home_19 (by decide) rfl ?_
  refine ay_V3 (pc' := 24) (ce' := 3) (sl' := 18) (mc2 := 1) (ms2 := 6) (I2 := i_X11_needWithin) dX11_home_21 ml_X11_120 sh_0 (by decide) rfl rfl rfl rfl rfl rfl rfl rfl rfl (ac_M.imp (o_X11_needWithin _ p3 (0 : Int32) (16 : Int32) H) ?_)
  rintro _ _ (⟨s21, rfl, rfl, H⟩ | ⟨E, s0, rfl, rfl, H⟩)
  rotate_left
  · exact Or.inr ⟨E, s0, rfl, rfl, H⟩
  refine ax_aload_n (pc' := 25) dX11_home_24 rfl rfl ?_
  refine ax_iload (pc' := 27) dX11_home_25 rfl rfl ?_
  refine ax_iconst (pc' := 28) (v := (0 : Int32)) dX11_home_27 (by decide) rfl ?_
  refine ax_iconst (pc' := 29) (v := (1 : Int32)) dX11_home_28 (by decide) rfl ?_
  refine ay_V3 (pc' := 32) (ce' := 4) (sl' := 24) (mc2 := 1) (ms2 := 6) (I2 := i_X11_needWithin) dX11_home_29 ml_X11_120 sh_0 (by decide) rfl rfl rfl rfl rfl rfl rfl rfl rfl (ac_M.imp (o_X11_needWithin _ p4 (0 : Int32) (1 : Int32) H) ?_)
  rintro _ _ (⟨s29, rfl, rfl, H⟩ | ⟨E, s0, rfl, rfl, H⟩)
  rotate_left
  · exact Or.inr ⟨E, s0, rfl, rfl, H⟩
  refine ax_iload_n (pc' := 33) dX11_home_32 rfl rfl ?_
  refine ax_iload_n (pc' := 34) dX11_home_33 rfl rfl ?_
  refine ax_iload_n (pc' := 35) dX11_home_34 rfl rfl ?_
  refine ax_iload (pc' := 37) dX11_home_35 rfl rfl ?_
  refine ay_S4 (pc' := 40) (ce' := 4) (sl' := 24) (mc2 := 0) (ms2 := 0) (I2 := i_X8_homeFraction) dX11_home_37 ml_X11_350 rfl rfl rfl rfl rfl rfl rfl rfl (ac_M.imp (o_X8_homeFraction _ p1 p2 p3 p4 H) ?_)
  rintro _ _ ⟨r37, s37, rfl, rfl, H⟩
  exact ax_lret dX11_home_40 rfl rfl rfl (Or.inl ⟨_, _, rfl, rfl, H⟩)
theorem ol_X11_share_52 {g : ac_G} {τ : Nat → Nat → Int64} (d : Nat) (p1 : Int32) (p2 : Int32) (p3 : Int32) {Q : Int32 → ac_m → Prop} {X : String → ac_m → Prop}  (f1 : Int32) (f2 : Int32) (f3 : Int32)  {x4 : Int32} {s : ac_m} (H : l_X11_share_52 p1 p2 p3 Q X  f1 f2 f3  x4 s) : ac_X g i_X11_share (d + 2) 3 18 (liIX τ Q X) 3 18 52 [some (.ref 0), some (.int f1), some (.int f2), some (.int f3), some (.int x4)] [] (false, 586, SH, s, τ) := by
  refine H (fun x4 s => ac_X g i_X11_share (d + 2) 3 18 (liIX τ Q X) 3 18 52 [some (.ref 0), some (.int f1), some (.int f2), some (.int f3), some (.int x4)] [] (false, 586, SH, s, τ)) ?_
  intro x4 s H
  refine ax_iload (pc' := 54) dX11_share_52 rfl rfl ?_
  refine ax_if_le (pc' := 57) (tgt := 90) dX11_share_54 (by decide) rfl (fun hc54 => ?_) (fun hc54 => ?_)
  · have H := H.1 hc54
    refine ax_iconst (pc' := 91) (v := (0 : Int32)) dX11_share_90 (by decide) rfl ?_
    exact ax_iret dX11_share_91 rfl rfl rfl (Or.inl ⟨_, _, rfl, rfl, H⟩)
  · have H := H.2 hc54
    refine ax_aload_n (pc' := 58) dX11_share_57 rfl rfl ?_
    refine ax_getR (pc' := 61) dX11_share_58 fl_X11_58 sh_0 rfl rfl rfl ?_
    refine ax_iload (pc' := 63) dX11_share_61 rfl rfl ?_
    refine ax_iload_n (pc' := 64) dX11_share_63 rfl rfl ?_
    refine ay_V2 (pc' := 67) (ce' := 3) (sl' := 18) (mc2 := 0) (ms2 := 0) (I2 := i_X5_givenBelow) dX11_share_64 ml_X11_358 sh_42 (by decide) rfl rfl rfl rfl rfl rfl rfl rfl rfl (ac_M.imp (o_X5_givenBelow _ 42 x4 f2 is_now H) ?_)
    rintro _ _ ⟨r64, s64, rfl, rfl, H⟩
    refine ax_iload_n (pc' := 68) dX11_share_67 rfl rfl ?_
    refine ax_icmp_gt (pc' := 71) (tgt := 84) dX11_share_68 (by decide) rfl (fun hc68 => ?_) (fun hc68 => ?_)
    · have H := H.1 hc68
      refine ax_iinc (pc' := 87) (v := (x4 + (-1 : Int32))) dX11_share_84 rfl rfl rfl rfl rfl ?_
      refine ax_goto (tgt := 52) dX11_share_87 (by decide) ?_
      exact H
    · have H := H.2 hc68
      refine ax_aload_n (pc' := 72) dX11_share_71 rfl rfl ?_
      refine ax_getR (pc' := 75) dX11_share_72 fl_X11_58 sh_0 rfl rfl rfl ?_
      refine ax_iload (pc' := 77) dX11_share_75 rfl rfl ?_
      refine ax_iconst (pc' := 78) (v := (1 : Int32)) dX11_share_77 (by decide) rfl ?_
      refine ax_iload_n (pc' := 79) dX11_share_78 rfl rfl ?_
      refine ax_ishl (pc' := 80) dX11_share_79 rfl ?_
      refine ay_V2 (pc' := 83) (ce' := 3) (sl' := 18) (mc2 := 0) (ms2 := 0) (I2 := i_X5_givenBelow) dX11_share_80 ml_X11_358 sh_42 (by decide) rfl rfl rfl rfl rfl rfl rfl rfl rfl (ac_M.imp (o_X5_givenBelow _ 42 x4 ((1 : Int32) <<< (f1 &&& 31)) is_now H) ?_)
      rintro _ _ ⟨r80, s80, rfl, rfl, H⟩
      exact ax_iret dX11_share_83 rfl rfl rfl (Or.inl ⟨_, _, rfl, rfl, H⟩)
theorem o_X11_share {g : ac_G} {τ : Nat → Nat → Int64} (d : Nat) (p1 : Int32) (p2 : Int32) (p3 : Int32) {Q : Int32 → ac_m → Prop} {X : String → ac_m → Prop} {s : ac_m} (H : w_X11_share p1 p2 p3 Q X s) : ac_M g i_X11_share (d + 2) 3 18 [.ref 0, .int p1, .int p2, .int p3] (false, 586, SH, s, τ) (liIX τ Q X) := by
  refine ac_ofX (by decide +kernel) rfl rfl rfl ?_
  refine ax_aload_n (pc' := 1) dX11_share_0 rfl rfl ?_
  refine ax_iload_n (pc' := 2) dX11_share_1 rfl rfl ?_
  refine ay_V1 (pc' := 5) (ce' := 1) (sl' := 6) (mc2 := 1) (ms2 := 6) (I2 := i_X11_needFolk) dX11_share_2 ml_X11_234 sh_0 (by decide) rfl rfl rfl rfl rfl rfl rfl rfl rfl (ac_M.imp (o_X11_needFolk _ p1 H) ?_)
  rintro _ _ (⟨s2, rfl, rfl, H⟩ | ⟨E, s0, rfl, rfl, H⟩)
  rotate_left
  · exact Or.inr ⟨E, s0, rfl, rfl, H⟩
  refine ax_aload_n (pc' := 6) dX11_share_5 rfl rfl ?_
  refine ax_iload_n (pc' := 7) dX11_share_6 rfl rfl ?_
  refine ax_iconst (pc' := 8) (v := (0 : Int32)) dX11_share_7 (by decide) rfl ?_
  refine ax_sipush (pc' := 11) (v := (999 : Int32)) dX11_share_8 (by decide) rfl ?_
  refine ay_V3 (pc' := 14) (ce' := 2) (sl' := 12) (mc2 := 1) (ms2 := 6) (I2 := i_X11_needWithin) dX11_share_11 ml_X11_120 sh_0 (by decide) rfl rfl rfl rfl rfl rfl rfl rfl rfl (ac_M.imp (o_X11_needWithin _ p3 (0 : Int32) (999 : Int32) H) ?_)
  rintro _ _ (⟨s11, rfl, rfl, H⟩ | ⟨E, s0, rfl, rfl, H⟩)
  rotate_left
  · exact Or.inr ⟨E, s0, rfl, rfl, H⟩
  refine ax_aload_n (pc' := 15) dX11_share_14 rfl rfl ?_
  refine ax_iload_n (pc' := 16) dX11_share_15 rfl rfl ?_
  refine ax_iconst (pc' := 17) (v := (1 : Int32)) dX11_share_16 (by decide) rfl ?_
  refine ax_aload_n (pc' := 18) dX11_share_17 rfl rfl ?_
  refine ax_getR (pc' := 21) dX11_share_18 fl_X11_19 sh_0 rfl rfl rfl ?_
  refine ax_getI (pc' := 24) dX11_share_21 fl_X11_206 sh_3 rfl rfl rfl ?_
  refine ax_ishl (pc' := 25) dX11_share_24 rfl ?_
  refine ax_ineg (pc' := 26) dX11_share_25 rfl ?_
  refine ax_iand (pc' := 27) dX11_share_26 rfl ?_
  refine ax_if_ne (pc' := 30) (tgt := 34) dX11_share_27 (by decide) rfl (fun hc27 => ?_) (fun hc27 => ?_)
  · have H := H.1 hc27
    refine ax_iconst (pc' := 35) (v := (0 : Int32)) dX11_share_34 (by decide) rfl ?_
    refine ay_V1 (pc' := 38) (ce' := 3) (sl' := 18) (mc2 := 1) (ms2 := 6) (I2 := i_X11_need) dX11_share_35 ml_X11_354 sh_0 (by decide) rfl rfl rfl rfl rfl rfl rfl rfl rfl (ac_M.imp (o_X11_need _ (0 : Int32) H) ?_)
    rintro _ _ (⟨s35, rfl, rfl, H⟩ | ⟨E, s0, rfl, rfl, H⟩)
    rotate_left
    · exact Or.inr ⟨E, s0, rfl, rfl, H⟩
    refine ax_iload_n (pc' := 39) dX11_share_38 rfl rfl ?_
    refine ax_iconst (pc' := 40) (v := (1 : Int32)) dX11_share_39 (by decide) rfl ?_
    refine ax_iload_n (pc' := 41) dX11_share_40 rfl rfl ?_
    refine ax_ishl (pc' := 42) dX11_share_41 rfl ?_
    refine ax_iand (pc' := 43) dX11_share_42 rfl ?_
    refine ax_if_ne (pc' := 46) (tgt := 48) dX11_share_43 (by decide) rfl (fun hc43 => ?_) (fun hc43 => ?_)
    · have H := H.1 hc43
      refine ax_bipush (pc' := 50) (v := (99 : Int32)) dX11_share_48 (by decide) rfl ?_
      refine ax_istore (pc' := 52) dX11_share_50 rfl rfl rfl ?_
      refine ol_X11_share_52 d p1 p2 p3  _ _ _    H
    · have H := H.2 hc43
      refine ax_iconst (pc' := 47) (v := (0 : Int32)) dX11_share_46 (by decide) rfl ?_
      exact ax_iret dX11_share_47 rfl rfl rfl (Or.inl ⟨_, _, rfl, rfl, H⟩)
  · have H := H.2 hc27
    refine ax_iconst (pc' := 31) (v := (1 : Int32)) dX11_share_30 (by decide) rfl ?_
    refine ax_goto (tgt := 35) dX11_share_31 (by decide) ?_
    refine ay_V1 (pc' := 38) (ce' := 3) (sl' := 18) (mc2 := 1) (ms2 := 6) (I2 := i_X11_need) dX11_share_35 ml_X11_354 sh_0 (by decide) rfl rfl rfl rfl rfl rfl rfl rfl rfl (ac_M.imp (o_X11_need _ (1 : Int32) H) ?_)
    rintro _ _ (⟨s35, rfl, rfl, H⟩ | ⟨E, s0, rfl, rfl, H⟩)
    rotate_left
    · exact Or.inr ⟨E, s0, rfl, rfl, H⟩
    refine ax_iload_n (pc' := 39) dX11_share_38 rfl rfl ?_
    refine ax_iconst (pc' := 40) (v := (1 : Int32)) dX11_share_39 (by decide) rfl ?_
    refine ax_iload_n (pc' := 41) dX11_share_40 rfl rfl ?_
    refine ax_ishl (pc' := 42) dX11_share_41 rfl ?_
    refine ax_iand (pc' := 43) dX11_share_42 rfl ?_
    refine ax_if_ne (pc' := 46) (tgt := 48) dX11_share_43 (by decide) rfl (fun hc43 => ?_) (fun hc43 => ?_)
    · have H := H.1 hc43
      refine ax_bipush (pc' := 50) (v := (99 : Int32)) dX11_share_48 (by decide) rfl ?_
      refine ax_istore (pc' := 52) dX11_share_50 rfl rfl rfl ?_
      refine ol_X11_share_52 d p1 p2 p3  _ _ _    H
    · have H := H.2 hc43
      refine ax_iconst (pc' := 47) (v := (0 : Int32)) dX11_share_46 (by decide) rfl ?_
      exact ax_iret dX11_share_47 rfl rfl rfl (Or.inl ⟨_, _, rfl, rfl, H⟩)
theorem o_X11_heaviest {g : ac_G} {τ : Nat → Nat → Int64} (d : Nat) (p1 : Int32) {Q : Int32 → ac_m → Prop} {X : String → ac_m → Prop} {s : ac_m} (H : w_X11_heaviest p1 Q X s) : ac_M g i_X11_heaviest (d + 2) 1 6 [.ref 0, .int p1] (false, 586, SH, s, τ) (liIX τ Q X) := by
  refine ac_ofX (by decide +kernel) rfl rfl rfl ?_
  refine ax_aload_n (pc' := 1) dX11_heaviest_0 rfl rfl ?_
  refine ax_iload_n (pc' := 2) dX11_heaviest_1 rfl rfl ?_
  refine ax_iconst (pc' := 3) (v := (0 : Int32)) dX11_heaviest_2 (by decide) rfl ?_
  refine ax_iconst (pc' := 4) (v := (1 : Int32)) dX11_heaviest_3 (by decide) rfl ?_
  refine ay_V3 (pc' := 7) (ce' := 1) (sl' := 6) (mc2 := 1) (ms2 := 6) (I2 := i_X11_needWithin) dX11_heaviest_4 ml_X11_120 sh_0 (by decide) rfl rfl rfl rfl rfl rfl rfl rfl rfl (ac_M.imp (o_X11_needWithin _ p1 (0 : Int32) (1 : Int32) H) ?_)
  rintro _ _ (⟨s4, rfl, rfl, H⟩ | ⟨E, s0, rfl, rfl, H⟩)
  rotate_left
  · exact Or.inr ⟨E, s0, rfl, rfl, H⟩
  refine ax_aload_n (pc' := 8) dX11_heaviest_7 rfl rfl ?_
  refine ax_getR (pc' := 11) dX11_heaviest_8 fl_X11_58 sh_0 rfl rfl rfl ?_
  refine ay_V0 (pc' := 14) (ce' := 1) (sl' := 6) (mc2 := 0) (ms2 := 0) (I2 := i_X5_firstHeaviest) dX11_heaviest_11 ml_X11_361 sh_42 (by decide) rfl rfl rfl rfl rfl rfl rfl rfl rfl (ac_M.imp (o_X5_firstHeaviest _ 42 is_now H) ?_)
  rintro _ _ ⟨r11, s11, rfl, rfl, H⟩
  refine ax_istore_n (pc' := 15) dX11_heaviest_14 rfl rfl rfl ?_
  refine ax_iload_n (pc' := 16) dX11_heaviest_15 rfl rfl ?_
  refine ax_if_eq (pc' := 19) (tgt := 24) dX11_heaviest_16 (by decide) rfl (fun hc16 => ?_) (fun hc16 => ?_)
  · have H := H.1 hc16
    refine ax_iload_n (pc' := 25) dX11_heaviest_24 rfl rfl ?_
    refine ax_goto (tgt := 38) dX11_heaviest_25 (by decide) ?_
    exact ax_iret dX11_heaviest_38 rfl rfl rfl (Or.inl ⟨_, _, rfl, rfl, H⟩)
  · have H := H.2 hc16
    refine ax_iload_n (pc' := 20) dX11_heaviest_19 rfl rfl ?_
    refine ax_iconst (pc' := 21) (v := (-1 : Int32)) dX11_heaviest_20 (by decide) rfl ?_
    refine ax_icmp_ne (pc' := 24) (tgt := 28) dX11_heaviest_21 (by decide) rfl (fun hc21 => ?_) (fun hc21 => ?_)
    · have H := H.1 hc21
      refine ax_aload_n (pc' := 29) dX11_heaviest_28 rfl rfl ?_
      refine ax_getR (pc' := 32) dX11_heaviest_29 fl_X11_58 sh_0 rfl rfl rfl ?_
      refine ax_iconst (pc' := 33) (v := (1 : Int32)) dX11_heaviest_32 (by decide) rfl ?_
      refine ax_iload_n (pc' := 34) dX11_heaviest_33 rfl rfl ?_
      refine ax_ishl (pc' := 35) dX11_heaviest_34 rfl ?_
      refine ay_V1 (pc' := 38) (ce' := 1) (sl' := 6) (mc2 := 0) (ms2 := 0) (I2 := i_X5_weightOf) dX11_heaviest_35 ml_X11_221 sh_42 (by decide) rfl rfl rfl rfl rfl rfl rfl rfl rfl (ac_M.imp (o_X5_weightOf _ 42 ((1 : Int32) <<< (r11 &&& 31)) is_now H) ?_)
      rintro _ _ ⟨r35, s35, rfl, rfl, H⟩
      exact ax_iret dX11_heaviest_38 rfl rfl rfl (Or.inl ⟨_, _, rfl, rfl, H⟩)
    · have H := H.2 hc21
      refine ax_iload_n (pc' := 25) dX11_heaviest_24 rfl rfl ?_
      refine ax_goto (tgt := 38) dX11_heaviest_25 (by decide) ?_
      exact ax_iret dX11_heaviest_38 rfl rfl rfl (Or.inl ⟨_, _, rfl, rfl, H⟩)
theorem o_X11_oldest {g : ac_G} {τ : Nat → Nat → Int64} (d : Nat) (p1 : Int32) {Q : Int32 → ac_m → Prop} {X : String → ac_m → Prop} {s : ac_m} (H : w_X11_oldest p1 Q X s) : ac_M g i_X11_oldest (d + 2) 1 6 [.ref 0, .int p1] (false, 586, SH, s, τ) (liIX τ Q X) := by
  refine ac_ofX (by decide +kernel) rfl rfl rfl ?_
  refine ax_aload_n (pc' := 1) dX11_oldest_0 rfl rfl ?_
  refine ax_iload_n (pc' := 2) dX11_oldest_1 rfl rfl ?_
  refine ax_iconst (pc' := 3) (v := (0 : Int32)) dX11_oldest_2 (by decide) rfl ?_
  refine ax_iconst (pc' := 4) (v := (1 : Int32)) dX11_oldest_3 (by decide) rfl ?_
  refine ay_V3 (pc' := 7) (ce' := 1) (sl' := 6) (mc2 := 1) (ms2 := 6) (I2 := i_X11_needWithin) dX11_oldest_4 ml_X11_120 sh_0 (by decide) rfl rfl rfl rfl rfl rfl rfl rfl rfl (ac_M.imp (o_X11_needWithin _ p1 (0 : Int32) (1 : Int32) H) ?_)
  rintro _ _ (⟨s4, rfl, rfl, H⟩ | ⟨E, s0, rfl, rfl, H⟩)
  rotate_left
  · exact Or.inr ⟨E, s0, rfl, rfl, H⟩
  refine ax_aload_n (pc' := 8) dX11_oldest_7 rfl rfl ?_
  refine ax_getR (pc' := 11) dX11_oldest_8 fl_X11_58 sh_0 rfl rfl rfl ?_
  refine ay_V0 (pc' := 14) (ce' := 1) (sl' := 6) (mc2 := 0) (ms2 := 0) (I2 := i_X5_firstOldest) dX11_oldest_11 ml_X11_364 sh_42 (by decide) rfl rfl rfl rfl rfl rfl rfl rfl rfl (ac_M.imp (o_X5_firstOldest _ 42 is_now H) ?_)
  rintro _ _ ⟨r11, s11, rfl, rfl, H⟩
  refine ax_istore_n (pc' := 15) dX11_oldest_14 rfl rfl rfl ?_
  refine ax_iload_n (pc' := 16) dX11_oldest_15 rfl rfl ?_
  refine ax_if_eq (pc' := 19) (tgt := 24) dX11_oldest_16 (by decide) rfl (fun hc16 => ?_) (fun hc16 => ?_)
  · have H := H.1 hc16
    refine ax_iload_n (pc' := 25) dX11_oldest_24 rfl rfl ?_
    refine ax_goto (tgt := 36) dX11_oldest_25 (by decide) ?_
    exact ax_iret dX11_oldest_36 rfl rfl rfl (Or.inl ⟨_, _, rfl, rfl, H⟩)
  · have H := H.2 hc16
    refine ax_iload_n (pc' := 20) dX11_oldest_19 rfl rfl ?_
    refine ax_iconst (pc' := 21) (v := (-1 : Int32)) dX11_oldest_20 (by decide) rfl ?_
    refine ax_icmp_ne (pc' := 24) (tgt := 28) dX11_oldest_21 (by decide) rfl (fun hc21 => ?_) (fun hc21 => ?_)
    · have H := H.1 hc21
      refine ax_aload_n (pc' := 29) dX11_oldest_28 rfl rfl ?_
      refine ax_getR (pc' := 32) dX11_oldest_29 fl_X11_58 sh_0 rfl rfl rfl ?_
      refine ax_iload_n (pc' := 33) dX11_oldest_32 rfl rfl ?_
      refine ay_V1 (pc' := 36) (ce' := 1) (sl' := 6) (mc2 := 0) (ms2 := 0) (I2 := i_X5_ageOf) dX11_oldest_33 ml_X11_267 sh_42 (by decide) rfl rfl rfl rfl rfl rfl rfl rfl rfl (ac_M.imp (o_X5_ageOf _ 42 r11 is_now H) ?_)
      rintro _ _ ⟨r33, s33, rfl, rfl, H⟩
      exact ax_iret dX11_oldest_36 rfl rfl rfl (Or.inl ⟨_, _, rfl, rfl, H⟩)
    · have H := H.2 hc21
      refine ax_iload_n (pc' := 25) dX11_oldest_24 rfl rfl ?_
      refine ax_goto (tgt := 36) dX11_oldest_25 (by decide) ?_
      exact ax_iret dX11_oldest_36 rfl rfl rfl (Or.inl ⟨_, _, rfl, rfl, H⟩)
theorem o_X11_lightest {g : ac_G} {τ : Nat → Nat → Int64} (d : Nat) (p1 : Int32) {Q : Int32 → ac_m → Prop} {X : String → ac_m → Prop} {s : ac_m} (H : w_X11_lightest p1 Q X s) : ac_M g i_X11_lightest (d + 2) 1 6 [.ref 0, .int p1] (false, 586, SH, s, τ) (liIX τ Q X) := by
  refine ac_ofX (by decide +kernel) rfl rfl rfl ?_
  refine ax_aload_n (pc' := 1) dX11_lightest_0 rfl rfl ?_
  refine ax_iload_n (pc' := 2) dX11_lightest_1 rfl rfl ?_
  refine ax_iconst (pc' := 3) (v := (0 : Int32)) dX11_lightest_2 (by decide) rfl ?_
  refine ax_iconst (pc' := 4) (v := (1 : Int32)) dX11_lightest_3 (by decide) rfl ?_
  refine ay_V3 (pc' := 7) (ce' := 1) (sl' := 6) (mc2 := 1) (ms2 := 6) (I2 := i_X11_needWithin) dX11_lightest_4 ml_X11_120 sh_0 (by decide) rfl rfl rfl rfl rfl rfl rfl rfl rfl (ac_M.imp (o_X11_needWithin _ p1 (0 : Int32) (1 : Int32) H) ?_)
  rintro _ _ (⟨s4, rfl, rfl, H⟩ | ⟨E, s0, rfl, rfl, H⟩)
  rotate_left
  · exact Or.inr ⟨E, s0, rfl, rfl, H⟩
  refine ax_aload_n (pc' := 8) dX11_lightest_7 rfl rfl ?_
  refine ax_getR (pc' := 11) dX11_lightest_8 fl_X11_58 sh_0 rfl rfl rfl ?_
  refine ay_V0 (pc' := 14) (ce' := 1) (sl' := 6) (mc2 := 0) (ms2 := 0) (I2 := i_X5_firstLightest) dX11_lightest_11 ml_X11_367 sh_42 (by decide) rfl rfl rfl rfl rfl rfl rfl rfl rfl (ac_M.imp (o_X5_firstLightest _ 42 is_now H) ?_)
  rintro _ _ ⟨r11, s11, rfl, rfl, H⟩
  refine ax_istore_n (pc' := 15) dX11_lightest_14 rfl rfl rfl ?_
  refine ax_iload_n (pc' := 16) dX11_lightest_15 rfl rfl ?_
  refine ax_if_eq (pc' := 19) (tgt := 24) dX11_lightest_16 (by decide) rfl (fun hc16 => ?_) (fun hc16 => ?_)
  · have H := H.1 hc16
    refine ax_iload_n (pc' := 25) dX11_lightest_24 rfl rfl ?_
    refine ax_goto (tgt := 38) dX11_lightest_25 (by decide) ?_
    exact ax_iret dX11_lightest_38 rfl rfl rfl (Or.inl ⟨_, _, rfl, rfl, H⟩)
  · have H := H.2 hc16
    refine ax_iload_n (pc' := 20) dX11_lightest_19 rfl rfl ?_
    refine ax_iconst (pc' := 21) (v := (-1 : Int32)) dX11_lightest_20 (by decide) rfl ?_
    refine ax_icmp_ne (pc' := 24) (tgt := 28) dX11_lightest_21 (by decide) rfl (fun hc21 => ?_) (fun hc21 => ?_)
    · have H := H.1 hc21
      refine ax_aload_n (pc' := 29) dX11_lightest_28 rfl rfl ?_
      refine ax_getR (pc' := 32) dX11_lightest_29 fl_X11_58 sh_0 rfl rfl rfl ?_
      refine ax_iconst (pc' := 33) (v := (1 : Int32)) dX11_lightest_32 (by decide) rfl ?_
      refine ax_iload_n (pc' := 34) dX11_lightest_33 rfl rfl ?_
      refine ax_ishl (pc' := 35) dX11_lightest_34 rfl ?_
      refine ay_V1 (pc' := 38) (ce' := 1) (sl' := 6) (mc2 := 0) (ms2 := 0) (I2 := i_X5_weightOf) dX11_lightest_35 ml_X11_221 sh_42 (by decide) rfl rfl rfl rfl rfl rfl rfl rfl rfl (ac_M.imp (o_X5_weightOf _ 42 ((1 : Int32) <<< (r11 &&& 31)) is_now H) ?_)
      rintro _ _ ⟨r35, s35, rfl, rfl, H⟩
      exact ax_iret dX11_lightest_38 rfl rfl rfl (Or.inl ⟨_, _, rfl, rfl, H⟩)
    · have H := H.2 hc21
      refine ax_iload_n (pc' := 25) dX11_lightest_24 rfl rfl ?_
      refine ax_goto (tgt := 38) dX11_lightest_25 (by decide) ?_
      exact ax_iret dX11_lightest_38 rfl rfl rfl (Or.inl ⟨_, _, rfl, rfl, H⟩)
theorem o_X11_coolest {g : ac_G} {τ : Nat → Nat → Int64} (d : Nat) (p1 : Int32) {Q : Int32 → ac_m → Prop} {X : String → ac_m → Prop} {s : ac_m} (H : w_X11_coolest p1 Q X s) : ac_M g i_X11_coolest (d + 2) 1 6 [.ref 0, .int p1] (false, 586, SH, s, τ) (liIX τ Q X) := by
  refine ac_ofX (by decide +kernel) rfl rfl rfl ?_
  refine ax_aload_n (pc' := 1) dX11_coolest_0 rfl rfl ?_
  refine ax_iload_n (pc' := 2) dX11_coolest_1 rfl rfl ?_
  refine ax_iconst (pc' := 3) (v := (0 : Int32)) dX11_coolest_2 (by decide) rfl ?_
  refine ax_iconst (pc' := 4) (v := (1 : Int32)) dX11_coolest_3 (by decide) rfl ?_
  refine ay_V3 (pc' := 7) (ce' := 1) (sl' := 6) (mc2 := 1) (ms2 := 6) (I2 := i_X11_needWithin) dX11_coolest_4 ml_X11_120 sh_0 (by decide) rfl rfl rfl rfl rfl rfl rfl rfl rfl (ac_M.imp (o_X11_needWithin _ p1 (0 : Int32) (1 : Int32) H) ?_)
  rintro _ _ (⟨s4, rfl, rfl, H⟩ | ⟨E, s0, rfl, rfl, H⟩)
  rotate_left
  · exact Or.inr ⟨E, s0, rfl, rfl, H⟩
  refine ax_aload_n (pc' := 8) dX11_coolest_7 rfl rfl ?_
  refine ax_getR (pc' := 11) dX11_coolest_8 fl_X11_58 sh_0 rfl rfl rfl ?_
  refine ay_V0 (pc' := 14) (ce' := 1) (sl' := 6) (mc2 := 0) (ms2 := 0) (I2 := i_X5_firstCoolest) dX11_coolest_11 ml_X11_370 sh_42 (by decide) rfl rfl rfl rfl rfl rfl rfl rfl rfl (ac_M.imp (o_X5_firstCoolest _ 42 is_now H) ?_)
  rintro _ _ ⟨r11, s11, rfl, rfl, H⟩
  refine ax_istore_n (pc' := 15) dX11_coolest_14 rfl rfl rfl ?_
  refine ax_iload_n (pc' := 16) dX11_coolest_15 rfl rfl ?_
  refine ax_if_eq (pc' := 19) (tgt := 24) dX11_coolest_16 (by decide) rfl (fun hc16 => ?_) (fun hc16 => ?_)
  · have H := H.1 hc16
    refine ax_iload_n (pc' := 25) dX11_coolest_24 rfl rfl ?_
    refine ax_goto (tgt := 43) dX11_coolest_25 (by decide) ?_
    exact ax_iret dX11_coolest_43 rfl rfl rfl (Or.inl ⟨_, _, rfl, rfl, H⟩)
  · have H := H.2 hc16
    refine ax_iload_n (pc' := 20) dX11_coolest_19 rfl rfl ?_
    refine ax_iconst (pc' := 21) (v := (-1 : Int32)) dX11_coolest_20 (by decide) rfl ?_
    refine ax_icmp_ne (pc' := 24) (tgt := 28) dX11_coolest_21 (by decide) rfl (fun hc21 => ?_) (fun hc21 => ?_)
    · have H := H.1 hc21
      refine ax_aload_n (pc' := 29) dX11_coolest_28 rfl rfl ?_
      refine ax_getR (pc' := 32) dX11_coolest_29 fl_X11_58 sh_0 rfl rfl rfl ?_
      refine ax_iload_n (pc' := 33) dX11_coolest_32 rfl rfl ?_
      refine ax_bipush (pc' := 35) (v := (10 : Int32)) dX11_coolest_33 (by decide) rfl ?_
      refine ax_idiv (pc' := 36) dX11_coolest_35 (by decide) rfl ?_
      refine ax_iload_n (pc' := 37) dX11_coolest_36 rfl rfl ?_
      refine ax_bipush (pc' := 39) (v := (10 : Int32)) dX11_coolest_37 (by decide) rfl ?_
      refine ax_irem (pc' := 40) dX11_coolest_39 (by decide) rfl ?_
      refine ay_V2 (pc' := 43) (ce' := 1) (sl' := 6) (mc2 := 0) (ms2 := 0) (I2 := i_X5_coolness) dX11_coolest_40 ml_X11_277 sh_42 (by decide) rfl rfl rfl rfl rfl rfl rfl rfl rfl (ac_M.imp (o_X5_coolness _ 42 (r11 / (10 : Int32)) (r11 - r11 / (10 : Int32) * (10 : Int32)) is_now H) ?_)
      rintro _ _ ⟨r40, s40, rfl, rfl, H⟩
      exact ax_iret dX11_coolest_43 rfl rfl rfl (Or.inl ⟨_, _, rfl, rfl, H⟩)
    · have H := H.2 hc21
      refine ax_iload_n (pc' := 25) dX11_coolest_24 rfl rfl ?_
      refine ax_goto (tgt := 43) dX11_coolest_25 (by decide) ?_
      exact ax_iret dX11_coolest_43 rfl rfl rfl (Or.inl ⟨_, _, rfl, rfl, H⟩)
theorem o_X11_overrun {g : ac_G} {τ : Nat → Nat → Int64} (d : Nat)  {Q : Int32 → ac_m → Prop} {s : ac_m} (H : w_X11_overrun  Q s) : ac_M g i_X11_overrun (d + 5) 0 0 [.ref 0] (false, 586, SH, s, τ) (liI τ Q) := by
  refine ac_ofX (by decide +kernel) rfl rfl rfl ?_
  refine ax_aload_n (pc' := 1) dX11_overrun_0 rfl rfl ?_
  refine ax_getR (pc' := 4) dX11_overrun_1 fl_X11_58 sh_0 rfl rfl rfl ?_
  refine ay_V0 (pc' := 7) (ce' := 0) (sl' := 0) (mc2 := 0) (ms2 := 0) (I2 := i_X5_overrunBits) dX11_overrun_4 ml_X11_373 sh_42 (by decide) rfl rfl rfl rfl rfl rfl rfl rfl rfl (ac_M.imp (o_X5_overrunBits _ 42 is_now H) ?_)
  rintro _ _ ⟨r4, s4, rfl, rfl, H⟩
  exact ax_iret dX11_overrun_7 rfl rfl rfl ⟨_, _, rfl, rfl, H⟩
theorem ol_X11_good_20 {g : ac_G} {τ : Nat → Nat → Int64} (d : Nat) (p1 : Int32) {Q : Int32 → ac_m → Prop} {X : String → ac_m → Prop}  (f1 : Int32) (f2 : Int32)  {x3 : Int32} {x4 : Int32} {s : ac_m} (H : l_X11_good_20 p1 Q X  f1 f2  x3 x4 s) : ac_X g i_X11_good (d + 2) 1 6 (liIX τ Q X) 1 6 20 [some (.ref 0), some (.int f1), some (.int f2), some (.int x3), some (.int x4), none, none, none] [] (false, 586, SH, s, τ) := by
  refine H (fun x3 x4 s => ac_X g i_X11_good (d + 2) 1 6 (liIX τ Q X) 1 6 20 [some (.ref 0), some (.int f1), some (.int f2), some (.int x3), some (.int x4), none, none, none] [] (false, 586, SH, s, τ)) ?_
  intro x3 x4 s H
  refine ax_iload (pc' := 22) dX11_good_20 rfl rfl ?_
  refine ax_aload_n (pc' := 23) dX11_good_22 rfl rfl ?_
  refine ax_getR (pc' := 26) dX11_good_23 fl_X11_19 sh_0 rfl rfl rfl ?_
  refine ax_getI (pc' := 29) dX11_good_26 fl_X11_206 sh_3 rfl rfl rfl ?_
  refine ax_icmp_ge (pc' := 32) (tgt := 108) dX11_good_29 (by decide) rfl (fun hc29 => ?_) (fun hc29 => ?_)
  · have H := H.1 hc29
    refine ax_iload_n (pc' := 109) dX11_good_108 rfl rfl ?_
    exact ax_iret dX11_good_109 rfl rfl rfl (Or.inl ⟨_, _, rfl, rfl, H⟩)
  · have H := H.2 hc29
    refine ax_iload_n (pc' := 33) dX11_good_32 rfl rfl ?_
    refine ax_aload_n (pc' := 34) dX11_good_33 rfl rfl ?_
    refine ax_getR (pc' := 37) dX11_good_34 fl_X11_19 sh_0 rfl rfl rfl ?_
    refine ax_iload (pc' := 39) dX11_good_37 rfl rfl ?_
    refine ay_V1 (pc' := 42) (ce' := 1) (sl' := 6) (mc2 := 0) (ms2 := 0) (I2 := i_X3_doneBy) dX11_good_39 ml_X11_246 sh_3 (by decide) rfl rfl rfl rfl rfl rfl rfl rfl rfl (ac_M.imp (o_X3_doneBy _ x4 H) ?_)
    rintro _ _ ⟨r39, s39, rfl, rfl, H⟩
    refine ax_iand (pc' := 43) dX11_good_42 rfl ?_
    refine ay_S1 (pc' := 46) (ce' := 1) (sl' := 6) (mc2 := 0) (ms2 := 0) (I2 := i_J6_bitCount_0f7a4) dX11_good_43 ml_X11_376 rfl rfl rfl rfl rfl rfl rfl rfl (ac_M.imp (o_J6_bitCount_0f7a4 _ (f2 &&& r39) H) ?_)
    rintro _ _ ⟨r43, s43, rfl, rfl, H⟩
    refine ax_istore (pc' := 48) dX11_good_46 rfl rfl rfl ?_
    refine ax_iload_n (pc' := 49) dX11_good_48 rfl rfl ?_
    refine ax_aload_n (pc' := 50) dX11_good_49 rfl rfl ?_
    refine ax_getR (pc' := 53) dX11_good_50 fl_X11_19 sh_0 rfl rfl rfl ?_
    refine ax_iload (pc' := 55) dX11_good_53 rfl rfl ?_
    refine ay_V1 (pc' := 58) (ce' := 1) (sl' := 6) (mc2 := 0) (ms2 := 0) (I2 := i_X3_doneFor) dX11_good_55 ml_X11_249 sh_3 (by decide) rfl rfl rfl rfl rfl rfl rfl rfl rfl (ac_M.imp (o_X3_doneFor _ x4 H) ?_)
    rintro _ _ ⟨r55, s55, rfl, rfl, H⟩
    refine ax_iand (pc' := 59) dX11_good_58 rfl ?_
    refine ay_S1 (pc' := 62) (ce' := 1) (sl' := 6) (mc2 := 0) (ms2 := 0) (I2 := i_J6_bitCount_0f7a4) dX11_good_59 ml_X11_376 rfl rfl rfl rfl rfl rfl rfl rfl (ac_M.imp (o_J6_bitCount_0f7a4 _ (f2 &&& r55) H) ?_)
    rintro _ _ ⟨r59, s59, rfl, rfl, H⟩
    refine ax_istore (pc' := 64) dX11_good_62 rfl rfl rfl ?_
    refine ax_iload (pc' := 66) dX11_good_64 rfl rfl ?_
    refine ax_iload (pc' := 68) dX11_good_66 rfl rfl ?_
    refine ax_icmp_le (pc' := 71) (tgt := 75) dX11_good_68 (by decide) rfl (fun hc68 => ?_) (fun hc68 => ?_)
    · have H := H.1 hc68
      refine ax_iload (pc' := 77) dX11_good_75 rfl rfl ?_
      refine ax_iload (pc' := 79) dX11_good_77 rfl rfl ?_
      refine ax_icmp_ne (pc' := 82) (tgt := 86) dX11_good_79 (by decide) rfl (fun hc79 => ?_) (fun hc79 => ?_)
      · have H := H.1 hc79
        refine ax_iconst (pc' := 87) (v := (2 : Int32)) dX11_good_86 (by decide) rfl ?_
        refine ax_istore (pc' := 89) dX11_good_87 rfl rfl rfl ?_
        refine ax_iload (pc' := 91) dX11_good_89 rfl rfl ?_
        refine ax_iload_n (pc' := 92) dX11_good_91 rfl rfl ?_
        refine ax_icmp_ne (pc' := 95) (tgt := 102) dX11_good_92 (by decide) rfl (fun hc92 => ?_) (fun hc92 => ?_)
        · have H := H.1 hc92
          refine ax_iinc (pc' := 105) (v := (x4 + (1 : Int32))) dX11_good_102 rfl rfl rfl rfl rfl ?_
          refine ax_goto (tgt := 20) dX11_good_105 (by decide) ?_
          refine ax_drop 5 rfl ?_
          refine ax_drop 6 rfl ?_
          refine ax_drop 7 rfl ?_
          exact H
        · have H := H.2 hc92
          refine ax_iload_n (pc' := 96) dX11_good_95 rfl rfl ?_
          refine ax_iconst (pc' := 97) (v := (1 : Int32)) dX11_good_96 (by decide) rfl ?_
          refine ax_iload (pc' := 99) dX11_good_97 rfl rfl ?_
          refine ax_ishl (pc' := 100) dX11_good_99 rfl ?_
          refine ax_ior (pc' := 101) dX11_good_100 rfl ?_
          refine ax_istore_n (pc' := 102) dX11_good_101 rfl rfl rfl ?_
          refine ax_iinc (pc' := 105) (v := (x4 + (1 : Int32))) dX11_good_102 rfl rfl rfl rfl rfl ?_
          refine ax_goto (tgt := 20) dX11_good_105 (by decide) ?_
          refine ax_drop 5 rfl ?_
          refine ax_drop 6 rfl ?_
          refine ax_drop 7 rfl ?_
          exact H
      · have H := H.2 hc79
        refine ax_iconst (pc' := 83) (v := (1 : Int32)) dX11_good_82 (by decide) rfl ?_
        refine ax_goto (tgt := 87) dX11_good_83 (by decide) ?_
        refine ax_istore (pc' := 89) dX11_good_87 rfl rfl rfl ?_
        refine ax_iload (pc' := 91) dX11_good_89 rfl rfl ?_
        refine ax_iload_n (pc' := 92) dX11_good_91 rfl rfl ?_
        refine ax_icmp_ne (pc' := 95) (tgt := 102) dX11_good_92 (by decide) rfl (fun hc92 => ?_) (fun hc92 => ?_)
        · have H := H.1 hc92
          refine ax_iinc (pc' := 105) (v := (x4 + (1 : Int32))) dX11_good_102 rfl rfl rfl rfl rfl ?_
          refine ax_goto (tgt := 20) dX11_good_105 (by decide) ?_
          refine ax_drop 5 rfl ?_
          refine ax_drop 6 rfl ?_
          refine ax_drop 7 rfl ?_
          exact H
        · have H := H.2 hc92
          refine ax_iload_n (pc' := 96) dX11_good_95 rfl rfl ?_
          refine ax_iconst (pc' := 97) (v := (1 : Int32)) dX11_good_96 (by decide) rfl ?_
          refine ax_iload (pc' := 99) dX11_good_97 rfl rfl ?_
          refine ax_ishl (pc' := 100) dX11_good_99 rfl ?_
          refine ax_ior (pc' := 101) dX11_good_100 rfl ?_
          refine ax_istore_n (pc' := 102) dX11_good_101 rfl rfl rfl ?_
          refine ax_iinc (pc' := 105) (v := (x4 + (1 : Int32))) dX11_good_102 rfl rfl rfl rfl rfl ?_
          refine ax_goto (tgt := 20) dX11_good_105 (by decide) ?_
          refine ax_drop 5 rfl ?_
          refine ax_drop 6 rfl ?_
          refine ax_drop 7 rfl ?_
          exact H
    · have H := H.2 hc68
      refine ax_iconst (pc' := 72) (v := (0 : Int32)) dX11_good_71 (by decide) rfl ?_
      refine ax_goto (tgt := 87) dX11_good_72 (by decide) ?_
      refine ax_istore (pc' := 89) dX11_good_87 rfl rfl rfl ?_
      refine ax_iload (pc' := 91) dX11_good_89 rfl rfl ?_
      refine ax_iload_n (pc' := 92) dX11_good_91 rfl rfl ?_
      refine ax_icmp_ne (pc' := 95) (tgt := 102) dX11_good_92 (by decide) rfl (fun hc92 => ?_) (fun hc92 => ?_)
      · have H := H.1 hc92
        refine ax_iinc (pc' := 105) (v := (x4 + (1 : Int32))) dX11_good_102 rfl rfl rfl rfl rfl ?_
        refine ax_goto (tgt := 20) dX11_good_105 (by decide) ?_
        refine ax_drop 5 rfl ?_
        refine ax_drop 6 rfl ?_
        refine ax_drop 7 rfl ?_
        exact H
      · have H := H.2 hc92
        refine ax_iload_n (pc' := 96) dX11_good_95 rfl rfl ?_
        refine ax_iconst (pc' := 97) (v := (1 : Int32)) dX11_good_96 (by decide) rfl ?_
        refine ax_iload (pc' := 99) dX11_good_97 rfl rfl ?_
        refine ax_ishl (pc' := 100) dX11_good_99 rfl ?_
        refine ax_ior (pc' := 101) dX11_good_100 rfl ?_
        refine ax_istore_n (pc' := 102) dX11_good_101 rfl rfl rfl ?_
        refine ax_iinc (pc' := 105) (v := (x4 + (1 : Int32))) dX11_good_102 rfl rfl rfl rfl rfl ?_
        refine ax_goto (tgt := 20) dX11_good_105 (by decide) ?_
        refine ax_drop 5 rfl ?_
        refine ax_drop 6 rfl ?_
        refine ax_drop 7 rfl ?_
        exact H
theorem o_X11_good {g : ac_G} {τ : Nat → Nat → Int64} (d : Nat) (p1 : Int32) {Q : Int32 → ac_m → Prop} {X : String → ac_m → Prop} {s : ac_m} (H : w_X11_good p1 Q X s) : ac_M g i_X11_good (d + 2) 1 6 [.ref 0, .int p1] (false, 586, SH, s, τ) (liIX τ Q X) := by
  refine ac_ofX (by decide +kernel) rfl rfl rfl ?_
  refine ax_aload_n (pc' := 1) dX11_good_0 rfl rfl ?_
  refine ax_iload_n (pc' := 2) dX11_good_1 rfl rfl ?_
  refine ax_iconst (pc' := 3) (v := (0 : Int32)) dX11_good_2 (by decide) rfl ?_
  refine ax_iconst (pc' := 4) (v := (2 : Int32)) dX11_good_3 (by decide) rfl ?_
  refine ay_V3 (pc' := 7) (ce' := 1) (sl' := 6) (mc2 := 1) (ms2 := 6) (I2 := i_X11_needWithin) dX11_good_4 ml_X11_120 sh_0 (by decide) rfl rfl rfl rfl rfl rfl rfl rfl rfl (ac_M.imp (o_X11_needWithin _ p1 (0 : Int32) (2 : Int32) H) ?_)
  rintro _ _ (⟨s4, rfl, rfl, H⟩ | ⟨E, s0, rfl, rfl, H⟩)
  rotate_left
  · exact Or.inr ⟨E, s0, rfl, rfl, H⟩
  refine ax_aload_n (pc' := 8) dX11_good_7 rfl rfl ?_
  refine ax_getR (pc' := 11) dX11_good_8 fl_X11_58 sh_0 rfl rfl rfl ?_
  refine ay_V0 (pc' := 14) (ce' := 1) (sl' := 6) (mc2 := 0) (ms2 := 0) (I2 := i_X5_thereBits) dX11_good_11 ml_X11_215 sh_42 (by decide) rfl rfl rfl rfl rfl rfl rfl rfl rfl (ac_M.imp (o_X5_thereBits _ 42 is_now H) ?_)
  rintro _ _ ⟨r11, s11, rfl, rfl, H⟩
  refine ax_istore_n (pc' := 15) dX11_good_14 rfl rfl rfl ?_
  refine ax_iconst (pc' := 16) (v := (0 : Int32)) dX11_good_15 (by decide) rfl ?_
  refine ax_istore_n (pc' := 17) dX11_good_16 rfl rfl rfl ?_
  refine ax_iconst (pc' := 18) (v := (0 : Int32)) dX11_good_17 (by decide) rfl ?_
  refine ax_istore (pc' := 20) dX11_good_18 rfl rfl rfl ?_
  refine ol_X11_good_20 d p1  _ _    H
theorem o_X11_kind {g : ac_G} {τ : Nat → Nat → Int64} (d : Nat) (p1 : Int32) {Q : Int32 → ac_m → Prop} {X : String → ac_m → Prop} {s : ac_m} (H : w_X11_kind p1 Q X s) : ac_M g i_X11_kind (d + 2) 1 6 [.ref 0, .int p1] (false, 586, SH, s, τ) (liIX τ Q X) := by
  refine ac_ofX (by decide +kernel) rfl rfl rfl ?_
  refine ax_aload_n (pc' := 1) dX11_kind_0 rfl rfl ?_
  refine ax_iload_n (pc' := 2) dX11_kind_1 rfl rfl ?_
  refine ax_iconst (pc' := 3) (v := (0 : Int32)) dX11_kind_2 (by decide) rfl ?_
  refine ax_iconst (pc' := 4) (v := (5 : Int32)) dX11_kind_3 (by decide) rfl ?_
  refine ay_V3 (pc' := 7) (ce' := 1) (sl' := 6) (mc2 := 1) (ms2 := 6) (I2 := i_X11_needWithin) dX11_kind_4 ml_X11_120 sh_0 (by decide) rfl rfl rfl rfl rfl rfl rfl rfl rfl (ac_M.imp (o_X11_needWithin _ p1 (0 : Int32) (5 : Int32) H) ?_)
  rintro _ _ (⟨s4, rfl, rfl, H⟩ | ⟨E, s0, rfl, rfl, H⟩)
  rotate_left
  · exact Or.inr ⟨E, s0, rfl, rfl, H⟩
  refine ax_aload_n (pc' := 8) dX11_kind_7 rfl rfl ?_
  refine ax_getR (pc' := 11) dX11_kind_8 fl_X11_58 sh_0 rfl rfl rfl ?_
  refine ay_V0 (pc' := 14) (ce' := 1) (sl' := 6) (mc2 := 0) (ms2 := 0) (I2 := i_X5_thereBits) dX11_kind_11 ml_X11_215 sh_42 (by decide) rfl rfl rfl rfl rfl rfl rfl rfl rfl (ac_M.imp (o_X5_thereBits _ 42 is_now H) ?_)
  rintro _ _ ⟨r11, s11, rfl, rfl, H⟩
  refine ax_aload_n (pc' := 15) dX11_kind_14 rfl rfl ?_
  refine ax_getR (pc' := 18) dX11_kind_15 fl_X11_19 sh_0 rfl rfl rfl ?_
  refine ax_iload_n (pc' := 19) dX11_kind_18 rfl rfl ?_
  refine ay_V1 (pc' := 22) (ce' := 1) (sl' := 6) (mc2 := 0) (ms2 := 0) (I2 := i_X3_ofKind) dX11_kind_19 ml_X11_381 sh_3 (by decide) rfl rfl rfl rfl rfl rfl rfl rfl rfl (ac_M.imp (o_X3_ofKind _ p1 H) ?_)
  rintro _ _ ⟨r19, s19, rfl, rfl, H⟩
  refine ax_iand (pc' := 23) dX11_kind_22 rfl ?_
  exact ax_iret dX11_kind_23 rfl rfl rfl (Or.inl ⟨_, _, rfl, rfl, H⟩)
theorem o_X11_driven {g : ac_G} {τ : Nat → Nat → Int64} (d : Nat)  {Q : Int32 → ac_m → Prop} {s : ac_m} (H : w_X11_driven  Q s) : ac_M g i_X11_driven (d + 1) 0 0 [.ref 0] (false, 586, SH, s, τ) (liI τ Q) := by
  refine ac_ofX (by decide +kernel) rfl rfl rfl ?_
  refine ax_aload_n (pc' := 1) dX11_driven_0 rfl rfl ?_
  refine ax_getR (pc' := 4) dX11_driven_1 fl_X11_58 sh_0 rfl rfl rfl ?_
  refine ay_V0 (pc' := 7) (ce' := 0) (sl' := 0) (mc2 := 0) (ms2 := 0) (I2 := i_X5_drivenBits) dX11_driven_4 ml_X11_384 sh_42 (by decide) rfl rfl rfl rfl rfl rfl rfl rfl rfl (ac_M.imp (o_X5_drivenBits _ 42 is_now H) ?_)
  rintro _ _ ⟨r4, s4, rfl, rfl, H⟩
  exact ax_iret dX11_driven_7 rfl rfl rfl ⟨_, _, rfl, rfl, H⟩
theorem o_X11_weighs {g : ac_G} {τ : Nat → Nat → Int64} (d : Nat) (p1 : Int32) (p2 : Int32) {Q : Int32 → ac_m → Prop} {X : String → ac_m → Prop} {s : ac_m} (H : w_X11_weighs p1 p2 Q X s) : ac_M g i_X11_weighs (d + 2) 2 12 [.ref 0, .int p1, .int p2] (false, 586, SH, s, τ) (liIX τ Q X) := by
  refine ac_ofX (by decide +kernel) rfl rfl rfl ?_
  refine ax_aload_n (pc' := 1) dX11_weighs_0 rfl rfl ?_
  refine ax_iload_n (pc' := 2) dX11_weighs_1 rfl rfl ?_
  refine ay_V1 (pc' := 5) (ce' := 1) (sl' := 6) (mc2 := 1) (ms2 := 6) (I2 := i_X11_needFolk) dX11_weighs_2 ml_X11_234 sh_0 (by decide) rfl rfl rfl rfl rfl rfl rfl rfl rfl (ac_M.imp (o_X11_needFolk _ p1 H) ?_)
  rintro _ _ (⟨s2, rfl, rfl, H⟩ | ⟨E, s0, rfl, rfl, H⟩)
  rotate_left
  · exact Or.inr ⟨E, s0, rfl, rfl, H⟩
  refine ax_aload_n (pc' := 6) dX11_weighs_5 rfl rfl ?_
  refine ax_iload_n (pc' := 7) dX11_weighs_6 rfl rfl ?_
  refine ax_iconst (pc' := 8) (v := (0 : Int32)) dX11_weighs_7 (by decide) rfl ?_
  refine ax_iconst (pc' := 9) (v := (1 : Int32)) dX11_weighs_8 (by decide) rfl ?_
  refine ay_V3 (pc' := 12) (ce' := 2) (sl' := 12) (mc2 := 1) (ms2 := 6) (I2 := i_X11_needWithin) dX11_weighs_9 ml_X11_120 sh_0 (by decide) rfl rfl rfl rfl rfl rfl rfl rfl rfl (ac_M.imp (o_X11_needWithin _ p2 (0 : Int32) (1 : Int32) H) ?_)
  rintro _ _ (⟨s9, rfl, rfl, H⟩ | ⟨E, s0, rfl, rfl, H⟩)
  rotate_left
  · exact Or.inr ⟨E, s0, rfl, rfl, H⟩
  refine ax_aload_n (pc' := 13) dX11_weighs_12 rfl rfl ?_
  refine ax_getR (pc' := 16) dX11_weighs_13 fl_X11_58 sh_0 rfl rfl rfl ?_
  refine ax_iload_n (pc' := 17) dX11_weighs_16 rfl rfl ?_
  refine ax_if_ne (pc' := 20) (tgt := 31) dX11_weighs_17 (by decide) rfl (fun hc17 => ?_) (fun hc17 => ?_)
  · have H := H.1 hc17
    refine ax_aload_n (pc' := 32) dX11_weighs_31 rfl rfl ?_
    refine ax_getR (pc' := 35) dX11_weighs_32 fl_X11_19 sh_0 rfl rfl rfl ?_
    refine ax_iload_n (pc' := 36) dX11_weighs_35 rfl rfl ?_
    refine ay_V1 (pc' := 39) (ce' := 2) (sl' := 12) (mc2 := 0) (ms2 := 0) (I2 := i_X3_doneFor) dX11_weighs_36 ml_X11_249 sh_3 (by decide) rfl rfl rfl rfl rfl rfl rfl rfl rfl (ac_M.imp (o_X3_doneFor _ p1 H) ?_)
    rintro _ _ ⟨r36, s36, rfl, rfl, H⟩
    refine ay_V1 (pc' := 42) (ce' := 2) (sl' := 12) (mc2 := 0) (ms2 := 0) (I2 := i_X5_weightOf) dX11_weighs_39 ml_X11_221 sh_42 (by decide) rfl rfl rfl rfl rfl rfl rfl rfl rfl (ac_M.imp (o_X5_weightOf _ 42 r36 is_now H) ?_)
    rintro _ _ ⟨r39, s39, rfl, rfl, H⟩
    exact ax_iret dX11_weighs_42 rfl rfl rfl (Or.inl ⟨_, _, rfl, rfl, H⟩)
  · have H := H.2 hc17
    refine ax_aload_n (pc' := 21) dX11_weighs_20 rfl rfl ?_
    refine ax_getR (pc' := 24) dX11_weighs_21 fl_X11_19 sh_0 rfl rfl rfl ?_
    refine ax_iload_n (pc' := 25) dX11_weighs_24 rfl rfl ?_
    refine ay_V1 (pc' := 28) (ce' := 2) (sl' := 12) (mc2 := 0) (ms2 := 0) (I2 := i_X3_doneBy) dX11_weighs_25 ml_X11_246 sh_3 (by decide) rfl rfl rfl rfl rfl rfl rfl rfl rfl (ac_M.imp (o_X3_doneBy _ p1 H) ?_)
    rintro _ _ ⟨r25, s25, rfl, rfl, H⟩
    refine ax_goto (tgt := 39) dX11_weighs_28 (by decide) ?_
    refine ay_V1 (pc' := 42) (ce' := 2) (sl' := 12) (mc2 := 0) (ms2 := 0) (I2 := i_X5_weightOf) dX11_weighs_39 ml_X11_221 sh_42 (by decide) rfl rfl rfl rfl rfl rfl rfl rfl rfl (ac_M.imp (o_X5_weightOf _ 42 r25 is_now H) ?_)
    rintro _ _ ⟨r39, s39, rfl, rfl, H⟩
    exact ax_iret dX11_weighs_42 rfl rfl rfl (Or.inl ⟨_, _, rfl, rfl, H⟩)
theorem o_X11_decade {g : ac_G} {τ : Nat → Nat → Int64} (d : Nat) (p1 : Int32) (p2 : Int32) (p3 : Int32) (p4 : Int32) {Q : Int32 → ac_m → Prop} {X : String → ac_m → Prop} {s : ac_m} (H : w_X11_decade p1 p2 p3 p4 Q X s) : ac_M g i_X11_decade (d + 6) 3 18 [.ref 0, .int p1, .int p2, .int p3, .int p4] (false, 586, SH, s, τ) (liIX τ Q X) := by
  refine ac_ofX (by decide +kernel) rfl rfl rfl ?_
  refine ax_aload_n (pc' := 1) dX11_decade_0 rfl rfl ?_
  refine ax_iload_n (pc' := 2) dX11_decade_1 rfl rfl ?_
  refine ax_iconst (pc' := 3) (v := (1 : Int32)) dX11_decade_2 (by decide) rfl ?_
  refine ax_bipush (pc' := 5) (v := (96 : Int32)) dX11_decade_3 (by decide) rfl ?_
  refine ay_V3 (pc' := 8) (ce' := 1) (sl' := 6) (mc2 := 1) (ms2 := 6) (I2 := i_X11_needWithin) dX11_decade_5 ml_X11_120 sh_0 (by decide) rfl rfl rfl rfl rfl rfl rfl rfl rfl (ac_M.imp (o_X11_needWithin _ p2 (1 : Int32) (96 : Int32) H) ?_)
  rintro _ _ (⟨s5, rfl, rfl, H⟩ | ⟨E, s0, rfl, rfl, H⟩)
  rotate_left
  · exact Or.inr ⟨E, s0, rfl, rfl, H⟩
  refine ax_aload_n (pc' := 9) dX11_decade_8 rfl rfl ?_
  refine ax_iload_n (pc' := 10) dX11_decade_9 rfl rfl ?_
  refine ax_iconst (pc' := 11) (v := (0 : Int32)) dX11_decade_10 (by decide) rfl ?_
  refine ax_bipush (pc' := 13) (v := (16 : Int32)) dX11_decade_11 (by decide) rfl ?_
  refine ay_V3 (pc' := 16) (ce' := 2) (sl' := 12) (mc2 := 1) (ms2 := 6) (I2 := i_X11_needWithin) dX11_decade_13 ml_X11_120 sh_0 (by decide) rfl rfl rfl rfl rfl rfl rfl rfl rfl (ac_M.imp (o_X11_needWithin _ p3 (0 : Int32) (16 : Int32) H) ?_)
  rintro _ _ (⟨s13, rfl, rfl, H⟩ | ⟨E, s0, rfl, rfl, H⟩)
  rotate_left
  · exact Or.inr ⟨E, s0, rfl, rfl, H⟩
  refine ax_aload_n (pc' := 17) dX11_decade_16 rfl rfl ?_
  refine ax_iload (pc' := 19) dX11_decade_17 rfl rfl ?_
  refine ax_iconst (pc' := 20) (v := (0 : Int32)) dX11_decade_19 (by decide) rfl ?_
  refine ax_iconst (pc' := 21) (v := (3 : Int32)) dX11_decade_20 (by decide) rfl ?_
  refine ay_V3 (pc' := 24) (ce' := 3) (sl' := 18) (mc2 := 1) (ms2 := 6) (I2 := i_X11_needWithin) dX11_decade_21 ml_X11_120 sh_0 (by decide) rfl rfl rfl rfl rfl rfl rfl rfl rfl (ac_M.imp (o_X11_needWithin _ p4 (0 : Int32) (3 : Int32) H) ?_)
  rintro _ _ (⟨s21, rfl, rfl, H⟩ | ⟨E, s0, rfl, rfl, H⟩)
  rotate_left
  · exact Or.inr ⟨E, s0, rfl, rfl, H⟩
  refine ax_aload_n (pc' := 25) dX11_decade_24 rfl rfl ?_
  refine ax_getR (pc' := 28) dX11_decade_25 fl_X11_95 sh_0 rfl rfl rfl ?_
  refine ax_iload_n (pc' := 29) dX11_decade_28 rfl rfl ?_
  refine ax_iload_n (pc' := 30) dX11_decade_29 rfl rfl ?_
  refine ax_iload_n (pc' := 31) dX11_decade_30 rfl rfl ?_
  refine ay_V3 (pc' := 34) (ce' := 3) (sl' := 18) (mc2 := 0) (ms2 := 0) (I2 := i_X1_pass) dX11_decade_31 ml_X11_387 sh_68 (by decide) rfl rfl rfl rfl rfl rfl rfl rfl rfl (ac_M.imp (o_X1_pass _ p1 p2 p3 H) ?_)
  rintro _ _ ⟨s31, rfl, rfl, H⟩
  refine ax_iload (pc' := 36) dX11_decade_34 rfl rfl ?_
  by_cases hk36_0 : p4 = (0 : Int32)
  · have H := H.1 hk36_0
    refine ax_tableIn (off := (28)) (tgt := 64) dX11_decade_36 (by rw [hk36_0]; decide) (by rw [hk36_0]; decide) (by rw [hk36_0]; rfl) (by decide) ?_
    refine ax_aload_n (pc' := 65) dX11_decade_64 rfl rfl ?_
    refine ax_getR (pc' := 68) dX11_decade_65 fl_X11_62 sh_0 rfl rfl rfl ?_
    refine ay_V0 (pc' := 71) (ce' := 3) (sl' := 18) (mc2 := 0) (ms2 := 0) (I2 := i_X5_allGrass) dX11_decade_68 ml_X11_218 sh_50 (by decide) rfl rfl rfl rfl rfl rfl rfl rfl rfl (ac_M.imp (o_X5_allGrass _ 50 is_trial H) ?_)
    rintro _ _ ⟨r68, s68, rfl, rfl, H⟩
    exact ax_iret dX11_decade_71 rfl rfl rfl (Or.inl ⟨_, _, rfl, rfl, H⟩)
  have H := H.2
  by_cases hk36_1 : p4 = (1 : Int32)
  · have H := H.1 hk36_1
    refine ax_tableIn (off := (36)) (tgt := 72) dX11_decade_36 (by rw [hk36_1]; decide) (by rw [hk36_1]; decide) (by rw [hk36_1]; rfl) (by decide) ?_
    refine ax_aload_n (pc' := 73) dX11_decade_72 rfl rfl ?_
    refine ax_getR (pc' := 76) dX11_decade_73 fl_X11_62 sh_0 rfl rfl rfl ?_
    refine ay_V0 (pc' := 79) (ce' := 3) (sl' := 18) (mc2 := 0) (ms2 := 0) (I2 := i_X5_thereBits) dX11_decade_76 ml_X11_215 sh_50 (by decide) rfl rfl rfl rfl rfl rfl rfl rfl rfl (ac_M.imp (o_X5_thereBits _ 50 is_trial H) ?_)
    rintro _ _ ⟨r76, s76, rfl, rfl, H⟩
    exact ax_iret dX11_decade_79 rfl rfl rfl (Or.inl ⟨_, _, rfl, rfl, H⟩)
  have H := H.2
  by_cases hk36_2 : p4 = (2 : Int32)
  · have H := H.1 hk36_2
    refine ax_tableIn (off := (44)) (tgt := 80) dX11_decade_36 (by rw [hk36_2]; decide) (by rw [hk36_2]; decide) (by rw [hk36_2]; rfl) (by decide) ?_
    refine ax_aload_n (pc' := 81) dX11_decade_80 rfl rfl ?_
    refine ax_getR (pc' := 84) dX11_decade_81 fl_X11_62 sh_0 rfl rfl rfl ?_
    refine ax_getI (pc' := 87) dX11_decade_84 fl_X11_228 sh_50 rfl rfl rfl ?_
    refine ax_aload_n (pc' := 88) dX11_decade_87 rfl rfl ?_
    refine ax_getR (pc' := 91) dX11_decade_88 fl_X11_58 sh_0 rfl rfl rfl ?_
    refine ax_getI (pc' := 94) dX11_decade_91 fl_X11_228 sh_42 rfl rfl rfl ?_
    refine ax_isub (pc' := 95) dX11_decade_94 rfl ?_
    exact ax_iret dX11_decade_95 rfl rfl rfl (Or.inl ⟨_, _, rfl, rfl, H⟩)
  have H := H.2
  have H := H ⟨hk36_0, hk36_1, hk36_2⟩
  have hq0 : p4.toInt ≠ 0 := ac_ne hk36_0
  have hq1 : p4.toInt ≠ 1 := ac_ne hk36_1
  have hq2 : p4.toInt ≠ 2 := ac_ne hk36_2
  refine ax_tableOut (tgt := 96) dX11_decade_36 (by omega) (by decide) ?_
  refine ax_aload_n (pc' := 97) dX11_decade_96 rfl rfl ?_
  refine ax_getR (pc' := 100) dX11_decade_97 fl_X11_62 sh_0 rfl rfl rfl ?_
  refine ax_aload_n (pc' := 101) dX11_decade_100 rfl rfl ?_
  refine ax_getR (pc' := 104) dX11_decade_101 fl_X11_62 sh_0 rfl rfl rfl ?_
  refine ay_V0 (pc' := 107) (ce' := 3) (sl' := 18) (mc2 := 0) (ms2 := 0) (I2 := i_X5_thereBits) dX11_decade_104 ml_X11_215 sh_50 (by decide) rfl rfl rfl rfl rfl rfl rfl rfl rfl (ac_M.imp (o_X5_thereBits _ 50 is_trial H) ?_)
  rintro _ _ ⟨r104, s104, rfl, rfl, H⟩
  refine ay_V1 (pc' := 110) (ce' := 3) (sl' := 18) (mc2 := 0) (ms2 := 0) (I2 := i_X5_weightOf) dX11_decade_107 ml_X11_221 sh_50 (by decide) rfl rfl rfl rfl rfl rfl rfl rfl rfl (ac_M.imp (o_X5_weightOf _ 50 r104 is_trial H) ?_)
  rintro _ _ ⟨r107, s107, rfl, rfl, H⟩
  exact ax_iret dX11_decade_110 rfl rfl rfl (Or.inl ⟨_, _, rfl, rfl, H⟩)
theorem ol_X11_span_60 {g : ac_G} {τ : Nat → Nat → Int64} (d : Nat) (p1 : Int32) (p2 : Int32) (p3 : Int32) (p4 : Int32) (p5 : Int32) (p6 : Int32) {Q : Int32 → ac_m → Prop} {X : String → ac_m → Prop}  (f1 : Int32) (f2 : Int32) (f3 : Int32) (f4 : Int32) (f5 : Int32) (f6 : Int32)  {x7 : Int32} {x8 : Int32} {x9 : Int32} {x10 : Int32} {s : ac_m} (H : l_X11_span_60 p1 p2 p3 p4 p5 p6 Q X  f1 f2 f3 f4 f5 f6  x7 x8 x9 x10 s) : ac_X g i_X11_span (d + 6) 5 30 (liIX τ Q X) 5 30 60 [some (.ref 0), some (.int f1), some (.int f2), some (.int f3), some (.int f4), some (.int f5), some (.int f6), some (.int x7), some (.int x8), some (.int x9), some (.int x10), none] [] (false, 586, SH, s, τ) := by
  refine H (fun x7 x8 x9 x10 s => ac_X g i_X11_span (d + 6) 5 30 (liIX τ Q X) 5 30 60 [some (.ref 0), some (.int f1), some (.int f2), some (.int f3), some (.int f4), some (.int f5), some (.int f6), some (.int x7), some (.int x8), some (.int x9), some (.int x10), none] [] (false, 586, SH, s, τ)) ?_
  intro x7 x8 x9 x10 s H
  refine ax_iload (pc' := 62) dX11_span_60 rfl rfl ?_
  refine ax_iload_n (pc' := 63) dX11_span_62 rfl rfl ?_
  refine ax_icmp_ge (pc' := 66) (tgt := 135) dX11_span_63 (by decide) rfl (fun hc63 => ?_) (fun hc63 => ?_)
  · have H := H.1 hc63
    refine ax_iload (pc' := 137) dX11_span_135 rfl rfl ?_
    refine ax_if_ne (pc' := 140) (tgt := 145) dX11_span_137 (by decide) rfl (fun hc137 => ?_) (fun hc137 => ?_)
    · have H := H.1 hc137
      refine ax_iload (pc' := 147) dX11_span_145 rfl rfl ?_
      refine ax_iconst (pc' := 148) (v := (1 : Int32)) dX11_span_147 (by decide) rfl ?_
      refine ax_icmp_ne (pc' := 151) (tgt := 156) dX11_span_148 (by decide) rfl (fun hc148 => ?_) (fun hc148 => ?_)
      · have H := H.1 hc148
        refine ax_iload (pc' := 158) dX11_span_156 rfl rfl ?_
        exact ax_iret dX11_span_158 rfl rfl rfl (Or.inl ⟨_, _, rfl, rfl, H⟩)
      · have H := H.2 hc148
        refine ax_iload (pc' := 153) dX11_span_151 rfl rfl ?_
        refine ax_goto (tgt := 158) dX11_span_153 (by decide) ?_
        exact ax_iret dX11_span_158 rfl rfl rfl (Or.inl ⟨_, _, rfl, rfl, H⟩)
    · have H := H.2 hc137
      refine ax_iload (pc' := 142) dX11_span_140 rfl rfl ?_
      refine ax_goto (tgt := 158) dX11_span_142 (by decide) ?_
      exact ax_iret dX11_span_158 rfl rfl rfl (Or.inl ⟨_, _, rfl, rfl, H⟩)
  · have H := H.2 hc63
    refine ax_aload_n (pc' := 67) dX11_span_66 rfl rfl ?_
    refine ax_getR (pc' := 70) dX11_span_67 fl_X11_95 sh_0 rfl rfl rfl ?_
    refine ax_iload_n (pc' := 71) dX11_span_70 rfl rfl ?_
    refine ax_iload (pc' := 73) dX11_span_71 rfl rfl ?_
    refine ax_iadd (pc' := 74) dX11_span_73 rfl ?_
    refine ax_iload_n (pc' := 75) dX11_span_74 rfl rfl ?_
    refine ax_iload (pc' := 77) dX11_span_75 rfl rfl ?_
    refine ay_V3 (pc' := 80) (ce' := 5) (sl' := 30) (mc2 := 0) (ms2 := 0) (I2 := i_X1_pass) dX11_span_77 ml_X11_387 sh_68 (by decide) rfl rfl rfl rfl rfl rfl rfl rfl rfl (ac_M.imp (o_X1_pass _ (f1 + x10) f3 f4 H) ?_)
    rintro _ _ ⟨s77, rfl, rfl, H⟩
    refine ax_aload_n (pc' := 81) dX11_span_80 rfl rfl ?_
    refine ax_getR (pc' := 84) dX11_span_81 fl_X11_62 sh_0 rfl rfl rfl ?_
    refine ay_V0 (pc' := 87) (ce' := 5) (sl' := 30) (mc2 := 0) (ms2 := 0) (I2 := i_X5_allGrass) dX11_span_84 ml_X11_218 sh_50 (by decide) rfl rfl rfl rfl rfl rfl rfl rfl rfl (ac_M.imp (o_X5_allGrass _ 50 is_trial H) ?_)
    rintro _ _ ⟨r84, s84, rfl, rfl, H⟩
    refine ax_istore (pc' := 89) dX11_span_87 rfl rfl rfl ?_
    refine ax_iload (pc' := 91) dX11_span_89 rfl rfl ?_
    refine ax_iload (pc' := 93) dX11_span_91 rfl rfl ?_
    refine ax_min (pc' := 96) dX11_span_93 mj_X11_152 mk_min.1 mk_min.2.1 mk_min.2.2 rfl rfl rfl rfl ?_
    refine ax_istore (pc' := 98) dX11_span_96 rfl rfl rfl ?_
    refine ax_iload (pc' := 100) dX11_span_98 rfl rfl ?_
    refine ax_iload (pc' := 102) dX11_span_100 rfl rfl ?_
    refine ax_max (pc' := 105) dX11_span_102 mj_X11_394 mk_max.1 mk_max.2.1 mk_max.2.2 rfl rfl rfl rfl ?_
    refine ax_istore (pc' := 107) dX11_span_105 rfl rfl rfl ?_
    refine ax_iload (pc' := 109) dX11_span_107 rfl rfl ?_
    refine ax_aload_n (pc' := 110) dX11_span_109 rfl rfl ?_
    refine ax_getR (pc' := 113) dX11_span_110 fl_X11_62 sh_0 rfl rfl rfl ?_
    refine ax_iload (pc' := 115) dX11_span_113 rfl rfl ?_
    refine ay_V1 (pc' := 118) (ce' := 5) (sl' := 30) (mc2 := 0) (ms2 := 0) (I2 := i_X5_grassOf) dX11_span_115 ml_X11_237 sh_50 (by decide) rfl rfl rfl rfl rfl rfl rfl rfl rfl (ac_M.imp (o_X5_grassOf _ 50 f6 is_trial H) ?_)
    rintro _ _ ⟨r115, s115, rfl, rfl, H⟩
    refine ax_if_ne (pc' := 121) (tgt := 125) dX11_span_118 (by decide) rfl (fun hc118 => ?_) (fun hc118 => ?_)
    · have H := H.1 hc118
      refine ax_iconst (pc' := 126) (v := (0 : Int32)) dX11_span_125 (by decide) rfl ?_
      refine ax_iadd (pc' := 127) dX11_span_126 rfl ?_
      refine ax_istore (pc' := 129) dX11_span_127 rfl rfl rfl ?_
      refine ax_iinc (pc' := 132) (v := (x10 + (1 : Int32))) dX11_span_129 rfl rfl rfl rfl rfl ?_
      refine ax_goto (tgt := 60) dX11_span_132 (by decide) ?_
      refine ax_drop 11 rfl ?_
      exact H
    · have H := H.2 hc118
      refine ax_iconst (pc' := 122) (v := (1 : Int32)) dX11_span_121 (by decide) rfl ?_
      refine ax_goto (tgt := 126) dX11_span_122 (by decide) ?_
      refine ax_iadd (pc' := 127) dX11_span_126 rfl ?_
      refine ax_istore (pc' := 129) dX11_span_127 rfl rfl rfl ?_
      refine ax_iinc (pc' := 132) (v := (x10 + (1 : Int32))) dX11_span_129 rfl rfl rfl rfl rfl ?_
      refine ax_goto (tgt := 60) dX11_span_132 (by decide) ?_
      refine ax_drop 11 rfl ?_
      exact H
theorem o_X11_span {g : ac_G} {τ : Nat → Nat → Int64} (d : Nat) (p1 : Int32) (p2 : Int32) (p3 : Int32) (p4 : Int32) (p5 : Int32) (p6 : Int32) {Q : Int32 → ac_m → Prop} {X : String → ac_m → Prop} {s : ac_m} (H : w_X11_span p1 p2 p3 p4 p5 p6 Q X s) : ac_M g i_X11_span (d + 6) 5 30 [.ref 0, .int p1, .int p2, .int p3, .int p4, .int p5, .int p6] (false, 586, SH, s, τ) (liIX τ Q X) := by
  refine ac_ofX (by decide +kernel) rfl rfl rfl ?_
  refine ax_aload_n (pc' := 1) dX11_span_0 rfl rfl ?_
  refine ax_iload_n (pc' := 2) dX11_span_1 rfl rfl ?_
  refine ax_iconst (pc' := 3) (v := (1 : Int32)) dX11_span_2 (by decide) rfl ?_
  refine ax_bipush (pc' := 5) (v := (20 : Int32)) dX11_span_3 (by decide) rfl ?_
  refine ay_V3 (pc' := 8) (ce' := 1) (sl' := 6) (mc2 := 1) (ms2 := 6) (I2 := i_X11_needWithin) dX11_span_5 ml_X11_120 sh_0 (by decide) rfl rfl rfl rfl rfl rfl rfl rfl rfl (ac_M.imp (o_X11_needWithin _ p2 (1 : Int32) (20 : Int32) H) ?_)
  rintro _ _ (⟨s5, rfl, rfl, H⟩ | ⟨E, s0, rfl, rfl, H⟩)
  rotate_left
  · exact Or.inr ⟨E, s0, rfl, rfl, H⟩
  refine ax_aload_n (pc' := 9) dX11_span_8 rfl rfl ?_
  refine ax_iload_n (pc' := 10) dX11_span_9 rfl rfl ?_
  refine ax_iconst (pc' := 11) (v := (1 : Int32)) dX11_span_10 (by decide) rfl ?_
  refine ax_bipush (pc' := 13) (v := (96 : Int32)) dX11_span_11 (by decide) rfl ?_
  refine ay_V3 (pc' := 16) (ce' := 2) (sl' := 12) (mc2 := 1) (ms2 := 6) (I2 := i_X11_needWithin) dX11_span_13 ml_X11_120 sh_0 (by decide) rfl rfl rfl rfl rfl rfl rfl rfl rfl (ac_M.imp (o_X11_needWithin _ p3 (1 : Int32) (96 : Int32) H) ?_)
  rintro _ _ (⟨s13, rfl, rfl, H⟩ | ⟨E, s0, rfl, rfl, H⟩)
  rotate_left
  · exact Or.inr ⟨E, s0, rfl, rfl, H⟩
  refine ax_aload_n (pc' := 17) dX11_span_16 rfl rfl ?_
  refine ax_iload (pc' := 19) dX11_span_17 rfl rfl ?_
  refine ax_iconst (pc' := 20) (v := (0 : Int32)) dX11_span_19 (by decide) rfl ?_
  refine ax_bipush (pc' := 22) (v := (16 : Int32)) dX11_span_20 (by decide) rfl ?_
  refine ay_V3 (pc' := 25) (ce' := 3) (sl' := 18) (mc2 := 1) (ms2 := 6) (I2 := i_X11_needWithin) dX11_span_22 ml_X11_120 sh_0 (by decide) rfl rfl rfl rfl rfl rfl rfl rfl rfl (ac_M.imp (o_X11_needWithin _ p4 (0 : Int32) (16 : Int32) H) ?_)
  rintro _ _ (⟨s22, rfl, rfl, H⟩ | ⟨E, s0, rfl, rfl, H⟩)
  rotate_left
  · exact Or.inr ⟨E, s0, rfl, rfl, H⟩
  refine ax_aload_n (pc' := 26) dX11_span_25 rfl rfl ?_
  refine ax_iload (pc' := 28) dX11_span_26 rfl rfl ?_
  refine ax_iconst (pc' := 29) (v := (0 : Int32)) dX11_span_28 (by decide) rfl ?_
  refine ax_iconst (pc' := 30) (v := (2 : Int32)) dX11_span_29 (by decide) rfl ?_
  refine ay_V3 (pc' := 33) (ce' := 4) (sl' := 24) (mc2 := 1) (ms2 := 6) (I2 := i_X11_needWithin) dX11_span_30 ml_X11_120 sh_0 (by decide) rfl rfl rfl rfl rfl rfl rfl rfl rfl (ac_M.imp (o_X11_needWithin _ p5 (0 : Int32) (2 : Int32) H) ?_)
  rintro _ _ (⟨s30, rfl, rfl, H⟩ | ⟨E, s0, rfl, rfl, H⟩)
  rotate_left
  · exact Or.inr ⟨E, s0, rfl, rfl, H⟩
  refine ax_aload_n (pc' := 34) dX11_span_33 rfl rfl ?_
  refine ax_aload_n (pc' := 35) dX11_span_34 rfl rfl ?_
  refine ax_getR (pc' := 38) dX11_span_35 fl_X11_19 sh_0 rfl rfl rfl ?_
  refine ax_iload (pc' := 40) dX11_span_38 rfl rfl ?_
  refine ay_V1 (pc' := 43) (ce' := 4) (sl' := 24) (mc2 := 0) (ms2 := 0) (I2 := i_X3_hasFolk) dX11_span_40 ml_X11_390 sh_3 (by decide) rfl rfl rfl rfl rfl rfl rfl rfl rfl (ac_M.imp (o_X3_hasFolk _ p6 H) ?_)
  rintro _ _ ⟨r40, s40, rfl, rfl, H⟩
  refine ay_V1 (pc' := 46) (ce' := 5) (sl' := 30) (mc2 := 1) (ms2 := 6) (I2 := i_X11_need) dX11_span_43 ml_X11_354 sh_0 (by decide) rfl rfl rfl rfl rfl rfl rfl rfl rfl (ac_M.imp (o_X11_need _ r40 H) ?_)
  rintro _ _ (⟨s43, rfl, rfl, H⟩ | ⟨E, s0, rfl, rfl, H⟩)
  rotate_left
  · exact Or.inr ⟨E, s0, rfl, rfl, H⟩
  refine ax_sipush (pc' := 49) (v := (594 : Int32)) dX11_span_46 (by decide) rfl ?_
  refine ax_istore (pc' := 51) dX11_span_49 rfl rfl rfl ?_
  refine ax_iconst (pc' := 52) (v := (0 : Int32)) dX11_span_51 (by decide) rfl ?_
  refine ax_istore (pc' := 54) dX11_span_52 rfl rfl rfl ?_
  refine ax_iconst (pc' := 55) (v := (0 : Int32)) dX11_span_54 (by decide) rfl ?_
  refine ax_istore (pc' := 57) dX11_span_55 rfl rfl rfl ?_
  refine ax_iconst (pc' := 58) (v := (0 : Int32)) dX11_span_57 (by decide) rfl ?_
  refine ax_istore (pc' := 60) dX11_span_58 rfl rfl rfl ?_
  refine ol_X11_span_60 d p1 p2 p3 p4 p5 p6  _ _ _ _ _ _    H
theorem o_X11_status {g : ac_G} {τ : Nat → Nat → Int64} (d : Nat) (p1 : Int32) {Q : Int32 → ac_m → Prop} {s : ac_m} (H : w_X11_status p1 Q s) : ac_M g i_X11_status d 0 0 [.ref 0, .int p1] (false, 586, SH, s, τ) (liI τ Q) := by
  refine ac_ofX (by decide +kernel) rfl rfl rfl ?_
  refine ax_iload_n (pc' := 1) dX11_status_0 rfl rfl ?_
  refine ax_if_ne (pc' := 4) (tgt := 11) dX11_status_1 (by decide) rfl (fun hc1 => ?_) (fun hc1 => ?_)
  · have H := H.1 hc1
    refine ax_iload_n (pc' := 12) dX11_status_11 rfl rfl ?_
    refine ax_iconst (pc' := 13) (v := (1 : Int32)) dX11_status_12 (by decide) rfl ?_
    refine ax_icmp_ne (pc' := 16) (tgt := 23) dX11_status_13 (by decide) rfl (fun hc13 => ?_) (fun hc13 => ?_)
    · have H := H.1 hc13
      refine ax_iconst (pc' := 24) (v := (-1 : Int32)) dX11_status_23 (by decide) rfl ?_
      exact ax_iret dX11_status_24 rfl rfl rfl ⟨_, _, rfl, rfl, H⟩
    · have H := H.2 hc13
      refine ax_aload_n (pc' := 17) dX11_status_16 rfl rfl ?_
      refine ax_getI (pc' := 20) dX11_status_17 fl_X11_106 sh_0 rfl rfl rfl ?_
      refine ax_goto (tgt := 24) dX11_status_20 (by decide) ?_
      exact ax_iret dX11_status_24 rfl rfl rfl ⟨_, _, rfl, rfl, H⟩
  · have H := H.2 hc1
    refine ax_aload_n (pc' := 5) dX11_status_4 rfl rfl ?_
    refine ax_getI (pc' := 8) dX11_status_5 fl_X11_103 sh_0 rfl rfl rfl ?_
    refine ax_goto (tgt := 24) dX11_status_8 (by decide) ?_
    exact ax_iret dX11_status_24 rfl rfl rfl ⟨_, _, rfl, rfl, H⟩
theorem o_X11_count {g : ac_G} {τ : Nat → Nat → Int64} (d : Nat) (p1 : Int32) {Q : Int32 → ac_m → Prop} {s : ac_m} (H : w_X11_count p1 Q s) : ac_M g i_X11_count d 0 0 [.ref 0, .int p1] (false, 586, SH, s, τ) (liI τ Q) := by
  refine ac_ofX (by decide +kernel) rfl rfl rfl ?_
  refine ax_iload_n (pc' := 1) dX11_count_0 rfl rfl ?_
  by_cases hk1_0 : p1 = (0 : Int32)
  · have H := H.1 hk1_0
    refine ax_tableIn (off := (27)) (tgt := 28) dX11_count_1 (by rw [hk1_0]; decide) (by rw [hk1_0]; decide) (by rw [hk1_0]; rfl) (by decide) ?_
    refine ax_aload_n (pc' := 29) dX11_count_28 rfl rfl ?_
    refine ax_getR (pc' := 32) dX11_count_29 fl_X11_68 sh_0 rfl rfl rfl ?_
    refine ax_getI (pc' := 35) dX11_count_32 fl_X11_200 sh_58 rfl rfl rfl ?_
    exact ax_iret dX11_count_35 rfl rfl rfl ⟨_, _, rfl, rfl, H⟩
  have H := H.2
  by_cases hk1_1 : p1 = (1 : Int32)
  · have H := H.1 hk1_1
    refine ax_tableIn (off := (35)) (tgt := 36) dX11_count_1 (by rw [hk1_1]; decide) (by rw [hk1_1]; decide) (by rw [hk1_1]; rfl) (by decide) ?_
    refine ax_aload_n (pc' := 37) dX11_count_36 rfl rfl ?_
    refine ax_getR (pc' := 40) dX11_count_37 fl_X11_12 sh_0 rfl rfl rfl ?_
    refine ax_getI (pc' := 43) dX11_count_40 fl_X11_117 sh_1 rfl rfl rfl ?_
    exact ax_iret dX11_count_43 rfl rfl rfl ⟨_, _, rfl, rfl, H⟩
  have H := H.2
  by_cases hk1_2 : p1 = (2 : Int32)
  · have H := H.1 hk1_2
    refine ax_tableIn (off := (43)) (tgt := 44) dX11_count_1 (by rw [hk1_2]; decide) (by rw [hk1_2]; decide) (by rw [hk1_2]; rfl) (by decide) ?_
    refine ax_aload_n (pc' := 45) dX11_count_44 rfl rfl ?_
    refine ax_getR (pc' := 48) dX11_count_45 fl_X11_68 sh_0 rfl rfl rfl ?_
    refine ax_getI (pc' := 51) dX11_count_48 fl_X11_162 sh_58 rfl rfl rfl ?_
    exact ax_iret dX11_count_51 rfl rfl rfl ⟨_, _, rfl, rfl, H⟩
  have H := H.2
  have H := H ⟨hk1_0, hk1_1, hk1_2⟩
  have hq0 : p1.toInt ≠ 0 := ac_ne hk1_0
  have hq1 : p1.toInt ≠ 1 := ac_ne hk1_1
  have hq2 : p1.toInt ≠ 2 := ac_ne hk1_2
  refine ax_tableOut (tgt := 52) dX11_count_1 (by omega) (by decide) ?_
  refine ax_iconst (pc' := 53) (v := (-1 : Int32)) dX11_count_52 (by decide) rfl ?_
  exact ax_iret dX11_count_53 rfl rfl rfl ⟨_, _, rfl, rfl, H⟩
