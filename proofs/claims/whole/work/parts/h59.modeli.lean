theorem o_X12_isDecade {g : ac_G} {τ : Nat → Nat → Int64} (d : Nat) (p1 : Int32) (p2 : Int32) {Q : Int32 → ac_m → Prop} {s : ac_m} (H : w_X12_isDecade p1 p2 Q s) : ac_M g i_X12_isDecade (d + 1) 0 0 [.int p1, .int p2] (false, 586, SH, s, τ) (liI τ Q) := by
  refine ac_ofX (by decide +kernel) rfl rfl rfl ?_
  refine ax_iload_n (pc' := 1) dX12_isDecade_0 rfl rfl ?_
  refine ax_iconst (pc' := 2) (v := (1 : Int32)) dX12_isDecade_1 (by decide) rfl ?_
  refine ax_bipush (pc' := 4) (v := (96 : Int32)) dX12_isDecade_2 (by decide) rfl ?_
  refine ay_S3 (pc' := 7) (ce' := 0) (sl' := 0) (mc2 := 0) (ms2 := 0) (I2 := i_X12_in) dX12_isDecade_4 ml_X12_138 rfl rfl rfl rfl rfl rfl rfl rfl (ac_M.imp (o_X12_in _ p1 (1 : Int32) (96 : Int32) H) ?_)
  rintro _ _ ⟨r4, s4, rfl, rfl, H⟩
  refine ax_if_eq (pc' := 10) (tgt := 24) dX12_isDecade_7 (by decide) rfl (fun hc7 => ?_) (fun hc7 => ?_)
  · have H := H.1 hc7
    refine ax_iconst (pc' := 25) (v := (0 : Int32)) dX12_isDecade_24 (by decide) rfl ?_
    exact ax_zret dX12_isDecade_25 rfl rfl rfl rfl ⟨_, _, rfl, rfl, H⟩
  · have H := H.2 hc7
    refine ax_iload_n (pc' := 11) dX12_isDecade_10 rfl rfl ?_
    refine ax_iconst (pc' := 12) (v := (0 : Int32)) dX12_isDecade_11 (by decide) rfl ?_
    refine ax_bipush (pc' := 14) (v := (16 : Int32)) dX12_isDecade_12 (by decide) rfl ?_
    refine ay_S3 (pc' := 17) (ce' := 0) (sl' := 0) (mc2 := 0) (ms2 := 0) (I2 := i_X12_in) dX12_isDecade_14 ml_X12_138 rfl rfl rfl rfl rfl rfl rfl rfl (ac_M.imp (o_X12_in _ p2 (0 : Int32) (16 : Int32) H) ?_)
    rintro _ _ ⟨r14, s14, rfl, rfl, H⟩
    refine ax_if_eq (pc' := 20) (tgt := 24) dX12_isDecade_17 (by decide) rfl (fun hc17 => ?_) (fun hc17 => ?_)
    · have H := H.1 hc17
      refine ax_iconst (pc' := 25) (v := (0 : Int32)) dX12_isDecade_24 (by decide) rfl ?_
      exact ax_zret dX12_isDecade_25 rfl rfl rfl rfl ⟨_, _, rfl, rfl, H⟩
    · have H := H.2 hc17
      refine ax_iconst (pc' := 21) (v := (1 : Int32)) dX12_isDecade_20 (by decide) rfl ?_
      refine ax_goto (tgt := 25) dX12_isDecade_21 (by decide) ?_
      exact ax_zret dX12_isDecade_25 rfl rfl rfl rfl ⟨_, _, rfl, rfl, H⟩
theorem o_X12_decade {g : ac_G} {τ : Nat → Nat → Int64} (d : Nat) (p1 : Int32) (p2 : Int32) (p3 : Int32) (p4 : Int32) {Q : Int32 → ac_m → Prop} {s : ac_m} (H : w_X12_decade p1 p2 p3 p4 Q s) : ac_M g i_X12_decade (d + 7) 0 0 [.ref 69, .int p1, .int p2, .int p3, .int p4] (false, 586, SH, s, τ) (liI τ Q) := by
  refine ac_ofX (by decide +kernel) rfl rfl rfl ?_
  refine ax_aload_n (pc' := 1) dX12_decade_0 rfl rfl ?_
  refine ax_iconst (pc' := 2) (v := (0 : Int32)) dX12_decade_1 (by decide) rfl ?_
  refine ax_putI (pc' := 5) dX12_decade_2 fp_X12_104 sh_69 rfl rfl rfl ?_
  refine ax_aload_n (pc' := 6) dX12_decade_5 rfl rfl ?_
  refine ax_iload_n (pc' := 7) dX12_decade_6 rfl rfl ?_
  refine ax_iload_n (pc' := 8) dX12_decade_7 rfl rfl ?_
  refine ay_S2 (pc' := 11) (ce' := 0) (sl' := 0) (mc2 := 0) (ms2 := 0) (I2 := i_X12_isDecade) dX12_decade_8 ml_X12_411 rfl rfl rfl rfl rfl rfl rfl rfl (ac_M.imp (o_X12_isDecade _ p2 p3 H) ?_)
  rintro _ _ ⟨r8, s8, rfl, rfl, H⟩
  refine ax_if_eq (pc' := 14) (tgt := 24) dX12_decade_11 (by decide) rfl (fun hc11 => ?_) (fun hc11 => ?_)
  · have H := H.1 hc11
    refine ax_iconst (pc' := 25) (v := (1 : Int32)) dX12_decade_24 (by decide) rfl ?_
    refine ax_goto (tgt := 29) dX12_decade_25 (by decide) ?_
    refine ax_iconst (pc' := 30) (v := (1 : Int32)) dX12_decade_29 (by decide) rfl ?_
    refine ax_iconst (pc' := 31) (v := (1 : Int32)) dX12_decade_30 (by decide) rfl ?_
    refine ay_V3 (pc' := 34) (ce' := 0) (sl' := 0) (mc2 := 0) (ms2 := 0) (I2 := i_X12_bad) dX12_decade_31 ml_X12_183 sh_69 (by decide) rfl rfl rfl rfl rfl rfl rfl rfl rfl (ac_M.imp (o_X12_bad _ (1 : Int32) (1 : Int32) (1 : Int32) H) ?_)
    rintro _ _ ⟨r31, s31, rfl, rfl, H⟩
    refine ax_if_eq (pc' := 37) (tgt := 39) dX12_decade_34 (by decide) rfl (fun hc34 => ?_) (fun hc34 => ?_)
    · have H := H.1 hc34
      refine ax_aload_n (pc' := 40) dX12_decade_39 rfl rfl ?_
      refine ax_iload_n (pc' := 41) dX12_decade_40 rfl rfl ?_
      refine ax_iload_n (pc' := 42) dX12_decade_41 rfl rfl ?_
      refine ax_iload_n (pc' := 43) dX12_decade_42 rfl rfl ?_
      refine ay_V3 (pc' := 46) (ce' := 0) (sl' := 0) (mc2 := 0) (ms2 := 0) (I2 := i_X12_decadeBy) dX12_decade_43 ml_X12_414 sh_69 (by decide) rfl rfl rfl rfl rfl rfl rfl rfl rfl (ac_M.imp (o_X12_decadeBy _ p1 p2 p3 H) ?_)
      rintro _ _ ⟨s43, rfl, rfl, H⟩
      refine ax_iload (pc' := 48) dX12_decade_46 rfl rfl ?_
      refine ax_if_ne (pc' := 51) (tgt := 62) dX12_decade_48 (by decide) rfl (fun hc48 => ?_) (fun hc48 => ?_)
      · have H := H.1 hc48
        refine ax_iload (pc' := 64) dX12_decade_62 rfl rfl ?_
        refine ax_iconst (pc' := 65) (v := (1 : Int32)) dX12_decade_64 (by decide) rfl ?_
        refine ax_icmp_ne (pc' := 68) (tgt := 78) dX12_decade_65 (by decide) rfl (fun hc65 => ?_) (fun hc65 => ?_)
        · have H := H.1 hc65
          refine ax_iload (pc' := 80) dX12_decade_78 rfl rfl ?_
          refine ax_iconst (pc' := 81) (v := (2 : Int32)) dX12_decade_80 (by decide) rfl ?_
          refine ax_icmp_ne (pc' := 84) (tgt := 102) dX12_decade_81 (by decide) rfl (fun hc81 => ?_) (fun hc81 => ?_)
          · have H := H.1 hc81
            refine ax_aload_n (pc' := 103) dX12_decade_102 rfl rfl ?_
            refine ax_getR (pc' := 106) dX12_decade_103 fl_X12_70 sh_69 rfl rfl rfl ?_
            refine ay_S1 (pc' := 109) (ce' := 0) (sl' := 0) (mc2 := 0) (ms2 := 0) (I2 := i_X12_weightIn) dX12_decade_106 ml_X12_342 rfl rfl rfl rfl rfl rfl rfl rfl (ac_M.imp (o_X12_weightIn _ 557 sh_557 rfl H) ?_)
            rintro _ _ ⟨r106, s106, rfl, rfl, H⟩
            exact ax_iret dX12_decade_109 rfl rfl rfl ⟨_, _, rfl, rfl, H⟩
          · have H := H.2 hc81
            refine ax_aload_n (pc' := 85) dX12_decade_84 rfl rfl ?_
            refine ax_getR (pc' := 88) dX12_decade_85 fl_X12_70 sh_69 rfl rfl rfl ?_
            refine ax_bipush (pc' := 90) (v := (81 : Int32)) dX12_decade_88 (by decide) rfl ?_
            refine ax_iald (pc' := 91) dX12_decade_90 sh_557 (ac_in (by decide)) rfl rfl ?_
            refine ax_aload_n (pc' := 92) dX12_decade_91 rfl rfl ?_
            refine ax_getR (pc' := 95) dX12_decade_92 fl_X12_67 sh_69 rfl rfl rfl ?_
            refine ax_bipush (pc' := 97) (v := (81 : Int32)) dX12_decade_95 (by decide) rfl ?_
            refine ax_iald (pc' := 98) dX12_decade_97 sh_556 (ac_in (by decide)) rfl rfl ?_
            refine ax_isub (pc' := 99) dX12_decade_98 rfl ?_
            refine ax_goto (tgt := 109) dX12_decade_99 (by decide) ?_
            exact ax_iret dX12_decade_109 rfl rfl rfl ⟨_, _, rfl, rfl, H⟩
        · have H := H.2 hc65
          refine ax_aload_n (pc' := 69) dX12_decade_68 rfl rfl ?_
          refine ax_getR (pc' := 72) dX12_decade_69 fl_X12_70 sh_69 rfl rfl rfl ?_
          refine ay_S1 (pc' := 75) (ce' := 0) (sl' := 0) (mc2 := 0) (ms2 := 0) (I2 := i_X12_there) dX12_decade_72 ml_X12_335 rfl rfl rfl rfl rfl rfl rfl rfl (ac_M.imp (o_X12_there _ 557 sh_557 rfl H) ?_)
          rintro _ _ ⟨r72, s72, rfl, rfl, H⟩
          refine ax_goto (tgt := 109) dX12_decade_75 (by decide) ?_
          exact ax_iret dX12_decade_109 rfl rfl rfl ⟨_, _, rfl, rfl, H⟩
      · have H := H.2 hc48
        refine ax_aload_n (pc' := 52) dX12_decade_51 rfl rfl ?_
        refine ax_aload_n (pc' := 53) dX12_decade_52 rfl rfl ?_
        refine ax_getR (pc' := 56) dX12_decade_53 fl_X12_70 sh_69 rfl rfl rfl ?_
        refine ay_V1 (pc' := 59) (ce' := 0) (sl' := 0) (mc2 := 0) (ms2 := 0) (I2 := i_X12_grassIn) dX12_decade_56 ml_X12_339 sh_69 (by decide) rfl rfl rfl rfl rfl rfl rfl rfl rfl (ac_M.imp (o_X12_grassIn _ 557 sh_557 rfl H) ?_)
        rintro _ _ ⟨r56, s56, rfl, rfl, H⟩
        refine ax_goto (tgt := 109) dX12_decade_59 (by decide) ?_
        exact ax_iret dX12_decade_109 rfl rfl rfl ⟨_, _, rfl, rfl, H⟩
    · have H := H.2 hc34
      refine ax_iconst (pc' := 38) (v := (0 : Int32)) dX12_decade_37 (by decide) rfl ?_
      exact ax_iret dX12_decade_38 rfl rfl rfl ⟨_, _, rfl, rfl, H⟩
  · have H := H.2 hc11
    refine ax_iload (pc' := 16) dX12_decade_14 rfl rfl ?_
    refine ax_iconst (pc' := 17) (v := (0 : Int32)) dX12_decade_16 (by decide) rfl ?_
    refine ax_iconst (pc' := 18) (v := (3 : Int32)) dX12_decade_17 (by decide) rfl ?_
    refine ay_S3 (pc' := 21) (ce' := 0) (sl' := 0) (mc2 := 0) (ms2 := 0) (I2 := i_X12_in) dX12_decade_18 ml_X12_138 rfl rfl rfl rfl rfl rfl rfl rfl (ac_M.imp (o_X12_in _ p4 (0 : Int32) (3 : Int32) H) ?_)
    rintro _ _ ⟨r18, s18, rfl, rfl, H⟩
    refine ax_if_ne (pc' := 24) (tgt := 28) dX12_decade_21 (by decide) rfl (fun hc21 => ?_) (fun hc21 => ?_)
    · have H := H.1 hc21
      refine ax_iconst (pc' := 29) (v := (0 : Int32)) dX12_decade_28 (by decide) rfl ?_
      refine ax_iconst (pc' := 30) (v := (1 : Int32)) dX12_decade_29 (by decide) rfl ?_
      refine ax_iconst (pc' := 31) (v := (1 : Int32)) dX12_decade_30 (by decide) rfl ?_
      refine ay_V3 (pc' := 34) (ce' := 0) (sl' := 0) (mc2 := 0) (ms2 := 0) (I2 := i_X12_bad) dX12_decade_31 ml_X12_183 sh_69 (by decide) rfl rfl rfl rfl rfl rfl rfl rfl rfl (ac_M.imp (o_X12_bad _ (0 : Int32) (1 : Int32) (1 : Int32) H) ?_)
      rintro _ _ ⟨r31, s31, rfl, rfl, H⟩
      refine ax_if_eq (pc' := 37) (tgt := 39) dX12_decade_34 (by decide) rfl (fun hc34 => ?_) (fun hc34 => ?_)
      · have H := H.1 hc34
        refine ax_aload_n (pc' := 40) dX12_decade_39 rfl rfl ?_
        refine ax_iload_n (pc' := 41) dX12_decade_40 rfl rfl ?_
        refine ax_iload_n (pc' := 42) dX12_decade_41 rfl rfl ?_
        refine ax_iload_n (pc' := 43) dX12_decade_42 rfl rfl ?_
        refine ay_V3 (pc' := 46) (ce' := 0) (sl' := 0) (mc2 := 0) (ms2 := 0) (I2 := i_X12_decadeBy) dX12_decade_43 ml_X12_414 sh_69 (by decide) rfl rfl rfl rfl rfl rfl rfl rfl rfl (ac_M.imp (o_X12_decadeBy _ p1 p2 p3 H) ?_)
        rintro _ _ ⟨s43, rfl, rfl, H⟩
        refine ax_iload (pc' := 48) dX12_decade_46 rfl rfl ?_
        refine ax_if_ne (pc' := 51) (tgt := 62) dX12_decade_48 (by decide) rfl (fun hc48 => ?_) (fun hc48 => ?_)
        · have H := H.1 hc48
          refine ax_iload (pc' := 64) dX12_decade_62 rfl rfl ?_
          refine ax_iconst (pc' := 65) (v := (1 : Int32)) dX12_decade_64 (by decide) rfl ?_
          refine ax_icmp_ne (pc' := 68) (tgt := 78) dX12_decade_65 (by decide) rfl (fun hc65 => ?_) (fun hc65 => ?_)
          · have H := H.1 hc65
            refine ax_iload (pc' := 80) dX12_decade_78 rfl rfl ?_
            refine ax_iconst (pc' := 81) (v := (2 : Int32)) dX12_decade_80 (by decide) rfl ?_
            refine ax_icmp_ne (pc' := 84) (tgt := 102) dX12_decade_81 (by decide) rfl (fun hc81 => ?_) (fun hc81 => ?_)
            · have H := H.1 hc81
              refine ax_aload_n (pc' := 103) dX12_decade_102 rfl rfl ?_
              refine ax_getR (pc' := 106) dX12_decade_103 fl_X12_70 sh_69 rfl rfl rfl ?_
              refine ay_S1 (pc' := 109) (ce' := 0) (sl' := 0) (mc2 := 0) (ms2 := 0) (I2 := i_X12_weightIn) dX12_decade_106 ml_X12_342 rfl rfl rfl rfl rfl rfl rfl rfl (ac_M.imp (o_X12_weightIn _ 557 sh_557 rfl H) ?_)
              rintro _ _ ⟨r106, s106, rfl, rfl, H⟩
              exact ax_iret dX12_decade_109 rfl rfl rfl ⟨_, _, rfl, rfl, H⟩
            · have H := H.2 hc81
              refine ax_aload_n (pc' := 85) dX12_decade_84 rfl rfl ?_
              refine ax_getR (pc' := 88) dX12_decade_85 fl_X12_70 sh_69 rfl rfl rfl ?_
              refine ax_bipush (pc' := 90) (v := (81 : Int32)) dX12_decade_88 (by decide) rfl ?_
              refine ax_iald (pc' := 91) dX12_decade_90 sh_557 (ac_in (by decide)) rfl rfl ?_
              refine ax_aload_n (pc' := 92) dX12_decade_91 rfl rfl ?_
              refine ax_getR (pc' := 95) dX12_decade_92 fl_X12_67 sh_69 rfl rfl rfl ?_
              refine ax_bipush (pc' := 97) (v := (81 : Int32)) dX12_decade_95 (by decide) rfl ?_
              refine ax_iald (pc' := 98) dX12_decade_97 sh_556 (ac_in (by decide)) rfl rfl ?_
              refine ax_isub (pc' := 99) dX12_decade_98 rfl ?_
              refine ax_goto (tgt := 109) dX12_decade_99 (by decide) ?_
              exact ax_iret dX12_decade_109 rfl rfl rfl ⟨_, _, rfl, rfl, H⟩
          · have H := H.2 hc65
            refine ax_aload_n (pc' := 69) dX12_decade_68 rfl rfl ?_
            refine ax_getR (pc' := 72) dX12_decade_69 fl_X12_70 sh_69 rfl rfl rfl ?_
            refine ay_S1 (pc' := 75) (ce' := 0) (sl' := 0) (mc2 := 0) (ms2 := 0) (I2 := i_X12_there) dX12_decade_72 ml_X12_335 rfl rfl rfl rfl rfl rfl rfl rfl (ac_M.imp (o_X12_there _ 557 sh_557 rfl H) ?_)
            rintro _ _ ⟨r72, s72, rfl, rfl, H⟩
            refine ax_goto (tgt := 109) dX12_decade_75 (by decide) ?_
            exact ax_iret dX12_decade_109 rfl rfl rfl ⟨_, _, rfl, rfl, H⟩
        · have H := H.2 hc48
          refine ax_aload_n (pc' := 52) dX12_decade_51 rfl rfl ?_
          refine ax_aload_n (pc' := 53) dX12_decade_52 rfl rfl ?_
          refine ax_getR (pc' := 56) dX12_decade_53 fl_X12_70 sh_69 rfl rfl rfl ?_
          refine ay_V1 (pc' := 59) (ce' := 0) (sl' := 0) (mc2 := 0) (ms2 := 0) (I2 := i_X12_grassIn) dX12_decade_56 ml_X12_339 sh_69 (by decide) rfl rfl rfl rfl rfl rfl rfl rfl rfl (ac_M.imp (o_X12_grassIn _ 557 sh_557 rfl H) ?_)
          rintro _ _ ⟨r56, s56, rfl, rfl, H⟩
          refine ax_goto (tgt := 109) dX12_decade_59 (by decide) ?_
          exact ax_iret dX12_decade_109 rfl rfl rfl ⟨_, _, rfl, rfl, H⟩
      · have H := H.2 hc34
        refine ax_iconst (pc' := 38) (v := (0 : Int32)) dX12_decade_37 (by decide) rfl ?_
        exact ax_iret dX12_decade_38 rfl rfl rfl ⟨_, _, rfl, rfl, H⟩
    · have H := H.2 hc21
      refine ax_iconst (pc' := 25) (v := (1 : Int32)) dX12_decade_24 (by decide) rfl ?_
      refine ax_goto (tgt := 29) dX12_decade_25 (by decide) ?_
      refine ax_iconst (pc' := 30) (v := (1 : Int32)) dX12_decade_29 (by decide) rfl ?_
      refine ax_iconst (pc' := 31) (v := (1 : Int32)) dX12_decade_30 (by decide) rfl ?_
      refine ay_V3 (pc' := 34) (ce' := 0) (sl' := 0) (mc2 := 0) (ms2 := 0) (I2 := i_X12_bad) dX12_decade_31 ml_X12_183 sh_69 (by decide) rfl rfl rfl rfl rfl rfl rfl rfl rfl (ac_M.imp (o_X12_bad _ (1 : Int32) (1 : Int32) (1 : Int32) H) ?_)
      rintro _ _ ⟨r31, s31, rfl, rfl, H⟩
      refine ax_if_eq (pc' := 37) (tgt := 39) dX12_decade_34 (by decide) rfl (fun hc34 => ?_) (fun hc34 => ?_)
      · have H := H.1 hc34
        refine ax_aload_n (pc' := 40) dX12_decade_39 rfl rfl ?_
        refine ax_iload_n (pc' := 41) dX12_decade_40 rfl rfl ?_
        refine ax_iload_n (pc' := 42) dX12_decade_41 rfl rfl ?_
        refine ax_iload_n (pc' := 43) dX12_decade_42 rfl rfl ?_
        refine ay_V3 (pc' := 46) (ce' := 0) (sl' := 0) (mc2 := 0) (ms2 := 0) (I2 := i_X12_decadeBy) dX12_decade_43 ml_X12_414 sh_69 (by decide) rfl rfl rfl rfl rfl rfl rfl rfl rfl (ac_M.imp (o_X12_decadeBy _ p1 p2 p3 H) ?_)
        rintro _ _ ⟨s43, rfl, rfl, H⟩
        refine ax_iload (pc' := 48) dX12_decade_46 rfl rfl ?_
        refine ax_if_ne (pc' := 51) (tgt := 62) dX12_decade_48 (by decide) rfl (fun hc48 => ?_) (fun hc48 => ?_)
        · have H := H.1 hc48
          refine ax_iload (pc' := 64) dX12_decade_62 rfl rfl ?_
          refine ax_iconst (pc' := 65) (v := (1 : Int32)) dX12_decade_64 (by decide) rfl ?_
          refine ax_icmp_ne (pc' := 68) (tgt := 78) dX12_decade_65 (by decide) rfl (fun hc65 => ?_) (fun hc65 => ?_)
          · have H := H.1 hc65
            refine ax_iload (pc' := 80) dX12_decade_78 rfl rfl ?_
            refine ax_iconst (pc' := 81) (v := (2 : Int32)) dX12_decade_80 (by decide) rfl ?_
            refine ax_icmp_ne (pc' := 84) (tgt := 102) dX12_decade_81 (by decide) rfl (fun hc81 => ?_) (fun hc81 => ?_)
            · have H := H.1 hc81
              refine ax_aload_n (pc' := 103) dX12_decade_102 rfl rfl ?_
              refine ax_getR (pc' := 106) dX12_decade_103 fl_X12_70 sh_69 rfl rfl rfl ?_
              refine ay_S1 (pc' := 109) (ce' := 0) (sl' := 0) (mc2 := 0) (ms2 := 0) (I2 := i_X12_weightIn) dX12_decade_106 ml_X12_342 rfl rfl rfl rfl rfl rfl rfl rfl (ac_M.imp (o_X12_weightIn _ 557 sh_557 rfl H) ?_)
              rintro _ _ ⟨r106, s106, rfl, rfl, H⟩
              exact ax_iret dX12_decade_109 rfl rfl rfl ⟨_, _, rfl, rfl, H⟩
            · have H := H.2 hc81
              refine ax_aload_n (pc' := 85) dX12_decade_84 rfl rfl ?_
              refine ax_getR (pc' := 88) dX12_decade_85 fl_X12_70 sh_69 rfl rfl rfl ?_
              refine ax_bipush (pc' := 90) (v := (81 : Int32)) dX12_decade_88 (by decide) rfl ?_
              refine ax_iald (pc' := 91) dX12_decade_90 sh_557 (ac_in (by decide)) rfl rfl ?_
              refine ax_aload_n (pc' := 92) dX12_decade_91 rfl rfl ?_
              refine ax_getR (pc' := 95) dX12_decade_92 fl_X12_67 sh_69 rfl rfl rfl ?_
              refine ax_bipush (pc' := 97) (v := (81 : Int32)) dX12_decade_95 (by decide) rfl ?_
              refine ax_iald (pc' := 98) dX12_decade_97 sh_556 (ac_in (by decide)) rfl rfl ?_
              refine ax_isub (pc' := 99) dX12_decade_98 rfl ?_
              refine ax_goto (tgt := 109) dX12_decade_99 (by decide) ?_
              exact ax_iret dX12_decade_109 rfl rfl rfl ⟨_, _, rfl, rfl, H⟩
          · have H := H.2 hc65
            refine ax_aload_n (pc' := 69) dX12_decade_68 rfl rfl ?_
            refine ax_getR (pc' := 72) dX12_decade_69 fl_X12_70 sh_69 rfl rfl rfl ?_
            refine ay_S1 (pc' := 75) (ce' := 0) (sl' := 0) (mc2 := 0) (ms2 := 0) (I2 := i_X12_there) dX12_decade_72 ml_X12_335 rfl rfl rfl rfl rfl rfl rfl rfl (ac_M.imp (o_X12_there _ 557 sh_557 rfl H) ?_)
            rintro _ _ ⟨r72, s72, rfl, rfl, H⟩
            refine ax_goto (tgt := 109) dX12_decade_75 (by decide) ?_
            exact ax_iret dX12_decade_109 rfl rfl rfl ⟨_, _, rfl, rfl, H⟩
        · have H := H.2 hc48
          refine ax_aload_n (pc' := 52) dX12_decade_51 rfl rfl ?_
          refine ax_aload_n (pc' := 53) dX12_decade_52 rfl rfl ?_
          refine ax_getR (pc' := 56) dX12_decade_53 fl_X12_70 sh_69 rfl rfl rfl ?_
          refine ay_V1 (pc' := 59) (ce' := 0) (sl' := 0) (mc2 := 0) (ms2 := 0) (I2 := i_X12_grassIn) dX12_decade_56 ml_X12_339 sh_69 (by decide) rfl rfl rfl rfl rfl rfl rfl rfl rfl (ac_M.imp (o_X12_grassIn _ 557 sh_557 rfl H) ?_)
          rintro _ _ ⟨r56, s56, rfl, rfl, H⟩
          refine ax_goto (tgt := 109) dX12_decade_59 (by decide) ?_
          exact ax_iret dX12_decade_109 rfl rfl rfl ⟨_, _, rfl, rfl, H⟩
      · have H := H.2 hc34
        refine ax_iconst (pc' := 38) (v := (0 : Int32)) dX12_decade_37 (by decide) rfl ?_
        exact ax_iret dX12_decade_38 rfl rfl rfl ⟨_, _, rfl, rfl, H⟩
theorem ol_X12_span_71 {g : ac_G} {τ : Nat → Nat → Int64} (d : Nat) (p1 : Int32) (p2 : Int32) (p3 : Int32) (p4 : Int32) (p5 : Int32) (p6 : Int32) {Q : Int32 → ac_m → Prop}  (f1 : Int32) (f2 : Int32) (f3 : Int32) (f4 : Int32) (f5 : Int32) (f6 : Int32)  {x7 : Int32} {x8 : Int32} {x9 : Int32} {x10 : Int32} {s : ac_m} (H : l_X12_span_71 p1 p2 p3 p4 p5 p6 Q  f1 f2 f3 f4 f5 f6  x7 x8 x9 x10 s) : ac_X g i_X12_span (d + 7) 0 0 (liI τ Q) 0 0 71 [some (.ref 69), some (.int f1), some (.int f2), some (.int f3), some (.int f4), some (.int f5), some (.int f6), some (.int x7), some (.int x8), some (.int x9), some (.int x10), none] [] (false, 586, SH, s, τ) := by
  refine H (fun x7 x8 x9 x10 s => ac_X g i_X12_span (d + 7) 0 0 (liI τ Q) 0 0 71 [some (.ref 69), some (.int f1), some (.int f2), some (.int f3), some (.int f4), some (.int f5), some (.int f6), some (.int x7), some (.int x8), some (.int x9), some (.int x10), none] [] (false, 586, SH, s, τ)) ?_
  intro x7 x8 x9 x10 s H
  refine ax_iload (pc' := 73) dX12_span_71 rfl rfl ?_
  refine ax_iload_n (pc' := 74) dX12_span_73 rfl rfl ?_
  refine ax_icmp_ge (pc' := 77) (tgt := 156) dX12_span_74 (by decide) rfl (fun hc74 => ?_) (fun hc74 => ?_)
  · have H := H.1 hc74
    refine ax_iload (pc' := 158) dX12_span_156 rfl rfl ?_
    refine ax_if_ne (pc' := 161) (tgt := 166) dX12_span_158 (by decide) rfl (fun hc158 => ?_) (fun hc158 => ?_)
    · have H := H.1 hc158
      refine ax_iload (pc' := 168) dX12_span_166 rfl rfl ?_
      refine ax_iconst (pc' := 169) (v := (1 : Int32)) dX12_span_168 (by decide) rfl ?_
      refine ax_icmp_ne (pc' := 172) (tgt := 177) dX12_span_169 (by decide) rfl (fun hc169 => ?_) (fun hc169 => ?_)
      · have H := H.1 hc169
        refine ax_iload (pc' := 179) dX12_span_177 rfl rfl ?_
        exact ax_iret dX12_span_179 rfl rfl rfl ⟨_, _, rfl, rfl, H⟩
      · have H := H.2 hc169
        refine ax_iload (pc' := 174) dX12_span_172 rfl rfl ?_
        refine ax_goto (tgt := 179) dX12_span_174 (by decide) ?_
        exact ax_iret dX12_span_179 rfl rfl rfl ⟨_, _, rfl, rfl, H⟩
    · have H := H.2 hc158
      refine ax_iload (pc' := 163) dX12_span_161 rfl rfl ?_
      refine ax_goto (tgt := 179) dX12_span_163 (by decide) ?_
      exact ax_iret dX12_span_179 rfl rfl rfl ⟨_, _, rfl, rfl, H⟩
  · have H := H.2 hc74
    refine ax_aload_n (pc' := 78) dX12_span_77 rfl rfl ?_
    refine ax_iload_n (pc' := 79) dX12_span_78 rfl rfl ?_
    refine ax_iload (pc' := 81) dX12_span_79 rfl rfl ?_
    refine ax_iadd (pc' := 82) dX12_span_81 rfl ?_
    refine ax_iload_n (pc' := 83) dX12_span_82 rfl rfl ?_
    refine ax_iload (pc' := 85) dX12_span_83 rfl rfl ?_
    refine ay_V3 (pc' := 88) (ce' := 0) (sl' := 0) (mc2 := 0) (ms2 := 0) (I2 := i_X12_decadeBy) dX12_span_85 ml_X12_414 sh_69 (by decide) rfl rfl rfl rfl rfl rfl rfl rfl rfl (ac_M.imp (o_X12_decadeBy _ (f1 + x10) f3 f4 H) ?_)
    rintro _ _ ⟨s85, rfl, rfl, H⟩
    refine ax_aload_n (pc' := 89) dX12_span_88 rfl rfl ?_
    refine ax_aload_n (pc' := 90) dX12_span_89 rfl rfl ?_
    refine ax_getR (pc' := 93) dX12_span_90 fl_X12_70 sh_69 rfl rfl rfl ?_
    refine ay_V1 (pc' := 96) (ce' := 0) (sl' := 0) (mc2 := 0) (ms2 := 0) (I2 := i_X12_grassIn) dX12_span_93 ml_X12_339 sh_69 (by decide) rfl rfl rfl rfl rfl rfl rfl rfl rfl (ac_M.imp (o_X12_grassIn _ 557 sh_557 rfl H) ?_)
    rintro _ _ ⟨r93, s93, rfl, rfl, H⟩
    refine ax_istore (pc' := 98) dX12_span_96 rfl rfl rfl ?_
    refine ax_iload (pc' := 100) dX12_span_98 rfl rfl ?_
    refine ax_iconst (pc' := 101) (v := (-1 : Int32)) dX12_span_100 (by decide) rfl ?_
    refine ax_icmp_ne (pc' := 104) (tgt := 109) dX12_span_101 (by decide) rfl (fun hc101 => ?_) (fun hc101 => ?_)
    · have H := H.1 hc101
      refine ax_iload (pc' := 111) dX12_span_109 rfl rfl ?_
      refine ax_iload (pc' := 113) dX12_span_111 rfl rfl ?_
      refine ay_S2 (pc' := 116) (ce' := 0) (sl' := 0) (mc2 := 0) (ms2 := 0) (I2 := i_X12_less) dX12_span_113 ml_X12_247 rfl rfl rfl rfl rfl rfl rfl rfl (ac_M.imp (o_X12_less _ x7 r93 H) ?_)
      rintro _ _ ⟨r113, s113, rfl, rfl, H⟩
      refine ax_istore (pc' := 118) dX12_span_116 rfl rfl rfl ?_
      refine ax_iload (pc' := 120) dX12_span_118 rfl rfl ?_
      refine ax_iload (pc' := 122) dX12_span_120 rfl rfl ?_
      refine ay_S2 (pc' := 125) (ce' := 0) (sl' := 0) (mc2 := 0) (ms2 := 0) (I2 := i_X12_more) dX12_span_122 ml_X12_250 rfl rfl rfl rfl rfl rfl rfl rfl (ac_M.imp (o_X12_more _ x8 r93 H) ?_)
      rintro _ _ ⟨r122, s122, rfl, rfl, H⟩
      refine ax_istore (pc' := 127) dX12_span_125 rfl rfl rfl ?_
      refine ax_iload (pc' := 129) dX12_span_127 rfl rfl ?_
      refine ax_aload_n (pc' := 130) dX12_span_129 rfl rfl ?_
      refine ax_getR (pc' := 133) dX12_span_130 fl_X12_70 sh_69 rfl rfl rfl ?_
      refine ax_bipush (pc' := 135) (v := (39 : Int32)) dX12_span_133 (by decide) rfl ?_
      refine ax_iload (pc' := 137) dX12_span_135 rfl rfl ?_
      refine ax_iadd (pc' := 138) dX12_span_137 rfl ?_
      obtain ⟨hj138, H⟩ := H
      refine ax_iald (pc' := 139) dX12_span_138 sh_557 hj138 rfl rfl ?_
      refine ax_if_ne (pc' := 142) (tgt := 146) dX12_span_139 (by decide) rfl (fun hc139 => ?_) (fun hc139 => ?_)
      · have H := H.1 hc139
        refine ax_iconst (pc' := 147) (v := (0 : Int32)) dX12_span_146 (by decide) rfl ?_
        refine ax_iadd (pc' := 148) dX12_span_147 rfl ?_
        refine ax_istore (pc' := 150) dX12_span_148 rfl rfl rfl ?_
        refine ax_iinc (pc' := 153) (v := (x10 + (1 : Int32))) dX12_span_150 rfl rfl rfl rfl rfl ?_
        refine ax_goto (tgt := 71) dX12_span_153 (by decide) ?_
        refine ax_drop 11 rfl ?_
        exact H
      · have H := H.2 hc139
        refine ax_iconst (pc' := 143) (v := (1 : Int32)) dX12_span_142 (by decide) rfl ?_
        refine ax_goto (tgt := 147) dX12_span_143 (by decide) ?_
        refine ax_iadd (pc' := 148) dX12_span_147 rfl ?_
        refine ax_istore (pc' := 150) dX12_span_148 rfl rfl rfl ?_
        refine ax_iinc (pc' := 153) (v := (x10 + (1 : Int32))) dX12_span_150 rfl rfl rfl rfl rfl ?_
        refine ax_goto (tgt := 71) dX12_span_153 (by decide) ?_
        refine ax_drop 11 rfl ?_
        exact H
    · have H := H.2 hc101
      refine ax_iload (pc' := 106) dX12_span_104 rfl rfl ?_
      refine ax_goto (tgt := 116) dX12_span_106 (by decide) ?_
      refine ax_istore (pc' := 118) dX12_span_116 rfl rfl rfl ?_
      refine ax_iload (pc' := 120) dX12_span_118 rfl rfl ?_
      refine ax_iload (pc' := 122) dX12_span_120 rfl rfl ?_
      refine ay_S2 (pc' := 125) (ce' := 0) (sl' := 0) (mc2 := 0) (ms2 := 0) (I2 := i_X12_more) dX12_span_122 ml_X12_250 rfl rfl rfl rfl rfl rfl rfl rfl (ac_M.imp (o_X12_more _ x8 r93 H) ?_)
      rintro _ _ ⟨r122, s122, rfl, rfl, H⟩
      refine ax_istore (pc' := 127) dX12_span_125 rfl rfl rfl ?_
      refine ax_iload (pc' := 129) dX12_span_127 rfl rfl ?_
      refine ax_aload_n (pc' := 130) dX12_span_129 rfl rfl ?_
      refine ax_getR (pc' := 133) dX12_span_130 fl_X12_70 sh_69 rfl rfl rfl ?_
      refine ax_bipush (pc' := 135) (v := (39 : Int32)) dX12_span_133 (by decide) rfl ?_
      refine ax_iload (pc' := 137) dX12_span_135 rfl rfl ?_
      refine ax_iadd (pc' := 138) dX12_span_137 rfl ?_
      obtain ⟨hj138, H⟩ := H
      refine ax_iald (pc' := 139) dX12_span_138 sh_557 hj138 rfl rfl ?_
      refine ax_if_ne (pc' := 142) (tgt := 146) dX12_span_139 (by decide) rfl (fun hc139 => ?_) (fun hc139 => ?_)
      · have H := H.1 hc139
        refine ax_iconst (pc' := 147) (v := (0 : Int32)) dX12_span_146 (by decide) rfl ?_
        refine ax_iadd (pc' := 148) dX12_span_147 rfl ?_
        refine ax_istore (pc' := 150) dX12_span_148 rfl rfl rfl ?_
        refine ax_iinc (pc' := 153) (v := (x10 + (1 : Int32))) dX12_span_150 rfl rfl rfl rfl rfl ?_
        refine ax_goto (tgt := 71) dX12_span_153 (by decide) ?_
        refine ax_drop 11 rfl ?_
        exact H
      · have H := H.2 hc139
        refine ax_iconst (pc' := 143) (v := (1 : Int32)) dX12_span_142 (by decide) rfl ?_
        refine ax_goto (tgt := 147) dX12_span_143 (by decide) ?_
        refine ax_iadd (pc' := 148) dX12_span_147 rfl ?_
        refine ax_istore (pc' := 150) dX12_span_148 rfl rfl rfl ?_
        refine ax_iinc (pc' := 153) (v := (x10 + (1 : Int32))) dX12_span_150 rfl rfl rfl rfl rfl ?_
        refine ax_goto (tgt := 71) dX12_span_153 (by decide) ?_
        refine ax_drop 11 rfl ?_
        exact H
theorem o_X12_span {g : ac_G} {τ : Nat → Nat → Int64} (d : Nat) (p1 : Int32) (p2 : Int32) (p3 : Int32) (p4 : Int32) (p5 : Int32) (p6 : Int32) {Q : Int32 → ac_m → Prop} {s : ac_m} (H : w_X12_span p1 p2 p3 p4 p5 p6 Q s) : ac_M g i_X12_span (d + 7) 0 0 [.ref 69, .int p1, .int p2, .int p3, .int p4, .int p5, .int p6] (false, 586, SH, s, τ) (liI τ Q) := by
  refine ac_ofX (by decide +kernel) rfl rfl rfl ?_
  refine ax_aload_n (pc' := 1) dX12_span_0 rfl rfl ?_
  refine ax_iconst (pc' := 2) (v := (0 : Int32)) dX12_span_1 (by decide) rfl ?_
  refine ax_putI (pc' := 5) dX12_span_2 fp_X12_104 sh_69 rfl rfl rfl ?_
  refine ax_aload_n (pc' := 6) dX12_span_5 rfl rfl ?_
  refine ax_iload_n (pc' := 7) dX12_span_6 rfl rfl ?_
  refine ax_iconst (pc' := 8) (v := (1 : Int32)) dX12_span_7 (by decide) rfl ?_
  refine ax_bipush (pc' := 10) (v := (20 : Int32)) dX12_span_8 (by decide) rfl ?_
  refine ay_S3 (pc' := 13) (ce' := 0) (sl' := 0) (mc2 := 0) (ms2 := 0) (I2 := i_X12_in) dX12_span_10 ml_X12_138 rfl rfl rfl rfl rfl rfl rfl rfl (ac_M.imp (o_X12_in _ p2 (1 : Int32) (20 : Int32) H) ?_)
  rintro _ _ ⟨r10, s10, rfl, rfl, H⟩
  refine ax_if_eq (pc' := 16) (tgt := 44) dX12_span_13 (by decide) rfl (fun hc13 => ?_) (fun hc13 => ?_)
  · have H := H.1 hc13
    refine ax_iconst (pc' := 45) (v := (1 : Int32)) dX12_span_44 (by decide) rfl ?_
    refine ax_goto (tgt := 49) dX12_span_45 (by decide) ?_
    refine ax_iconst (pc' := 50) (v := (1 : Int32)) dX12_span_49 (by decide) rfl ?_
    refine ax_iconst (pc' := 51) (v := (1 : Int32)) dX12_span_50 (by decide) rfl ?_
    refine ay_V3 (pc' := 54) (ce' := 0) (sl' := 0) (mc2 := 0) (ms2 := 0) (I2 := i_X12_bad) dX12_span_51 ml_X12_183 sh_69 (by decide) rfl rfl rfl rfl rfl rfl rfl rfl rfl (ac_M.imp (o_X12_bad _ (1 : Int32) (1 : Int32) (1 : Int32) H) ?_)
    rintro _ _ ⟨r51, s51, rfl, rfl, H⟩
    refine ax_if_eq (pc' := 57) (tgt := 59) dX12_span_54 (by decide) rfl (fun hc54 => ?_) (fun hc54 => ?_)
    · have H := H.1 hc54
      refine ax_iconst (pc' := 60) (v := (-1 : Int32)) dX12_span_59 (by decide) rfl ?_
      refine ax_istore (pc' := 62) dX12_span_60 rfl rfl rfl ?_
      refine ax_iconst (pc' := 63) (v := (0 : Int32)) dX12_span_62 (by decide) rfl ?_
      refine ax_istore (pc' := 65) dX12_span_63 rfl rfl rfl ?_
      refine ax_iconst (pc' := 66) (v := (0 : Int32)) dX12_span_65 (by decide) rfl ?_
      refine ax_istore (pc' := 68) dX12_span_66 rfl rfl rfl ?_
      refine ax_iconst (pc' := 69) (v := (0 : Int32)) dX12_span_68 (by decide) rfl ?_
      refine ax_istore (pc' := 71) dX12_span_69 rfl rfl rfl ?_
      refine ol_X12_span_71 d p1 p2 p3 p4 p5 p6  _ _ _ _ _ _    H
    · have H := H.2 hc54
      refine ax_iconst (pc' := 58) (v := (0 : Int32)) dX12_span_57 (by decide) rfl ?_
      exact ax_iret dX12_span_58 rfl rfl rfl ⟨_, _, rfl, rfl, H⟩
  · have H := H.2 hc13
    refine ax_iload_n (pc' := 17) dX12_span_16 rfl rfl ?_
    refine ax_iload (pc' := 19) dX12_span_17 rfl rfl ?_
    refine ay_S2 (pc' := 22) (ce' := 0) (sl' := 0) (mc2 := 0) (ms2 := 0) (I2 := i_X12_isDecade) dX12_span_19 ml_X12_411 rfl rfl rfl rfl rfl rfl rfl rfl (ac_M.imp (o_X12_isDecade _ p3 p4 H) ?_)
    rintro _ _ ⟨r19, s19, rfl, rfl, H⟩
    refine ax_if_eq (pc' := 25) (tgt := 44) dX12_span_22 (by decide) rfl (fun hc22 => ?_) (fun hc22 => ?_)
    · have H := H.1 hc22
      refine ax_iconst (pc' := 45) (v := (1 : Int32)) dX12_span_44 (by decide) rfl ?_
      refine ax_goto (tgt := 49) dX12_span_45 (by decide) ?_
      refine ax_iconst (pc' := 50) (v := (1 : Int32)) dX12_span_49 (by decide) rfl ?_
      refine ax_iconst (pc' := 51) (v := (1 : Int32)) dX12_span_50 (by decide) rfl ?_
      refine ay_V3 (pc' := 54) (ce' := 0) (sl' := 0) (mc2 := 0) (ms2 := 0) (I2 := i_X12_bad) dX12_span_51 ml_X12_183 sh_69 (by decide) rfl rfl rfl rfl rfl rfl rfl rfl rfl (ac_M.imp (o_X12_bad _ (1 : Int32) (1 : Int32) (1 : Int32) H) ?_)
      rintro _ _ ⟨r51, s51, rfl, rfl, H⟩
      refine ax_if_eq (pc' := 57) (tgt := 59) dX12_span_54 (by decide) rfl (fun hc54 => ?_) (fun hc54 => ?_)
      · have H := H.1 hc54
        refine ax_iconst (pc' := 60) (v := (-1 : Int32)) dX12_span_59 (by decide) rfl ?_
        refine ax_istore (pc' := 62) dX12_span_60 rfl rfl rfl ?_
        refine ax_iconst (pc' := 63) (v := (0 : Int32)) dX12_span_62 (by decide) rfl ?_
        refine ax_istore (pc' := 65) dX12_span_63 rfl rfl rfl ?_
        refine ax_iconst (pc' := 66) (v := (0 : Int32)) dX12_span_65 (by decide) rfl ?_
        refine ax_istore (pc' := 68) dX12_span_66 rfl rfl rfl ?_
        refine ax_iconst (pc' := 69) (v := (0 : Int32)) dX12_span_68 (by decide) rfl ?_
        refine ax_istore (pc' := 71) dX12_span_69 rfl rfl rfl ?_
        refine ol_X12_span_71 d p1 p2 p3 p4 p5 p6  _ _ _ _ _ _    H
      · have H := H.2 hc54
        refine ax_iconst (pc' := 58) (v := (0 : Int32)) dX12_span_57 (by decide) rfl ?_
        exact ax_iret dX12_span_58 rfl rfl rfl ⟨_, _, rfl, rfl, H⟩
    · have H := H.2 hc22
      refine ax_iload (pc' := 27) dX12_span_25 rfl rfl ?_
      refine ax_iconst (pc' := 28) (v := (0 : Int32)) dX12_span_27 (by decide) rfl ?_
      refine ax_iconst (pc' := 29) (v := (2 : Int32)) dX12_span_28 (by decide) rfl ?_
      refine ay_S3 (pc' := 32) (ce' := 0) (sl' := 0) (mc2 := 0) (ms2 := 0) (I2 := i_X12_in) dX12_span_29 ml_X12_138 rfl rfl rfl rfl rfl rfl rfl rfl (ac_M.imp (o_X12_in _ p5 (0 : Int32) (2 : Int32) H) ?_)
      rintro _ _ ⟨r29, s29, rfl, rfl, H⟩
      refine ax_if_eq (pc' := 35) (tgt := 44) dX12_span_32 (by decide) rfl (fun hc32 => ?_) (fun hc32 => ?_)
      · have H := H.1 hc32
        refine ax_iconst (pc' := 45) (v := (1 : Int32)) dX12_span_44 (by decide) rfl ?_
        refine ax_goto (tgt := 49) dX12_span_45 (by decide) ?_
        refine ax_iconst (pc' := 50) (v := (1 : Int32)) dX12_span_49 (by decide) rfl ?_
        refine ax_iconst (pc' := 51) (v := (1 : Int32)) dX12_span_50 (by decide) rfl ?_
        refine ay_V3 (pc' := 54) (ce' := 0) (sl' := 0) (mc2 := 0) (ms2 := 0) (I2 := i_X12_bad) dX12_span_51 ml_X12_183 sh_69 (by decide) rfl rfl rfl rfl rfl rfl rfl rfl rfl (ac_M.imp (o_X12_bad _ (1 : Int32) (1 : Int32) (1 : Int32) H) ?_)
        rintro _ _ ⟨r51, s51, rfl, rfl, H⟩
        refine ax_if_eq (pc' := 57) (tgt := 59) dX12_span_54 (by decide) rfl (fun hc54 => ?_) (fun hc54 => ?_)
        · have H := H.1 hc54
          refine ax_iconst (pc' := 60) (v := (-1 : Int32)) dX12_span_59 (by decide) rfl ?_
          refine ax_istore (pc' := 62) dX12_span_60 rfl rfl rfl ?_
          refine ax_iconst (pc' := 63) (v := (0 : Int32)) dX12_span_62 (by decide) rfl ?_
          refine ax_istore (pc' := 65) dX12_span_63 rfl rfl rfl ?_
          refine ax_iconst (pc' := 66) (v := (0 : Int32)) dX12_span_65 (by decide) rfl ?_
          refine ax_istore (pc' := 68) dX12_span_66 rfl rfl rfl ?_
          refine ax_iconst (pc' := 69) (v := (0 : Int32)) dX12_span_68 (by decide) rfl ?_
          refine ax_istore (pc' := 71) dX12_span_69 rfl rfl rfl ?_
          refine ol_X12_span_71 d p1 p2 p3 p4 p5 p6  _ _ _ _ _ _    H
        · have H := H.2 hc54
          refine ax_iconst (pc' := 58) (v := (0 : Int32)) dX12_span_57 (by decide) rfl ?_
          exact ax_iret dX12_span_58 rfl rfl rfl ⟨_, _, rfl, rfl, H⟩
      · have H := H.2 hc32
        refine ax_aload_n (pc' := 36) dX12_span_35 rfl rfl ?_
        refine ax_iload (pc' := 38) dX12_span_36 rfl rfl ?_
        refine ay_V1 (pc' := 41) (ce' := 0) (sl' := 0) (mc2 := 0) (ms2 := 0) (I2 := i_X12_isFolk) dX12_span_38 ml_X12_348 sh_69 (by decide) rfl rfl rfl rfl rfl rfl rfl rfl rfl (ac_M.imp (o_X12_isFolk _ p6 H) ?_)
        rintro _ _ ⟨r38, s38, rfl, rfl, H⟩
        refine ax_if_ne (pc' := 44) (tgt := 48) dX12_span_41 (by decide) rfl (fun hc41 => ?_) (fun hc41 => ?_)
        · have H := H.1 hc41
          refine ax_iconst (pc' := 49) (v := (0 : Int32)) dX12_span_48 (by decide) rfl ?_
          refine ax_iconst (pc' := 50) (v := (1 : Int32)) dX12_span_49 (by decide) rfl ?_
          refine ax_iconst (pc' := 51) (v := (1 : Int32)) dX12_span_50 (by decide) rfl ?_
          refine ay_V3 (pc' := 54) (ce' := 0) (sl' := 0) (mc2 := 0) (ms2 := 0) (I2 := i_X12_bad) dX12_span_51 ml_X12_183 sh_69 (by decide) rfl rfl rfl rfl rfl rfl rfl rfl rfl (ac_M.imp (o_X12_bad _ (0 : Int32) (1 : Int32) (1 : Int32) H) ?_)
          rintro _ _ ⟨r51, s51, rfl, rfl, H⟩
          refine ax_if_eq (pc' := 57) (tgt := 59) dX12_span_54 (by decide) rfl (fun hc54 => ?_) (fun hc54 => ?_)
          · have H := H.1 hc54
            refine ax_iconst (pc' := 60) (v := (-1 : Int32)) dX12_span_59 (by decide) rfl ?_
            refine ax_istore (pc' := 62) dX12_span_60 rfl rfl rfl ?_
            refine ax_iconst (pc' := 63) (v := (0 : Int32)) dX12_span_62 (by decide) rfl ?_
            refine ax_istore (pc' := 65) dX12_span_63 rfl rfl rfl ?_
            refine ax_iconst (pc' := 66) (v := (0 : Int32)) dX12_span_65 (by decide) rfl ?_
            refine ax_istore (pc' := 68) dX12_span_66 rfl rfl rfl ?_
            refine ax_iconst (pc' := 69) (v := (0 : Int32)) dX12_span_68 (by decide) rfl ?_
            refine ax_istore (pc' := 71) dX12_span_69 rfl rfl rfl ?_
            refine ol_X12_span_71 d p1 p2 p3 p4 p5 p6  _ _ _ _ _ _    H
          · have H := H.2 hc54
            refine ax_iconst (pc' := 58) (v := (0 : Int32)) dX12_span_57 (by decide) rfl ?_
            exact ax_iret dX12_span_58 rfl rfl rfl ⟨_, _, rfl, rfl, H⟩
        · have H := H.2 hc41
          refine ax_iconst (pc' := 45) (v := (1 : Int32)) dX12_span_44 (by decide) rfl ?_
          refine ax_goto (tgt := 49) dX12_span_45 (by decide) ?_
          refine ax_iconst (pc' := 50) (v := (1 : Int32)) dX12_span_49 (by decide) rfl ?_
          refine ax_iconst (pc' := 51) (v := (1 : Int32)) dX12_span_50 (by decide) rfl ?_
          refine ay_V3 (pc' := 54) (ce' := 0) (sl' := 0) (mc2 := 0) (ms2 := 0) (I2 := i_X12_bad) dX12_span_51 ml_X12_183 sh_69 (by decide) rfl rfl rfl rfl rfl rfl rfl rfl rfl (ac_M.imp (o_X12_bad _ (1 : Int32) (1 : Int32) (1 : Int32) H) ?_)
          rintro _ _ ⟨r51, s51, rfl, rfl, H⟩
          refine ax_if_eq (pc' := 57) (tgt := 59) dX12_span_54 (by decide) rfl (fun hc54 => ?_) (fun hc54 => ?_)
          · have H := H.1 hc54
            refine ax_iconst (pc' := 60) (v := (-1 : Int32)) dX12_span_59 (by decide) rfl ?_
            refine ax_istore (pc' := 62) dX12_span_60 rfl rfl rfl ?_
            refine ax_iconst (pc' := 63) (v := (0 : Int32)) dX12_span_62 (by decide) rfl ?_
            refine ax_istore (pc' := 65) dX12_span_63 rfl rfl rfl ?_
            refine ax_iconst (pc' := 66) (v := (0 : Int32)) dX12_span_65 (by decide) rfl ?_
            refine ax_istore (pc' := 68) dX12_span_66 rfl rfl rfl ?_
            refine ax_iconst (pc' := 69) (v := (0 : Int32)) dX12_span_68 (by decide) rfl ?_
            refine ax_istore (pc' := 71) dX12_span_69 rfl rfl rfl ?_
            refine ol_X12_span_71 d p1 p2 p3 p4 p5 p6  _ _ _ _ _ _    H
          · have H := H.2 hc54
            refine ax_iconst (pc' := 58) (v := (0 : Int32)) dX12_span_57 (by decide) rfl ?_
            exact ax_iret dX12_span_58 rfl rfl rfl ⟨_, _, rfl, rfl, H⟩
theorem o_X12_puts {g : ac_G} {τ : Nat → Nat → Int64} (d : Nat) (r1 : Nat) (p2 : Int32) (p3 : Int32) (hr1 : SH r1 = .inl (0, 1412, 0)) (hn1 : Nat.blt r1 586 = true) {Q : Int32 → ac_m → Prop} {s : ac_m} (H : w_X12_puts r1 p2 p3 Q s) : ac_M g i_X12_puts d 0 0 [.ref 69, .ref r1, .int p2, .int p3] (false, 586, SH, s, τ) (liI τ Q) := by
  refine ac_ofX (by decide +kernel) rfl rfl rfl ?_
  refine ax_iload_n (pc' := 1) dX12_puts_0 rfl rfl ?_
  refine ax_if_ne (pc' := 4) (tgt := 11) dX12_puts_1 (by decide) rfl (fun hc1 => ?_) (fun hc1 => ?_)
  · have H := H.1 hc1
    refine ax_aload_n (pc' := 12) dX12_puts_11 rfl rfl ?_
    refine ax_dup (pc' := 13) dX12_puts_12 rfl rfl ?_
    refine ax_getI (pc' := 16) dX12_puts_13 fl_X12_418 sh_69 rfl rfl rfl ?_
    refine ax_iconst (pc' := 17) (v := (1 : Int32)) dX12_puts_16 (by decide) rfl ?_
    refine ax_iadd (pc' := 18) dX12_puts_17 rfl ?_
    refine ax_putI (pc' := 21) dX12_puts_18 fp_X12_418 sh_69 rfl rfl rfl ?_
    refine ax_aload_n (pc' := 22) dX12_puts_21 rfl rfl ?_
    refine ax_aload_n (pc' := 23) dX12_puts_22 rfl rfl ?_
    refine ax_getI (pc' := 26) dX12_puts_23 fl_X12_418 sh_69 rfl rfl rfl ?_
    refine ax_iconst (pc' := 27) (v := (1 : Int32)) dX12_puts_26 (by decide) rfl ?_
    refine ax_isub (pc' := 28) dX12_puts_27 rfl ?_
    obtain ⟨hj28, H⟩ := H
    refine ax_iald (pc' := 29) dX12_puts_28 hr1 hj28 hn1 rfl ?_
    exact ax_iret dX12_puts_29 rfl rfl rfl ⟨_, _, rfl, rfl, H⟩
  · have H := H.2 hc1
    refine ax_aload_n (pc' := 5) dX12_puts_4 rfl rfl ?_
    refine ax_aload_n (pc' := 6) dX12_puts_5 rfl rfl ?_
    refine ax_getI (pc' := 9) dX12_puts_6 fl_X12_418 sh_69 rfl rfl rfl ?_
    refine ax_iload_n (pc' := 10) dX12_puts_9 rfl rfl ?_
    obtain ⟨hj10, H⟩ := H
    refine ax_iast (pc' := 11) dX12_puts_10 hr1 hj10 hn1 rfl ?_
    refine ax_aload_n (pc' := 12) dX12_puts_11 rfl rfl ?_
    refine ax_dup (pc' := 13) dX12_puts_12 rfl rfl ?_
    refine ax_getI (pc' := 16) dX12_puts_13 fl_X12_418 sh_69 rfl rfl rfl ?_
    refine ax_iconst (pc' := 17) (v := (1 : Int32)) dX12_puts_16 (by decide) rfl ?_
    refine ax_iadd (pc' := 18) dX12_puts_17 rfl ?_
    refine ax_putI (pc' := 21) dX12_puts_18 fp_X12_418 sh_69 rfl rfl rfl ?_
    refine ax_aload_n (pc' := 22) dX12_puts_21 rfl rfl ?_
    refine ax_aload_n (pc' := 23) dX12_puts_22 rfl rfl ?_
    refine ax_getI (pc' := 26) dX12_puts_23 fl_X12_418 sh_69 rfl rfl rfl ?_
    refine ax_iconst (pc' := 27) (v := (1 : Int32)) dX12_puts_26 (by decide) rfl ?_
    refine ax_isub (pc' := 28) dX12_puts_27 rfl ?_
    obtain ⟨hj28, H⟩ := H
    refine ax_iald (pc' := 29) dX12_puts_28 hr1 hj28 hn1 rfl ?_
    exact ax_iret dX12_puts_29 rfl rfl rfl ⟨_, _, rfl, rfl, H⟩
theorem ol_X12_putsAll_62 {g : ac_G} {τ : Nat → Nat → Int64} (d : Nat) (r1 : Nat) (p2 : Int32) (hr1 : SH r1 = .inl (0, 1412, 0)) (hn1 : Nat.blt r1 586 = true) {Q : ac_m → Prop} {K99 : ac_m → Prop} (f2 : Int32) (f3 : Int32)  {x4 : Int32} {s : ac_m} (hK99 : ∀  (s : ac_m), K99  s → ac_X g i_X12_putsAll (d + 1) 0 0 (liV τ Q) 0 0 99 [some (.ref 69), some (.ref r1), some (.int f2), some (.int f3), none] [] (false, 586, SH, s, τ)) (H : l_X12_putsAll_62 r1 p2 Q K99 f2 f3  x4 s) : ac_X g i_X12_putsAll (d + 1) 0 0 (liV τ Q) 0 0 62 [some (.ref 69), some (.ref r1), some (.int f2), some (.int f3), some (.int x4)] [] (false, 586, SH, s, τ) := by
  refine H (fun x4 s => ac_X g i_X12_putsAll (d + 1) 0 0 (liV τ Q) 0 0 62 [some (.ref 69), some (.ref r1), some (.int f2), some (.int f3), some (.int x4)] [] (false, 586, SH, s, τ)) ?_
  intro x4 s H
  refine ax_iload (pc' := 64) dX12_putsAll_62 rfl rfl ?_
  refine ax_bipush (pc' := 66) (v := (83 : Int32)) dX12_putsAll_64 (by decide) rfl ?_
  refine ax_icmp_ge (pc' := 69) (tgt := 99) dX12_putsAll_66 (by decide) rfl (fun hc66 => ?_) (fun hc66 => ?_)
  · have H := H.1 hc66
    refine ax_drop 4 rfl ?_
    exact hK99 _ H
  · have H := H.2 hc66
    refine ax_aload_n (pc' := 70) dX12_putsAll_69 rfl rfl ?_
    refine ax_getR (pc' := 73) dX12_putsAll_70 fl_X12_76 sh_69 rfl rfl rfl ?_
    refine ax_iload_n (pc' := 74) dX12_putsAll_73 rfl rfl ?_
    obtain ⟨hj74, H⟩ := H
    refine ax_aald (pc' := 75) dX12_putsAll_74 sh_559 hj74 rfl rfl ?_
    refine ax_iload (pc' := 77) dX12_putsAll_75 rfl rfl ?_
    refine ax_aload_n (pc' := 78) dX12_putsAll_77 rfl rfl ?_
    refine ax_aload_n (pc' := 79) dX12_putsAll_78 rfl rfl ?_
    refine ax_aload_n (pc' := 80) dX12_putsAll_79 rfl rfl ?_
    refine ax_getR (pc' := 83) dX12_putsAll_80 fl_X12_76 sh_69 rfl rfl rfl ?_
    refine ax_iload_n (pc' := 84) dX12_putsAll_83 rfl rfl ?_
    obtain ⟨hj84, H⟩ := H
    refine ax_aald (pc' := 85) dX12_putsAll_84 sh_559 hj84 rfl rfl ?_
    refine ax_iload (pc' := 87) dX12_putsAll_85 rfl rfl ?_
    obtain ⟨hj87, H⟩ := H
    refine ax_iald (pc' := 88) dX12_putsAll_87 (sh_r_560 _ (ac_lt hj84)) hj87 (sh_n_560 _ (ac_lt hj84)) rfl ?_
    refine ax_iload_n (pc' := 89) dX12_putsAll_88 rfl rfl ?_
    refine ay_V3 (pc' := 92) (ce' := 0) (sl' := 0) (mc2 := 0) (ms2 := 0) (I2 := i_X12_puts) dX12_putsAll_89 ml_X12_421 sh_69 (by decide) rfl rfl rfl rfl rfl rfl rfl rfl rfl (ac_M.imp (o_X12_puts _ r1 (s (560 + f3.toNatClampNeg) x4.toNatClampNeg) f2 hr1 hn1 H) ?_)
    rintro _ _ ⟨r89, s89, rfl, rfl, H⟩
    obtain ⟨hj92, H⟩ := H
    refine ax_iast (pc' := 93) dX12_putsAll_92 (sh_r_560 _ (ac_lt hj74)) hj92 (sh_n_560 _ (ac_lt hj74)) rfl ?_
    refine ax_iinc (pc' := 96) (v := (x4 + (1 : Int32))) dX12_putsAll_93 rfl rfl rfl rfl rfl ?_
    refine ax_goto (tgt := 62) dX12_putsAll_96 (by decide) ?_
    exact H
theorem ol_X12_putsAll_53 {g : ac_G} {τ : Nat → Nat → Int64} (d : Nat) (r1 : Nat) (p2 : Int32) (hr1 : SH r1 = .inl (0, 1412, 0)) (hn1 : Nat.blt r1 586 = true) {Q : ac_m → Prop}  (f2 : Int32)  {x3 : Int32} {s : ac_m} (H : l_X12_putsAll_53 r1 p2 Q  f2  x3 s) : ac_X g i_X12_putsAll (d + 1) 0 0 (liV τ Q) 0 0 53 [some (.ref 69), some (.ref r1), some (.int f2), some (.int x3), none] [] (false, 586, SH, s, τ) := by
  refine H (fun x3 s => ac_X g i_X12_putsAll (d + 1) 0 0 (liV τ Q) 0 0 53 [some (.ref 69), some (.ref r1), some (.int f2), some (.int x3), none] [] (false, 586, SH, s, τ)) ?_
  intro x3 s H
  refine ax_iload_n (pc' := 54) dX12_putsAll_53 rfl rfl ?_
  refine ax_bipush (pc' := 56) (v := (16 : Int32)) dX12_putsAll_54 (by decide) rfl ?_
  refine ax_icmp_ge (pc' := 59) (tgt := 105) dX12_putsAll_56 (by decide) rfl (fun hc56 => ?_) (fun hc56 => ?_)
  · have H := H.1 hc56
    exact ax_vret dX12_putsAll_105 rfl rfl rfl ⟨_, rfl, rfl, H⟩
  · have H := H.2 hc56
    refine ax_iconst (pc' := 60) (v := (0 : Int32)) dX12_putsAll_59 (by decide) rfl ?_
    refine ax_istore (pc' := 62) dX12_putsAll_60 rfl rfl rfl ?_
    refine ol_X12_putsAll_62 d r1 p2 hr1 hn1 _ _   ?_ H
    · intro  sk62 H
      refine ax_iinc (pc' := 102) (v := (x3 + (1 : Int32))) dX12_putsAll_99 rfl rfl rfl rfl rfl ?_
      refine ax_goto (tgt := 53) dX12_putsAll_102 (by decide) ?_
      exact H
theorem ol_X12_putsAll_21 {g : ac_G} {τ : Nat → Nat → Int64} (d : Nat) (r1 : Nat) (p2 : Int32) (hr1 : SH r1 = .inl (0, 1412, 0)) (hn1 : Nat.blt r1 586 = true) {Q : ac_m → Prop}  (f2 : Int32)  {x3 : Int32} {s : ac_m} (H : l_X12_putsAll_21 r1 p2 Q  f2  x3 s) : ac_X g i_X12_putsAll (d + 1) 0 0 (liV τ Q) 0 0 21 [some (.ref 69), some (.ref r1), some (.int f2), some (.int x3), none] [] (false, 586, SH, s, τ) := by
  refine H (fun x3 s => ac_X g i_X12_putsAll (d + 1) 0 0 (liV τ Q) 0 0 21 [some (.ref 69), some (.ref r1), some (.int f2), some (.int x3), none] [] (false, 586, SH, s, τ)) ?_
  intro x3 s H
  refine ax_iload_n (pc' := 22) dX12_putsAll_21 rfl rfl ?_
  refine ax_bipush (pc' := 24) (v := (83 : Int32)) dX12_putsAll_22 (by decide) rfl ?_
  refine ax_icmp_ge (pc' := 27) (tgt := 51) dX12_putsAll_24 (by decide) rfl (fun hc24 => ?_) (fun hc24 => ?_)
  · have H := H.1 hc24
    refine ax_iconst (pc' := 52) (v := (0 : Int32)) dX12_putsAll_51 (by decide) rfl ?_
    refine ax_istore_n (pc' := 53) dX12_putsAll_52 rfl rfl rfl ?_
    refine ol_X12_putsAll_53 d r1 p2 hr1 hn1 _    H
  · have H := H.2 hc24
    refine ax_aload_n (pc' := 28) dX12_putsAll_27 rfl rfl ?_
    refine ax_getR (pc' := 31) dX12_putsAll_28 fl_X12_67 sh_69 rfl rfl rfl ?_
    refine ax_iload_n (pc' := 32) dX12_putsAll_31 rfl rfl ?_
    refine ax_aload_n (pc' := 33) dX12_putsAll_32 rfl rfl ?_
    refine ax_aload_n (pc' := 34) dX12_putsAll_33 rfl rfl ?_
    refine ax_aload_n (pc' := 35) dX12_putsAll_34 rfl rfl ?_
    refine ax_getR (pc' := 38) dX12_putsAll_35 fl_X12_67 sh_69 rfl rfl rfl ?_
    refine ax_iload_n (pc' := 39) dX12_putsAll_38 rfl rfl ?_
    obtain ⟨hj39, H⟩ := H
    refine ax_iald (pc' := 40) dX12_putsAll_39 sh_556 hj39 rfl rfl ?_
    refine ax_iload_n (pc' := 41) dX12_putsAll_40 rfl rfl ?_
    refine ay_V3 (pc' := 44) (ce' := 0) (sl' := 0) (mc2 := 0) (ms2 := 0) (I2 := i_X12_puts) dX12_putsAll_41 ml_X12_421 sh_69 (by decide) rfl rfl rfl rfl rfl rfl rfl rfl rfl (ac_M.imp (o_X12_puts _ r1 (s 556 x3.toNatClampNeg) f2 hr1 hn1 H) ?_)
    rintro _ _ ⟨r41, s41, rfl, rfl, H⟩
    obtain ⟨hj44, H⟩ := H
    refine ax_iast (pc' := 45) dX12_putsAll_44 sh_556 hj44 rfl rfl ?_
    refine ax_iinc (pc' := 48) (v := (x3 + (1 : Int32))) dX12_putsAll_45 rfl rfl rfl rfl rfl ?_
    refine ax_goto (tgt := 21) dX12_putsAll_48 (by decide) ?_
    exact H
theorem o_X12_putsAll {g : ac_G} {τ : Nat → Nat → Int64} (d : Nat) (r1 : Nat) (p2 : Int32) (hr1 : SH r1 = .inl (0, 1412, 0)) (hn1 : Nat.blt r1 586 = true) {Q : ac_m → Prop} {s : ac_m} (H : w_X12_putsAll r1 p2 Q s) : ac_M g i_X12_putsAll (d + 1) 0 0 [.ref 69, .ref r1, .int p2] (false, 586, SH, s, τ) (liV τ Q) := by
  refine ac_ofX (by decide +kernel) rfl rfl rfl ?_
  refine ax_aload_n (pc' := 1) dX12_putsAll_0 rfl rfl ?_
  refine ax_iconst (pc' := 2) (v := (0 : Int32)) dX12_putsAll_1 (by decide) rfl ?_
  refine ax_putI (pc' := 5) dX12_putsAll_2 fp_X12_418 sh_69 rfl rfl rfl ?_
  refine ax_aload_n (pc' := 6) dX12_putsAll_5 rfl rfl ?_
  refine ax_aload_n (pc' := 7) dX12_putsAll_6 rfl rfl ?_
  refine ax_aload_n (pc' := 8) dX12_putsAll_7 rfl rfl ?_
  refine ax_aload_n (pc' := 9) dX12_putsAll_8 rfl rfl ?_
  refine ax_getI (pc' := 12) dX12_putsAll_9 fl_X12_210 sh_69 rfl rfl rfl ?_
  refine ax_iload_n (pc' := 13) dX12_putsAll_12 rfl rfl ?_
  refine ay_V3 (pc' := 16) (ce' := 0) (sl' := 0) (mc2 := 0) (ms2 := 0) (I2 := i_X12_puts) dX12_putsAll_13 ml_X12_421 sh_69 (by decide) rfl rfl rfl rfl rfl rfl rfl rfl rfl (ac_M.imp (o_X12_puts _ r1 ((ac_u s 69 38 (0 : Int32)) 69 35) p2 hr1 hn1 H) ?_)
  rintro _ _ ⟨r13, s13, rfl, rfl, H⟩
  refine ax_putI (pc' := 19) dX12_putsAll_16 fp_X12_210 sh_69 rfl rfl rfl ?_
  refine ax_iconst (pc' := 20) (v := (0 : Int32)) dX12_putsAll_19 (by decide) rfl ?_
  refine ax_istore_n (pc' := 21) dX12_putsAll_20 rfl rfl rfl ?_
  refine ol_X12_putsAll_21 d r1 p2 hr1 hn1 _    H
theorem o_X12_image {g : ac_G} {τ : Nat → Nat → Int64} (d : Nat)  {Q : Int32 → ac_m → Prop} {s : ac_m} (H : w_X12_image  Q s) : ac_M g i_X12_image (d + 2) 0 0 [.ref 69] (false, 586, SH, s, τ) (liI τ Q) := by
  refine ac_ofX (by decide +kernel) rfl rfl rfl ?_
  refine ax_aload_n (pc' := 1) dX12_image_0 rfl rfl ?_
  refine ax_iconst (pc' := 2) (v := (0 : Int32)) dX12_image_1 (by decide) rfl ?_
  refine ax_putI (pc' := 5) dX12_image_2 fp_X12_104 sh_69 rfl rfl rfl ?_
  refine ax_aload_n (pc' := 6) dX12_image_5 rfl rfl ?_
  refine ax_getI (pc' := 9) dX12_image_6 fl_X12_216 sh_69 rfl rfl rfl ?_
  refine ax_iconst (pc' := 10) (v := (3 : Int32)) dX12_image_9 (by decide) rfl ?_
  refine ax_icmp_ne (pc' := 13) (tgt := 15) dX12_image_10 (by decide) rfl (fun hc10 => ?_) (fun hc10 => ?_)
  · have H := H.1 hc10
    refine ax_aload_n (pc' := 16) dX12_image_15 rfl rfl ?_
    refine ax_aload_n (pc' := 17) dX12_image_16 rfl rfl ?_
    refine ax_getR (pc' := 20) dX12_image_17 fl_X12_79 sh_69 rfl rfl rfl ?_
    refine ax_aload_n (pc' := 21) dX12_image_20 rfl rfl ?_
    refine ax_getI (pc' := 24) dX12_image_21 fl_X12_216 sh_69 rfl rfl rfl ?_
    obtain ⟨hj24, H⟩ := H
    refine ax_aald (pc' := 25) dX12_image_24 sh_576 hj24 rfl rfl ?_
    refine ax_iconst (pc' := 26) (v := (0 : Int32)) dX12_image_25 (by decide) rfl ?_
    refine ay_V2 (pc' := 29) (ce' := 0) (sl' := 0) (mc2 := 0) (ms2 := 0) (I2 := i_X12_putsAll) dX12_image_26 ml_X12_425 sh_69 (by decide) rfl rfl rfl rfl rfl rfl rfl rfl rfl (ac_M.imp (o_X12_putsAll _ (577 + ((ac_u s 69 0 (0 : Int32)) 69 37).toNatClampNeg) (0 : Int32) (sh_r_577 _ (ac_lt hj24)) (sh_n_577 _ (ac_lt hj24)) H) ?_)
    rintro _ _ ⟨s26, rfl, rfl, H⟩
    refine ax_aload_n (pc' := 30) dX12_image_29 rfl rfl ?_
    refine ax_dup (pc' := 31) dX12_image_30 rfl rfl ?_
    refine ax_getI (pc' := 34) dX12_image_31 fl_X12_216 sh_69 rfl rfl rfl ?_
    refine ax_iconst (pc' := 35) (v := (1 : Int32)) dX12_image_34 (by decide) rfl ?_
    refine ax_iadd (pc' := 36) dX12_image_35 rfl ?_
    refine ax_putI (pc' := 39) dX12_image_36 fp_X12_216 sh_69 rfl rfl rfl ?_
    refine ax_aload_n (pc' := 40) dX12_image_39 rfl rfl ?_
    refine ax_getI (pc' := 43) dX12_image_40 fl_X12_216 sh_69 rfl rfl rfl ?_
    exact ax_iret dX12_image_43 rfl rfl rfl ⟨_, _, rfl, rfl, H⟩
  · have H := H.2 hc10
    refine ax_iconst (pc' := 14) (v := (-1 : Int32)) dX12_image_13 (by decide) rfl ?_
    exact ax_iret dX12_image_14 rfl rfl rfl ⟨_, _, rfl, rfl, H⟩
theorem o_X12_restore {g : ac_G} {τ : Nat → Nat → Int64} (d : Nat)  {Q : Int32 → ac_m → Prop} {s : ac_m} (H : w_X12_restore  Q s) : ac_M g i_X12_restore (d + 2) 0 0 [.ref 69] (false, 586, SH, s, τ) (liI τ Q) := by
  refine ac_ofX (by decide +kernel) rfl rfl rfl ?_
  refine ax_aload_n (pc' := 1) dX12_restore_0 rfl rfl ?_
  refine ax_iconst (pc' := 2) (v := (0 : Int32)) dX12_restore_1 (by decide) rfl ?_
  refine ax_putI (pc' := 5) dX12_restore_2 fp_X12_104 sh_69 rfl rfl rfl ?_
  refine ax_aload_n (pc' := 6) dX12_restore_5 rfl rfl ?_
  refine ax_getI (pc' := 9) dX12_restore_6 fl_X12_216 sh_69 rfl rfl rfl ?_
  refine ax_if_ne (pc' := 12) (tgt := 14) dX12_restore_9 (by decide) rfl (fun hc9 => ?_) (fun hc9 => ?_)
  · have H := H.1 hc9
    refine ax_aload_n (pc' := 15) dX12_restore_14 rfl rfl ?_
    refine ax_dup (pc' := 16) dX12_restore_15 rfl rfl ?_
    refine ax_getI (pc' := 19) dX12_restore_16 fl_X12_216 sh_69 rfl rfl rfl ?_
    refine ax_iconst (pc' := 20) (v := (1 : Int32)) dX12_restore_19 (by decide) rfl ?_
    refine ax_isub (pc' := 21) dX12_restore_20 rfl ?_
    refine ax_putI (pc' := 24) dX12_restore_21 fp_X12_216 sh_69 rfl rfl rfl ?_
    refine ax_aload_n (pc' := 25) dX12_restore_24 rfl rfl ?_
    refine ax_aload_n (pc' := 26) dX12_restore_25 rfl rfl ?_
    refine ax_getR (pc' := 29) dX12_restore_26 fl_X12_79 sh_69 rfl rfl rfl ?_
    refine ax_aload_n (pc' := 30) dX12_restore_29 rfl rfl ?_
    refine ax_getI (pc' := 33) dX12_restore_30 fl_X12_216 sh_69 rfl rfl rfl ?_
    obtain ⟨hj33, H⟩ := H
    refine ax_aald (pc' := 34) dX12_restore_33 sh_576 hj33 rfl rfl ?_
    refine ax_iconst (pc' := 35) (v := (1 : Int32)) dX12_restore_34 (by decide) rfl ?_
    refine ay_V2 (pc' := 38) (ce' := 0) (sl' := 0) (mc2 := 0) (ms2 := 0) (I2 := i_X12_putsAll) dX12_restore_35 ml_X12_425 sh_69 (by decide) rfl rfl rfl rfl rfl rfl rfl rfl rfl (ac_M.imp (o_X12_putsAll _ (577 + ((ac_u (ac_u s 69 0 (0 : Int32)) 69 37 (((ac_u s 69 0 (0 : Int32)) 69 37) - (1 : Int32))) 69 37).toNatClampNeg) (1 : Int32) (sh_r_577 _ (ac_lt hj33)) (sh_n_577 _ (ac_lt hj33)) H) ?_)
    rintro _ _ ⟨s35, rfl, rfl, H⟩
    refine ax_aload_n (pc' := 39) dX12_restore_38 rfl rfl ?_
    refine ax_iconst (pc' := 40) (v := (0 : Int32)) dX12_restore_39 (by decide) rfl ?_
    refine ax_putI (pc' := 43) dX12_restore_40 fp_X12_213 sh_69 rfl rfl rfl ?_
    refine ax_aload_n (pc' := 44) dX12_restore_43 rfl rfl ?_
    refine ax_getI (pc' := 47) dX12_restore_44 fl_X12_216 sh_69 rfl rfl rfl ?_
    exact ax_iret dX12_restore_47 rfl rfl rfl ⟨_, _, rfl, rfl, H⟩
  · have H := H.2 hc9
    refine ax_iconst (pc' := 13) (v := (-1 : Int32)) dX12_restore_12 (by decide) rfl ?_
    exact ax_iret dX12_restore_13 rfl rfl rfl ⟨_, _, rfl, rfl, H⟩
theorem o_X12_status {g : ac_G} {τ : Nat → Nat → Int64} (d : Nat) (p1 : Int32) {Q : Int32 → ac_m → Prop} {s : ac_m} (H : w_X12_status p1 Q s) : ac_M g i_X12_status (d + 1) 0 0 [.ref 69, .int p1] (false, 586, SH, s, τ) (liI τ Q) := by
  refine ac_ofX (by decide +kernel) rfl rfl rfl ?_
  refine ax_aload_n (pc' := 1) dX12_status_0 rfl rfl ?_
  refine ax_iconst (pc' := 2) (v := (0 : Int32)) dX12_status_1 (by decide) rfl ?_
  refine ax_putI (pc' := 5) dX12_status_2 fp_X12_104 sh_69 rfl rfl rfl ?_
  refine ax_iload_n (pc' := 6) dX12_status_5 rfl rfl ?_
  refine ax_iconst (pc' := 7) (v := (0 : Int32)) dX12_status_6 (by decide) rfl ?_
  refine ax_iconst (pc' := 8) (v := (1 : Int32)) dX12_status_7 (by decide) rfl ?_
  refine ay_S3 (pc' := 11) (ce' := 0) (sl' := 0) (mc2 := 0) (ms2 := 0) (I2 := i_X12_in) dX12_status_8 ml_X12_138 rfl rfl rfl rfl rfl rfl rfl rfl (ac_M.imp (o_X12_in _ p1 (0 : Int32) (1 : Int32) H) ?_)
  rintro _ _ ⟨r8, s8, rfl, rfl, H⟩
  refine ax_if_eq (pc' := 14) (tgt := 23) dX12_status_11 (by decide) rfl (fun hc11 => ?_) (fun hc11 => ?_)
  · have H := H.1 hc11
    refine ax_iconst (pc' := 24) (v := (-1 : Int32)) dX12_status_23 (by decide) rfl ?_
    exact ax_iret dX12_status_24 rfl rfl rfl ⟨_, _, rfl, rfl, H⟩
  · have H := H.2 hc11
    refine ax_aload_n (pc' := 15) dX12_status_14 rfl rfl ?_
    refine ax_getR (pc' := 18) dX12_status_15 fl_X12_17 sh_69 rfl rfl rfl ?_
    refine ax_iload_n (pc' := 19) dX12_status_18 rfl rfl ?_
    obtain ⟨hj19, H⟩ := H
    refine ax_iald (pc' := 20) dX12_status_19 sh_71 hj19 rfl rfl ?_
    refine ax_goto (tgt := 24) dX12_status_20 (by decide) ?_
    exact ax_iret dX12_status_24 rfl rfl rfl ⟨_, _, rfl, rfl, H⟩
theorem o_X12_count {g : ac_G} {τ : Nat → Nat → Int64} (d : Nat) (p1 : Int32) {Q : Int32 → ac_m → Prop} {s : ac_m} (H : w_X12_count p1 Q s) : ac_M g i_X12_count d 0 0 [.ref 69, .int p1] (false, 586, SH, s, τ) (liI τ Q) := by
  refine ac_ofX (by decide +kernel) rfl rfl rfl ?_
  refine ax_aload_n (pc' := 1) dX12_count_0 rfl rfl ?_
  refine ax_iconst (pc' := 2) (v := (0 : Int32)) dX12_count_1 (by decide) rfl ?_
  refine ax_putI (pc' := 5) dX12_count_2 fp_X12_104 sh_69 rfl rfl rfl ?_
  refine ax_iload_n (pc' := 6) dX12_count_5 rfl rfl ?_
  refine ax_if_ne (pc' := 9) (tgt := 16) dX12_count_6 (by decide) rfl (fun hc6 => ?_) (fun hc6 => ?_)
  · have H := H.1 hc6
    refine ax_iload_n (pc' := 17) dX12_count_16 rfl rfl ?_
    refine ax_iconst (pc' := 18) (v := (1 : Int32)) dX12_count_17 (by decide) rfl ?_
    refine ax_icmp_ne (pc' := 21) (tgt := 28) dX12_count_18 (by decide) rfl (fun hc18 => ?_) (fun hc18 => ?_)
    · have H := H.1 hc18
      refine ax_iload_n (pc' := 29) dX12_count_28 rfl rfl ?_
      refine ax_iconst (pc' := 30) (v := (2 : Int32)) dX12_count_29 (by decide) rfl ?_
      refine ax_icmp_ne (pc' := 33) (tgt := 40) dX12_count_30 (by decide) rfl (fun hc30 => ?_) (fun hc30 => ?_)
      · have H := H.1 hc30
        refine ax_iconst (pc' := 41) (v := (-1 : Int32)) dX12_count_40 (by decide) rfl ?_
        exact ax_iret dX12_count_41 rfl rfl rfl ⟨_, _, rfl, rfl, H⟩
      · have H := H.2 hc30
        refine ax_aload_n (pc' := 34) dX12_count_33 rfl rfl ?_
        refine ax_getI (pc' := 37) dX12_count_34 fl_X12_210 sh_69 rfl rfl rfl ?_
        refine ax_goto (tgt := 41) dX12_count_37 (by decide) ?_
        exact ax_iret dX12_count_41 rfl rfl rfl ⟨_, _, rfl, rfl, H⟩
    · have H := H.2 hc18
      refine ax_aload_n (pc' := 22) dX12_count_21 rfl rfl ?_
      refine ax_getI (pc' := 25) dX12_count_22 fl_X12_107 sh_69 rfl rfl rfl ?_
      refine ax_goto (tgt := 41) dX12_count_25 (by decide) ?_
      exact ax_iret dX12_count_41 rfl rfl rfl ⟨_, _, rfl, rfl, H⟩
  · have H := H.2 hc6
    refine ax_aload_n (pc' := 10) dX12_count_9 rfl rfl ?_
    refine ax_getI (pc' := 13) dX12_count_10 fl_X12_216 sh_69 rfl rfl rfl ?_
    refine ax_goto (tgt := 41) dX12_count_13 (by decide) ?_
    exact ax_iret dX12_count_41 rfl rfl rfl ⟨_, _, rfl, rfl, H⟩
